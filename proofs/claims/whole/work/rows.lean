section
-- ===== PART A: goes FIRST, ahead of the names: the tables' words, and 'selects' of the private methods out of them =====
/-- a private method of a class that the tables say can be made, by its rows of tables_1 -/
def lw_okq (q : MethodName × Nat) : Prop := (q.1.cls ≠ "java/lang/invoke/MethodHandle" ∧ q.1.cls ≠ "java/lang/invoke/VarHandle") ∧ Cond.instantiable q.1.cls q.2 ∈ tables_1 ∧ Cond.privateMethod q.1 ∈ tables_1 ∧ Cond.instanceMethod q.1 ∈ tables_1
theorem lw_p0 : lw_okq (⟨"HelpDesk", "breaksAnswer", "(LHelpDesk$Ticket;)Z"⟩, 6) := ⟨⟨by decide +kernel, by decide +kernel⟩, List.mem_of_getElem? (i := 22) (by decide +kernel), List.mem_of_getElem? (i := 122) (by decide +kernel), List.mem_of_getElem? (i := 123) (by decide +kernel)⟩
theorem lw_p1 : lw_okq (⟨"HelpDesk", "breaksSolution", "(LHelpDesk$Ticket;)Z"⟩, 6) := ⟨⟨by decide +kernel, by decide +kernel⟩, List.mem_of_getElem? (i := 22) (by decide +kernel), List.mem_of_getElem? (i := 126) (by decide +kernel), List.mem_of_getElem? (i := 127) (by decide +kernel)⟩
theorem lw_p2 : lw_okq (⟨"HelpDesk", "slackOf", "(LHelpDesk$Ticket;)I"⟩, 6) := ⟨⟨by decide +kernel, by decide +kernel⟩, List.mem_of_getElem? (i := 22) (by decide +kernel), List.mem_of_getElem? (i := 130) (by decide +kernel), List.mem_of_getElem? (i := 131) (by decide +kernel)⟩
theorem lw_p3 : lw_okq (⟨"HelpDesk", "digestedAgent", "(JLHelpDesk$Agent;)J"⟩, 6) := ⟨⟨by decide +kernel, by decide +kernel⟩, List.mem_of_getElem? (i := 22) (by decide +kernel), List.mem_of_getElem? (i := 156) (by decide +kernel), List.mem_of_getElem? (i := 157) (by decide +kernel)⟩
theorem lw_p4 : lw_okq (⟨"HelpDesk", "toldOfAgent", "(LHelpDesk$Agent;I)I"⟩, 6) := ⟨⟨by decide +kernel, by decide +kernel⟩, List.mem_of_getElem? (i := 22) (by decide +kernel), List.mem_of_getElem? (i := 160) (by decide +kernel), List.mem_of_getElem? (i := 161) (by decide +kernel)⟩
theorem lw_p5 : lw_okq (⟨"java/lang/Throwable", "fillInStackTrace", "(I)Ljava/lang/Throwable;"⟩, 6) := ⟨⟨by decide +kernel, by decide +kernel⟩, List.mem_of_getElem? (i := 235) (by decide +kernel), List.mem_of_getElem? (i := 233) (by decide +kernel), List.mem_of_getElem? (i := 234) (by decide +kernel)⟩
theorem lw_p6 : lw_okq (⟨"HelpDesk$Hours", "minutesOfDay", "(III)I"⟩, 2) := ⟨⟨by decide +kernel, by decide +kernel⟩, List.mem_of_getElem? (i := 30) (by decide +kernel), List.mem_of_getElem? (i := 306) (by decide +kernel), List.mem_of_getElem? (i := 307) (by decide +kernel)⟩
theorem lw_p7 : lw_okq (⟨"java/util/ArrayList", "add", "(Ljava/lang/Object;[Ljava/lang/Object;I)V"⟩, 3) := ⟨⟨by decide +kernel, by decide +kernel⟩, List.mem_of_getElem? (i := 45) (by decide +kernel), List.mem_of_getElem? (i := 381) (by decide +kernel), List.mem_of_getElem? (i := 382) (by decide +kernel)⟩
theorem lw_p8 : lw_okq (⟨"java/util/ArrayList", "grow", "()[Ljava/lang/Object;"⟩, 3) := ⟨⟨by decide +kernel, by decide +kernel⟩, List.mem_of_getElem? (i := 45) (by decide +kernel), List.mem_of_getElem? (i := 385) (by decide +kernel), List.mem_of_getElem? (i := 386) (by decide +kernel)⟩
theorem lw_p9 : lw_okq (⟨"java/util/ArrayList", "grow", "(I)[Ljava/lang/Object;"⟩, 3) := ⟨⟨by decide +kernel, by decide +kernel⟩, List.mem_of_getElem? (i := 45) (by decide +kernel), List.mem_of_getElem? (i := 389) (by decide +kernel), List.mem_of_getElem? (i := 390) (by decide +kernel)⟩
theorem lw_p10 : lw_okq (⟨"HelpDesk", "agentAt", "(I)LHelpDesk$Agent;"⟩, 6) := ⟨⟨by decide +kernel, by decide +kernel⟩, List.mem_of_getElem? (i := 22) (by decide +kernel), List.mem_of_getElem? (i := 436) (by decide +kernel), List.mem_of_getElem? (i := 437) (by decide +kernel)⟩
theorem lw_p11 : lw_okq (⟨"HelpDesk", "firstByLiking", "(LHelpDesk$Agent;)LHelpDesk$Ticket;"⟩, 6) := ⟨⟨by decide +kernel, by decide +kernel⟩, List.mem_of_getElem? (i := 22) (by decide +kernel), List.mem_of_getElem? (i := 467) (by decide +kernel), List.mem_of_getElem? (i := 468) (by decide +kernel)⟩
theorem lw_p12 : lw_okq (⟨"HelpDesk", "isLikedMore", "(LHelpDesk$Agent;LHelpDesk$Ticket;LHelpDesk$Ticket;)Z"⟩, 6) := ⟨⟨by decide +kernel, by decide +kernel⟩, List.mem_of_getElem? (i := 22) (by decide +kernel), List.mem_of_getElem? (i := 471) (by decide +kernel), List.mem_of_getElem? (i := 472) (by decide +kernel)⟩
theorem lw_p13 : lw_okq (⟨"HelpDesk", "ticketAt", "(I)LHelpDesk$Ticket;"⟩, 6) := ⟨⟨by decide +kernel, by decide +kernel⟩, List.mem_of_getElem? (i := 22) (by decide +kernel), List.mem_of_getElem? (i := 549) (by decide +kernel), List.mem_of_getElem? (i := 550) (by decide +kernel)⟩
theorem lw_p14 : lw_okq (⟨"HelpDesk", "passMinute", "()I"⟩, 6) := ⟨⟨by decide +kernel, by decide +kernel⟩, List.mem_of_getElem? (i := 22) (by decide +kernel), List.mem_of_getElem? (i := 635) (by decide +kernel), List.mem_of_getElem? (i := 636) (by decide +kernel)⟩
theorem lw_p15 : lw_okq (⟨"HelpDesk", "sendHomeAgents", "()V"⟩, 6) := ⟨⟨by decide +kernel, by decide +kernel⟩, List.mem_of_getElem? (i := 22) (by decide +kernel), List.mem_of_getElem? (i := 639) (by decide +kernel), List.mem_of_getElem? (i := 640) (by decide +kernel)⟩
def lw_privs_1 : List (MethodName × Nat) := [(⟨"HelpDesk", "breaksAnswer", "(LHelpDesk$Ticket;)Z"⟩, 6), (⟨"HelpDesk", "breaksSolution", "(LHelpDesk$Ticket;)Z"⟩, 6), (⟨"HelpDesk", "slackOf", "(LHelpDesk$Ticket;)I"⟩, 6), (⟨"HelpDesk", "digestedAgent", "(JLHelpDesk$Agent;)J"⟩, 6), (⟨"HelpDesk", "toldOfAgent", "(LHelpDesk$Agent;I)I"⟩, 6), (⟨"java/lang/Throwable", "fillInStackTrace", "(I)Ljava/lang/Throwable;"⟩, 6), (⟨"HelpDesk$Hours", "minutesOfDay", "(III)I"⟩, 2), (⟨"java/util/ArrayList", "add", "(Ljava/lang/Object;[Ljava/lang/Object;I)V"⟩, 3), (⟨"java/util/ArrayList", "grow", "()[Ljava/lang/Object;"⟩, 3), (⟨"java/util/ArrayList", "grow", "(I)[Ljava/lang/Object;"⟩, 3), (⟨"HelpDesk", "agentAt", "(I)LHelpDesk$Agent;"⟩, 6), (⟨"HelpDesk", "firstByLiking", "(LHelpDesk$Agent;)LHelpDesk$Ticket;"⟩, 6), (⟨"HelpDesk", "isLikedMore", "(LHelpDesk$Agent;LHelpDesk$Ticket;LHelpDesk$Ticket;)Z"⟩, 6), (⟨"HelpDesk", "ticketAt", "(I)LHelpDesk$Ticket;"⟩, 6), (⟨"HelpDesk", "passMinute", "()I"⟩, 6), (⟨"HelpDesk", "sendHomeAgents", "()V"⟩, 6)]
theorem lw_r1 : ∀ q ∈ lw_privs_1, lw_okq q := List.forall_mem_cons.mpr ⟨lw_p0, List.forall_mem_cons.mpr ⟨lw_p1, List.forall_mem_cons.mpr ⟨lw_p2, List.forall_mem_cons.mpr ⟨lw_p3, List.forall_mem_cons.mpr ⟨lw_p4, List.forall_mem_cons.mpr ⟨lw_p5, List.forall_mem_cons.mpr ⟨lw_p6, List.forall_mem_cons.mpr ⟨lw_p7, List.forall_mem_cons.mpr ⟨lw_p8, List.forall_mem_cons.mpr ⟨lw_p9, List.forall_mem_cons.mpr ⟨lw_p10, List.forall_mem_cons.mpr ⟨lw_p11, List.forall_mem_cons.mpr ⟨lw_p12, List.forall_mem_cons.mpr ⟨lw_p13, List.forall_mem_cons.mpr ⟨lw_p14, List.forall_mem_cons.mpr ⟨lw_p15, fun _ h => absurd h List.not_mem_nil⟩⟩⟩⟩⟩⟩⟩⟩⟩⟩⟩⟩⟩⟩⟩⟩
theorem lw_p16 : lw_okq (⟨"HelpDesk", "giveOutTickets", "()V"⟩, 6) := ⟨⟨by decide +kernel, by decide +kernel⟩, List.mem_of_getElem? (i := 22) (by decide +kernel), List.mem_of_getElem? (i := 643) (by decide +kernel), List.mem_of_getElem? (i := 644) (by decide +kernel)⟩
theorem lw_p17 : lw_okq (⟨"HelpDesk", "ageTickets", "()V"⟩, 6) := ⟨⟨by decide +kernel, by decide +kernel⟩, List.mem_of_getElem? (i := 22) (by decide +kernel), List.mem_of_getElem? (i := 654) (by decide +kernel), List.mem_of_getElem? (i := 655) (by decide +kernel)⟩
theorem lw_p18 : lw_okq (⟨"HelpDesk", "work", "()I"⟩, 6) := ⟨⟨by decide +kernel, by decide +kernel⟩, List.mem_of_getElem? (i := 22) (by decide +kernel), List.mem_of_getElem? (i := 658) (by decide +kernel), List.mem_of_getElem? (i := 659) (by decide +kernel)⟩
theorem lw_p19 : lw_okq (⟨"HelpDesk", "solve", "(LHelpDesk$Ticket;LHelpDesk$Agent;)V"⟩, 6) := ⟨⟨by decide +kernel, by decide +kernel⟩, List.mem_of_getElem? (i := 22) (by decide +kernel), List.mem_of_getElem? (i := 662) (by decide +kernel), List.mem_of_getElem? (i := 663) (by decide +kernel)⟩
theorem lw_p20 : lw_okq (⟨"HelpDeskModel", "no", "(I)I"⟩, 26) := ⟨⟨by decide +kernel, by decide +kernel⟩, List.mem_of_getElem? (i := 674) (by decide +kernel), List.mem_of_getElem? (i := 774) (by decide +kernel), List.mem_of_getElem? (i := 775) (by decide +kernel)⟩
theorem lw_p21 : lw_okq (⟨"HelpDeskModel", "serviceAhead", "(I)I"⟩, 26) := ⟨⟨by decide +kernel, by decide +kernel⟩, List.mem_of_getElem? (i := 674) (by decide +kernel), List.mem_of_getElem? (i := 787) (by decide +kernel), List.mem_of_getElem? (i := 788) (by decide +kernel)⟩
theorem lw_p22 : lw_okq (⟨"HelpDeskModel", "isAgent", "(I)Z"⟩, 26) := ⟨⟨by decide +kernel, by decide +kernel⟩, List.mem_of_getElem? (i := 674) (by decide +kernel), List.mem_of_getElem? (i := 801) (by decide +kernel), List.mem_of_getElem? (i := 802) (by decide +kernel)⟩
theorem lw_p23 : lw_okq (⟨"HelpDeskModel", "leave", "(II)V"⟩, 26) := ⟨⟨by decide +kernel, by decide +kernel⟩, List.mem_of_getElem? (i := 674) (by decide +kernel), List.mem_of_getElem? (i := 808) (by decide +kernel), List.mem_of_getElem? (i := 809) (by decide +kernel)⟩
theorem lw_p24 : lw_okq (⟨"HelpDeskModel", "toldAgent", "(II)I"⟩, 26) := ⟨⟨by decide +kernel, by decide +kernel⟩, List.mem_of_getElem? (i := 674) (by decide +kernel), List.mem_of_getElem? (i := 816) (by decide +kernel), List.mem_of_getElem? (i := 817) (by decide +kernel)⟩
theorem lw_p25 : lw_okq (⟨"HelpDeskModel", "isThere", "(I)Z"⟩, 26) := ⟨⟨by decide +kernel, by decide +kernel⟩, List.mem_of_getElem? (i := 674) (by decide +kernel), List.mem_of_getElem? (i := 820) (by decide +kernel), List.mem_of_getElem? (i := 821) (by decide +kernel)⟩
theorem lw_p26 : lw_okq (⟨"HelpDeskModel", "nextOf", "(I)I"⟩, 26) := ⟨⟨by decide +kernel, by decide +kernel⟩, List.mem_of_getElem? (i := 674) (by decide +kernel), List.mem_of_getElem? (i := 828) (by decide +kernel), List.mem_of_getElem? (i := 829) (by decide +kernel)⟩
theorem lw_p27 : lw_okq (⟨"HelpDeskModel", "likes", "(III)Z"⟩, 26) := ⟨⟨by decide +kernel, by decide +kernel⟩, List.mem_of_getElem? (i := 674) (by decide +kernel), List.mem_of_getElem? (i := 832) (by decide +kernel), List.mem_of_getElem? (i := 833) (by decide +kernel)⟩
theorem lw_p28 : lw_okq (⟨"HelpDeskModel", "slack", "(I)I"⟩, 26) := ⟨⟨by decide +kernel, by decide +kernel⟩, List.mem_of_getElem? (i := 674) (by decide +kernel), List.mem_of_getElem? (i := 836) (by decide +kernel), List.mem_of_getElem? (i := 837) (by decide +kernel)⟩
theorem lw_p29 : lw_okq (⟨"HelpDeskModel", "isTicket", "(I)Z"⟩, 26) := ⟨⟨by decide +kernel, by decide +kernel⟩, List.mem_of_getElem? (i := 674) (by decide +kernel), List.mem_of_getElem? (i := 848) (by decide +kernel), List.mem_of_getElem? (i := 849) (by decide +kernel)⟩
theorem lw_p30 : lw_okq (⟨"HelpDeskModel", "isOpen", "(I)Z"⟩, 26) := ⟨⟨by decide +kernel, by decide +kernel⟩, List.mem_of_getElem? (i := 674) (by decide +kernel), List.mem_of_getElem? (i := 864) (by decide +kernel), List.mem_of_getElem? (i := 865) (by decide +kernel)⟩
theorem lw_p31 : lw_okq (⟨"HelpDeskModel", "customersOf", "(I)I"⟩, 26) := ⟨⟨by decide +kernel, by decide +kernel⟩, List.mem_of_getElem? (i := 674) (by decide +kernel), List.mem_of_getElem? (i := 868) (by decide +kernel), List.mem_of_getElem? (i := 869) (by decide +kernel)⟩
def lw_privs_2 : List (MethodName × Nat) := [(⟨"HelpDesk", "giveOutTickets", "()V"⟩, 6), (⟨"HelpDesk", "ageTickets", "()V"⟩, 6), (⟨"HelpDesk", "work", "()I"⟩, 6), (⟨"HelpDesk", "solve", "(LHelpDesk$Ticket;LHelpDesk$Agent;)V"⟩, 6), (⟨"HelpDeskModel", "no", "(I)I"⟩, 26), (⟨"HelpDeskModel", "serviceAhead", "(I)I"⟩, 26), (⟨"HelpDeskModel", "isAgent", "(I)Z"⟩, 26), (⟨"HelpDeskModel", "leave", "(II)V"⟩, 26), (⟨"HelpDeskModel", "toldAgent", "(II)I"⟩, 26), (⟨"HelpDeskModel", "isThere", "(I)Z"⟩, 26), (⟨"HelpDeskModel", "nextOf", "(I)I"⟩, 26), (⟨"HelpDeskModel", "likes", "(III)Z"⟩, 26), (⟨"HelpDeskModel", "slack", "(I)I"⟩, 26), (⟨"HelpDeskModel", "isTicket", "(I)Z"⟩, 26), (⟨"HelpDeskModel", "isOpen", "(I)Z"⟩, 26), (⟨"HelpDeskModel", "customersOf", "(I)I"⟩, 26)]
theorem lw_r2 : ∀ q ∈ lw_privs_2, lw_okq q := List.forall_mem_cons.mpr ⟨lw_p16, List.forall_mem_cons.mpr ⟨lw_p17, List.forall_mem_cons.mpr ⟨lw_p18, List.forall_mem_cons.mpr ⟨lw_p19, List.forall_mem_cons.mpr ⟨lw_p20, List.forall_mem_cons.mpr ⟨lw_p21, List.forall_mem_cons.mpr ⟨lw_p22, List.forall_mem_cons.mpr ⟨lw_p23, List.forall_mem_cons.mpr ⟨lw_p24, List.forall_mem_cons.mpr ⟨lw_p25, List.forall_mem_cons.mpr ⟨lw_p26, List.forall_mem_cons.mpr ⟨lw_p27, List.forall_mem_cons.mpr ⟨lw_p28, List.forall_mem_cons.mpr ⟨lw_p29, List.forall_mem_cons.mpr ⟨lw_p30, List.forall_mem_cons.mpr ⟨lw_p31, fun _ h => absurd h List.not_mem_nil⟩⟩⟩⟩⟩⟩⟩⟩⟩⟩⟩⟩⟩⟩⟩⟩
theorem lw_p32 : lw_okq (⟨"HelpDeskModel", "isWithin", "(II)Z"⟩, 26) := ⟨⟨by decide +kernel, by decide +kernel⟩, List.mem_of_getElem? (i := 674) (by decide +kernel), List.mem_of_getElem? (i := 872) (by decide +kernel), List.mem_of_getElem? (i := 873) (by decide +kernel)⟩
theorem lw_p33 : lw_okq (⟨"HelpDeskModel", "toldTicket", "(II)I"⟩, 26) := ⟨⟨by decide +kernel, by decide +kernel⟩, List.mem_of_getElem? (i := 674) (by decide +kernel), List.mem_of_getElem? (i := 888) (by decide +kernel), List.mem_of_getElem? (i := 889) (by decide +kernel)⟩
theorem lw_p34 : lw_okq (⟨"HelpDeskModel", "agentOf", "(I)I"⟩, 26) := ⟨⟨by decide +kernel, by decide +kernel⟩, List.mem_of_getElem? (i := 674) (by decide +kernel), List.mem_of_getElem? (i := 892) (by decide +kernel), List.mem_of_getElem? (i := 893) (by decide +kernel)⟩
theorem lw_p35 : lw_okq (⟨"HelpDeskModel", "mainOf", "(I)I"⟩, 26) := ⟨⟨by decide +kernel, by decide +kernel⟩, List.mem_of_getElem? (i := 674) (by decide +kernel), List.mem_of_getElem? (i := 900) (by decide +kernel), List.mem_of_getElem? (i := 901) (by decide +kernel)⟩
theorem lw_p36 : lw_okq (⟨"HelpDeskModel", "isService", "(I)Z"⟩, 26) := ⟨⟨by decide +kernel, by decide +kernel⟩, List.mem_of_getElem? (i := 674) (by decide +kernel), List.mem_of_getElem? (i := 912) (by decide +kernel), List.mem_of_getElem? (i := 913) (by decide +kernel)⟩
theorem lw_p37 : lw_okq (⟨"HelpDeskModel", "passMinute", "()I"⟩, 26) := ⟨⟨by decide +kernel, by decide +kernel⟩, List.mem_of_getElem? (i := 674) (by decide +kernel), List.mem_of_getElem? (i := 920) (by decide +kernel), List.mem_of_getElem? (i := 921) (by decide +kernel)⟩
theorem lw_p38 : lw_okq (⟨"HelpDeskModel", "breaks", "(IZ)Z"⟩, 26) := ⟨⟨by decide +kernel, by decide +kernel⟩, List.mem_of_getElem? (i := 674) (by decide +kernel), List.mem_of_getElem? (i := 932) (by decide +kernel), List.mem_of_getElem? (i := 933) (by decide +kernel)⟩
def lw_privs_3 : List (MethodName × Nat) := [(⟨"HelpDeskModel", "isWithin", "(II)Z"⟩, 26), (⟨"HelpDeskModel", "toldTicket", "(II)I"⟩, 26), (⟨"HelpDeskModel", "agentOf", "(I)I"⟩, 26), (⟨"HelpDeskModel", "mainOf", "(I)I"⟩, 26), (⟨"HelpDeskModel", "isService", "(I)Z"⟩, 26), (⟨"HelpDeskModel", "passMinute", "()I"⟩, 26), (⟨"HelpDeskModel", "breaks", "(IZ)Z"⟩, 26)]
theorem lw_r3 : ∀ q ∈ lw_privs_3, lw_okq q := List.forall_mem_cons.mpr ⟨lw_p32, List.forall_mem_cons.mpr ⟨lw_p33, List.forall_mem_cons.mpr ⟨lw_p34, List.forall_mem_cons.mpr ⟨lw_p35, List.forall_mem_cons.mpr ⟨lw_p36, List.forall_mem_cons.mpr ⟨lw_p37, List.forall_mem_cons.mpr ⟨lw_p38, fun _ h => absurd h List.not_mem_nil⟩⟩⟩⟩⟩⟩⟩
def lw_privs : List (MethodName × Nat) := lw_privs_1 ++ (lw_privs_2 ++ (lw_privs_3))
def lw_tbl : List Cond := k2_sels lw_privs ++ tables_1
theorem lw_privs_ok : ∀ q ∈ lw_privs, lw_okq q := by
  show ∀ q ∈ lw_privs_1 ++ (lw_privs_2 ++ (lw_privs_3)), lw_okq q
  exact List.forall_mem_append.mpr ⟨lw_r1, List.forall_mem_append.mpr ⟨lw_r2, lw_r3⟩⟩
/-- the streams that the claim lets the run draw from -/
abbrev lw_cs : List Choice := [Jvm.Choice.named "NaN.bits"]
theorem lw_bits : nanBits ∈ lw_cs := by first | decide | exact List.mem_cons_self | simp [lw_cs, nanBits]
end
section
/-! ===== BEGIN words of one list among another's, by their places ===== -/
theorem goodIn_r {big : List Cond} (ws : List Cond) (ps : List Nat) (hp : ws = ps.filterMap (fun i => big[i]?)) (h : ws.all goodWord = true) : GoodIn big ws := by
  intro w hw
  have h1 := List.all_eq_true.mp h w hw
  rw [hp] at hw
  obtain ⟨i, -, hi⟩ := List.mem_filterMap.mp hw
  have hm : w ∈ big := by first | exact List.mem_of_getElem? hi | exact List.getElem?_mem hi
  exact ⟨hm, good_of_word h1⟩
theorem goodIn_app {big a b : List Cond} (ha : GoodIn big a) (hb : GoodIn big b) : GoodIn big (a ++ b) := fun w h => (List.mem_append.mp h).elim (ha w) (hb w)
theorem goodIn_ca {big a b : List Cond} {c : Cond} (ha : GoodIn big (c :: a)) (hb : GoodIn big b) : GoodIn big (c :: (a ++ b)) := fun w h => (List.mem_cons.mp h).elim (fun e => ha w (List.mem_cons.mpr (Or.inl e))) (fun h => (List.mem_append.mp h).elim (fun h => ha w (List.mem_cons.mpr (Or.inr h))) (hb w))
theorem goodIn_sub {big ws : List Cond} (hm : ∀ w ∈ ws, w ∈ big) (h : ws.all goodWord = true) : GoodIn big ws := fun w hw => ⟨hm w hw, good_of_word (List.all_eq_true.mp h w hw)⟩
/-! ===== END ===== -/

/-! ===== BEGIN exceptions that leave a method, and their catching by the caller (launches without stack traces) ===== -/
section VXA
/-! The laws vx_back, vx_callV, vx_callS, vx_callSW, vx_throw0, vx_throwS follow proofs of the library, with one case more: JvmDerived/Free/Laws.lean (Back.of_free), Shelf42/LK1.lean (callV, callS), Shelf/KitTraced.lean (throwNew0V, throwNewS). -/
/-- where a method has thrown q: the class by its name, the cell, what was written, the world -/
def vx_T (XC : String → State → State → Prop) (st : State) (q : Addr) (t : State) (mc ms : Nat) (free : Addr → Prop) : Prop :=
  ∃ (E : String) (ce : Cell) (L : List Loc), XC E st t ∧ t.heap[q]? = some ce ∧ ce.vm = .none ∧ st.vm.findClass E = some ce.cls ∧ st.WarmedH t.vm ∧ st.sameButNew ({ t with vm := st.vm } : State) L mc ms ∧ ∀ z ∈ L, free z.base
def vx_Q (Qc : Array Value → State → Outcome → State → Prop) (XC : String → State → State → Prop) (mc ms : Nat) (free : Addr → Prop) : Array Value → State → Outcome → State → Prop := fun a st o t =>
  (Qc a st o t ∧ ∃ L, FrameEnd st o t L mc ms ∧ ∀ q ∈ L, free q.base) ∨ ∃ q, o = .threw q ∧ vx_T XC st q t mc ms free
/-- a callee that returns or throws -/
def vx_Met (l : Launch) (y : MethodName) (ws : List Cond) (rm : Room) (Pc : Array Value → State → Prop) (Qc : Array Value → State → Outcome → State → Prop) (XC : String → State → State → Prop) (mc ms : Nat) (free : Addr → Prop) : Prop :=
  MetFree l y (headSpec ws rm) Pc (fun _ _ _ _ _ => True) (vx_Q Qc XC mc ms free)
def vx_Post (XC : String → State → State → Prop) (mc ms : Nat) (free : Addr → Prop) : Pt → Array Value → Addr → Pt → Prop := fun A a q B =>
  ∃ (g : JFrame) (mk : MethodId) (t : State) (L : List Loc) (E : String) (ce : Cell), B.U.heap = t.heap ∧ B.U.vm = t.vm ∧ XC E (A.U.calling g mk a) t ∧ t.heap[q]? = some ce ∧ ce.vm = .none ∧ A.U.vm.findClass E = some ce.cls ∧ B.locs = A.locs ++ L ∧ (∀ z ∈ L, free z.base) ∧ B.cells = A.cells + mc ∧ B.slots = A.slots + ms
def vx_Back (l : Launch) (R : Room) (p : Program) (e : Env) (below : List Frame) (s : State) (sargs : Array Value) (y : MethodName) (len W9 : Nat)
    (Pre : Pt → Array Value → Prop) (Post : Pt → Array Value → Option Value → Pt → Prop) (PostX : Pt → Array Value → Addr → Pt → Prop) : Prop :=
  ∀ (m : MethodId) (meth : Method) (c : Code) (A : Pt) (g : JFrame) (ig : Instr) (mk : MethodId) (a : Array Value),
    Stand p l e R s m sargs below meth c A.U A.locs A.cells A.slots → g.method = m → g.locals.size = c.maxLocals → decode c.code g.pc = .ok (ig, len) →
    2 * g.monitorRoom + (g.stack.map fun v => v.category).sum ≤ W9 → A.U.methodNamed? y = some mk → Pre A a →
    (∃ (v : Option Value) (B : Pt), Stand p l e R s m sargs below meth c B.U B.locs B.cells B.slots ∧ Post A a v B ∧
      Steps p.tables e below (doInvoke e (A.U.setTop g) [] mk a).1 (B.U.setTop { g with pc := g.pc + len, stack := v.toList ++ g.stack })) ∨
    (∃ (q : Addr) (B : Pt), Stand p l e R s m sargs below meth c B.U B.locs B.cells B.slots ∧ PostX A a q B ∧
      Steps p.tables e below (doInvoke e (A.U.setTop g) [] mk a).1 ((B.U.setTop g).pushFrame (.throwing q)))
section Payer
variable {l : Launch} {R : Room} {p : Program} {e : Env} {below : List Frame} {s : State} {sargs : Array Value} {y : MethodName} {len W9 : Nat}
theorem vx_back {ws : List Cond} {rm : Room} {Pc : Array Value → State → Prop} {Qc : Array Value → State → Outcome → State → Prop} {XC : String → State → State → Prop} {mc ms : Nat} {free : Addr → Prop} {bytes : ByteArray} {maxL : Nat} {ret : Option FieldType}
    (hM : vx_Met l y ws rm Pc Qc XC mc ms free) (hblind : FrameBlind Pc) (hrc : rm.cells = mc) (hrs : rm.slots = ms)
    (hframes : rm.frames + 1 ≤ R.frames) (hlocals : W9 + (maxL + 11) + rm.locals ≤ R.locals)
    (hws : ∀ w ∈ ws, ∀ a' U, s.WarmedH U.vm → w.before a' U = true) (hcode : Cond.code y bytes maxL ret ∈ ws) (hinit : ∀ a' U, s.WarmedH U.vm → (Cond.initialized y.cls).before a' U = true) :
    vx_Back l R p e below s sargs y len W9 (PreOf R mc ms Pc) (PostOf Qc mc ms free) (vx_Post XC mc ms free) := by
  intro m meth c A g ig mk a X hg hsize hdg hW hn hp
  have h1 : (headSpec ws rm).pre.before a A.U = true := atoms_intro fun w hw => hws w hw _ _ X.warmed
  have h2 : (Cond.code y bytes maxL ret).before a A.U = true := hws _ hcode _ _ X.warmed
  have h3 : (Cond.initialized y.cls).before a A.U = true := hinit _ _ X.warmed
  have h4 : A.cells + (headSpec ws rm).room.cells ≤ R.cells := by rw [show (headSpec ws rm).room.cells = mc from hrc]; exact hp.1
  have h5 : A.slots + (headSpec ws rm).room.slots ≤ R.slots := by rw [show (headSpec ws rm).room.slots = ms from hrs]; exact hp.2.1
  have hPc : Pc a (A.U.calling g mk a) := hblind _ _ _ _ hp.2.2
  obtain ⟨U, Ls, c0, s0⟩ := A
  dsimp only [Pt.U, Pt.locs, Pt.cells, Pt.slots] at h1 h2 h3 h4 h5 X hn hPc ⊢
  obtain ⟨methY, cY, hmY, hcY, -, hlY, -, -, -, -⟩ := Cond.code_spec hn h2
  obtain ⟨kY, hkY, -⟩ := className_of_methodNamed hn
  have hinitY : kY.init = .initialized := Cond.initialized_spec (findClass_of_methodNamed hn) hkY h3
  have h : At U g.method c below := by rw [hg]; exact X.here
  have hlocals9 : W9 + (maxL + 11) + (headSpec ws rm).room.locals ≤ R.locals := hlocals
  have happ : (headSpec ws rm).appliesLoose y e.platform (U.calling g mk a) = true :=
    Spec.appliesLoose_calling (g := g) h hdg hn hkY hinitY
      (X.room_calling (g := g) (R' := (headSpec ws rm).room) hsize hmY hcY hframes (by rw [hlY]; omega) h4 h5) h1
  obtain ⟨mid, hmid⟩ := h.above
  have hfr : (U.setTop g).frames = (.java g :: mid) ++ below := by rw [State.frames_setTop' g h.top, hmid]; rfl
  obtain ⟨o, s₂, hsteps, -, hend, hq⟩ := Steps.callFree hM p X.admits X.cas X.clock (acts := []) hfr happ hPc trivial
  have hq' : vx_Q Qc XC mc ms free a (U.calling g mk a) o s₂ := hq
  rw [State.frames_setTop' g h.top] at hend
  obtain ⟨g₀, hg0⟩ := Option.isSome_iff_exists.mp h.top
  obtain ⟨r, hr⟩ := State.topJava?_eq_some.mp hg0
  have hr' : (({ U with heap := s₂.heap, slotsUsed := s₂.slotsUsed } : State).setVm s₂.vm).frames = .java g₀ :: r := hr
  rcases hq' with ⟨hqc, L, hfe, hL⟩ | ⟨q, rfl, E, ce, L, hx, hce, hcv, hcl, hW₂, hsm, hL⟩
  · obtain ⟨⟨v, rfl⟩, hW₂, e2, q2, q3, q4, q5, q6⟩ := id hfe
    have e3 : s₂ = ({ (U.calling g mk a).setFrames s₂.frames with heap := s₂.heap, slotsUsed := s₂.slotsUsed } : State).setVm s₂.vm := by
      have : s₂ = ({ s₂ with vm := (U.calling g mk a).vm } : State).setVm s₂.vm := rfl
      rw [e2] at this
      exact this
    obtain ⟨c₂, i₂, len₂, hc₂, hd₂, hf₂⟩ := hend
    have hW' : U.WarmedH s₂.vm := hW₂
    have hcc : c₂ = c := by
      have h1 : s₂.code? g.method = U.code? g.method := by
        rw [State.code?_eq, State.code?_eq, hW'.alike.method?]
      exact Option.some.inj (hc₂.symm.trans (h1.trans h.code))
    subst hcc
    have hlen : len₂ = len := by rw [hdg] at hd₂; cases hd₂; rfl
    subst hlen
    have hs₂ : s₂ = (({ U with heap := s₂.heap, slotsUsed := s₂.slotsUsed } : State).setVm s₂.vm).setTop { g with pc := g.pc + len₂, stack := v.toList ++ g.stack } := by
      refine e3.trans ?_
      rw [hf₂, State.calling_eq h.top, State.setFrames_setFrames, State.setTop_of_frames _ hr', hr]
      rfl
    have hsame : U.sameButNew ({ U with heap := s₂.heap, slotsUsed := s₂.slotsUsed } : State) L mc ms := by
      refine ⟨?_, q2, q3, q4, q5, q6⟩
      obtain ⟨t, ht, -⟩ := State.frames_cons hr
      show ({ U with heap := s₂.heap, slotsUsed := s₂.slotsUsed } : State) = { U.setFrames U.frames with heap := s₂.heap, slotsUsed := s₂.slotsUsed }
      rw [State.setFrames_self ht]
    subst hg
    refine Or.inl ⟨v, ⟨(({ U with heap := s₂.heap, slotsUsed := s₂.slotsUsed } : State).setVm s₂.vm), Ls ++ L, c0 + mc, s0 + ms⟩,
      ⟨X.admits, X.cas, X.clock, X.frames, X.room, X.hears, X.method, X.code, (X.here.setHeapUsed s₂.heap s₂.slotsUsed).setVm hW'.alike, X.tail, State.WarmedH.trans X.warmed hW', X.limits, X.bytes, X.same.trans (hsame.setVm s.vm)⟩,
      ⟨g, mk, s₂, L, rfl, rfl, hqc, rfl, hL, rfl, rfl⟩, ?_⟩
    show Steps p.tables e below _ ((({ U with heap := s₂.heap, slotsUsed := s₂.slotsUsed } : State).setVm s₂.vm).setTop { g with pc := g.pc + len₂, stack := v.toList ++ g.stack })
    rw [← hs₂]
    exact hsteps
  · obtain ⟨e2, q2, q3, q4, q5, q6⟩ := id hsm
    have e3 : s₂ = ({ (U.calling g mk a).setFrames s₂.frames with heap := s₂.heap, slotsUsed := s₂.slotsUsed } : State).setVm s₂.vm := by
      have : s₂ = ({ s₂ with vm := (U.calling g mk a).vm } : State).setVm s₂.vm := rfl
      rw [e2] at this
      exact this
    have hf₂ : s₂.frames = .throwing q :: .java g :: U.frames.tail := hend
    have hW' : U.WarmedH s₂.vm := hW₂
    have hs₂ : s₂ = ((({ U with heap := s₂.heap, slotsUsed := s₂.slotsUsed } : State).setVm s₂.vm).setTop g).pushFrame (.throwing q) := by
      refine e3.trans ?_
      rw [hf₂, State.calling_eq h.top, State.setFrames_setFrames, State.pushFrame, State.frames_setTop _ hr', State.setTop_of_frames _ hr', State.setFrames_setFrames, hr]
      rfl
    have hsame : U.sameButNew ({ U with heap := s₂.heap, slotsUsed := s₂.slotsUsed } : State) L mc ms := by
      refine ⟨?_, q2, q3, q4, q5, q6⟩
      obtain ⟨t, ht, -⟩ := State.frames_cons hr
      show ({ U with heap := s₂.heap, slotsUsed := s₂.slotsUsed } : State) = { U.setFrames U.frames with heap := s₂.heap, slotsUsed := s₂.slotsUsed }
      rw [State.setFrames_self ht]
    subst hg
    refine Or.inr ⟨q, ⟨(({ U with heap := s₂.heap, slotsUsed := s₂.slotsUsed } : State).setVm s₂.vm), Ls ++ L, c0 + mc, s0 + ms⟩,
      ⟨X.admits, X.cas, X.clock, X.frames, X.room, X.hears, X.method, X.code, (X.here.setHeapUsed s₂.heap s₂.slotsUsed).setVm hW'.alike, X.tail, State.WarmedH.trans X.warmed hW', X.limits, X.bytes, X.same.trans (hsame.setVm s.vm)⟩,
      ⟨g, mk, s₂, L, E, ce, rfl, rfl, hx, hce, hcv, hcl, rfl, hL, rfl, rfl⟩, ?_⟩
    show Steps p.tables e below _ (((({ U with heap := s₂.heap, slotsUsed := s₂.slotsUsed } : State).setVm s₂.vm).setTop g).pushFrame (.throwing q))
    rw [← hs₂]
    exact hsteps
end Payer
section Calls
variable {p : Program} {l : Launch} {e : Env} {R : Room} {s : State} {m : MethodId} {args : Array Value} {below : List Frame} {meth : Method} {c : Code} {T : State} {locs : List Loc} {cells slots : Nat}
theorem vx_callV (X : Stand p l e R s m args below meth c T locs cells slots) (hexec : p.tables.exec = Jvm.exec) {own C : String} {index : Nat} {y : MethodName} {bytes : ByteArray} {maxL : Nat} {ret : Option FieldType}
    (hown : s.vm.findClass own = some m.cls) (hlink : (Cond.methodLink own index y).before args s = true) (hinst : (Cond.instanceMethod y).before args s = true) (hsel : (Cond.selects C y y).before args s = true)
    (hcode : (Cond.code y bytes maxL ret).before args s = true) (hy : y.cls ≠ "java/lang/invoke/MethodHandle" ∧ y.cls ≠ "java/lang/invoke/VarHandle")
    {W9 : Nat} {Pre : Pt → Array Value → Prop} {Post : Pt → Array Value → Option Value → Pt → Prop} {PostX : Pt → Array Value → Addr → Pt → Prop} (hK : vx_Back l R p e below s args y 3 W9 Pre Post PostX)
    {b : Addr} {cellB : Cell} (hcell : T.heap[b]? = some cellB) (hobj : cellB.vm.isStatics = false) (hcls : s.vm.findClass C = some cellB.cls)
    {g : JFrame} (hg : g.method = m) (hsize : g.locals.size = c.maxLocals) {argsL rest : List Value} (hlen : ∀ sig, parseMethodDescriptor y.desc = some sig → argsL.length = sig.parameters.length)
    (hstack : g.stack = argsL.reverse ++ .ref b :: rest) (hW : 2 * g.monitorRoom + (rest.map fun v => v.category).sum ≤ W9) (hdg : decode c.code g.pc = .ok (.invokevirtual index, 3))
    (hpre : ∀ vm₁, s.WarmedH vm₁ → Pre ⟨T.setVm vm₁, locs, cells, slots⟩ (Value.ref b :: argsL).toArray) :
    (∃ (v : Option Value) (vm₁ : Vm) (B : Pt), s.WarmedH vm₁ ∧ Stand p l e R s m args below meth c B.U B.locs B.cells B.slots ∧ Post ⟨T.setVm vm₁, locs, cells, slots⟩ (Value.ref b :: argsL).toArray v B ∧
      ∀ target, Steps p.tables e below (B.U.setTop { g with pc := g.pc + 3, stack := v.toList ++ rest }) target → Steps p.tables e below (T.setTop g) target) ∨
    (∃ (q : Addr) (vm₁ : Vm) (B : Pt), s.WarmedH vm₁ ∧ Stand p l e R s m args below meth c B.U B.locs B.cells B.slots ∧ PostX ⟨T.setVm vm₁, locs, cells, slots⟩ (Value.ref b :: argsL).toArray q B ∧
      Steps p.tables e below (T.setTop g) ((B.U.setTop { g with stack := rest }).pushFrame (.throwing q))) := by
  obtain ⟨mk, methM, hnamed, hmethM, hstM, habM⟩ := Cond.instanceMethod_spec hinst
  obtain ⟨methM', cM, hmethM', -, -, -, -, -, -, hsigM⟩ := Cond.code_spec hnamed hcode
  cases hmethM.symm.trans hmethM'
  obtain ⟨c2, r2, m2, q1, q2, q3, q4, kP, hkP, hkPi⟩ := Cond.selects_spec hsel
  cases hcls.symm.trans q1
  cases (State.methodFound?_of_named hnamed hy).symm.trans q2
  cases hnamed.symm.trans q3
  have hselP : selectMethod e.platform s.vm cellB.cls mk = .method mk := by rw [Launch.admits_selectMethod X.admits]; exact q4
  obtain ⟨vm₁, X₁, hstep₁⟩ := X.invokevirtual hexec hown hlink hnamed hmethM hstM hkP hkPi hy (a := b) (cell := cellB) hcell
    (fun z h => by rw [h] at hobj; cases hobj) hselP hmethM habM hkP hkPi (g := g) hg (argsL := argsL) (rest := rest) (hlen _ hsigM) hstack hdg
  rcases hK m meth c ⟨T.setVm vm₁, locs, cells, slots⟩ { g with stack := rest } (.invokevirtual index) mk (Value.ref b :: argsL).toArray X₁ hg hsize hdg hW (X₁.named hnamed) (hpre vm₁ X₁.warmed) with ⟨v, B, X', hpost, hsteps⟩ | ⟨q, B, X', hpost, hsteps⟩
  · exact Or.inl ⟨v, vm₁, B, X₁.warmed, X', hpost, fun target h => hstep₁ _ fun acts => by rw [doInvoke_state]; exact hsteps.trans h⟩
  · exact Or.inr ⟨q, vm₁, B, X₁.warmed, X', hpost, hstep₁ _ fun acts => by rw [doInvoke_state]; exact hsteps⟩
theorem vx_callS (X : Stand p l e R s m args below meth c T locs cells slots) (hexec : p.tables.exec = Jvm.exec) {own : String} {index : Nat} {y : MethodName} {bytes : ByteArray} {maxL : Nat} {ret : Option FieldType}
    (hown : s.vm.findClass own = some m.cls) (hlink : (Cond.methodLink own index y).before args s = true) (hstat : (Cond.static y).before args s = true) (hinit : (Cond.initialized y.cls).before args s = true)
    (hcode : (Cond.code y bytes maxL ret).before args s = true) (hy : y.cls ≠ "java/lang/invoke/MethodHandle" ∧ y.cls ≠ "java/lang/invoke/VarHandle")
    {W9 : Nat} {Pre : Pt → Array Value → Prop} {Post : Pt → Array Value → Option Value → Pt → Prop} {PostX : Pt → Array Value → Addr → Pt → Prop} (hK : vx_Back l R p e below s args y 3 W9 Pre Post PostX)
    {g : JFrame} (hg : g.method = m) (hsize : g.locals.size = c.maxLocals) {argsL rest : List Value} (hlen : ∀ sig, parseMethodDescriptor y.desc = some sig → argsL.length = sig.parameters.length)
    (hstack : g.stack = argsL.reverse ++ rest) (hW : 2 * g.monitorRoom + (rest.map fun v => v.category).sum ≤ W9) (hdg : decode c.code g.pc = .ok (.invokestatic index, 3))
    (hpre : ∀ vm₁, s.WarmedH vm₁ → Pre ⟨T.setVm vm₁, locs, cells, slots⟩ argsL.toArray) :
    (∃ (v : Option Value) (vm₁ : Vm) (B : Pt), s.WarmedH vm₁ ∧ Stand p l e R s m args below meth c B.U B.locs B.cells B.slots ∧ Post ⟨T.setVm vm₁, locs, cells, slots⟩ argsL.toArray v B ∧
      ∀ target, Steps p.tables e below (B.U.setTop { g with pc := g.pc + 3, stack := v.toList ++ rest }) target → Steps p.tables e below (T.setTop g) target) ∨
    (∃ (q : Addr) (vm₁ : Vm) (B : Pt), s.WarmedH vm₁ ∧ Stand p l e R s m args below meth c B.U B.locs B.cells B.slots ∧ PostX ⟨T.setVm vm₁, locs, cells, slots⟩ argsL.toArray q B ∧
      Steps p.tables e below (T.setTop g) ((B.U.setTop { g with stack := rest }).pushFrame (.throwing q))) := by
  obtain ⟨mk, hnamed⟩ := Cond.code_named hcode
  obtain ⟨methM, cM, hmethM, -, -, -, -, -, -, hsigM⟩ := Cond.code_spec hnamed hcode
  have hstatic : methM.isStatic = true := Cond.static_spec hnamed hmethM hstat
  obtain ⟨kP, hkP, -⟩ := className_of_methodNamed hnamed
  have hinitP : kP.init = .initialized := Cond.initialized_spec (findClass_of_methodNamed hnamed) hkP hinit
  obtain ⟨vm₁, X₁, hstep₁⟩ := X.invokestatic hexec hown hlink hnamed hmethM hstatic hkP hinitP hy (g := g) hg (argsL := argsL) (rest := rest) (hlen _ hsigM) hstack hdg
  rcases hK m meth c ⟨T.setVm vm₁, locs, cells, slots⟩ { g with stack := rest } (.invokestatic index) mk argsL.toArray X₁ hg hsize hdg hW (X₁.named hnamed) (hpre vm₁ X₁.warmed) with ⟨v, B, X', hpost, hsteps⟩ | ⟨q, B, X', hpost, hsteps⟩
  · exact Or.inl ⟨v, vm₁, B, X₁.warmed, X', hpost, fun target h => hstep₁ _ fun acts => by rw [doInvoke_state]; exact hsteps.trans h⟩
  · exact Or.inr ⟨q, vm₁, B, X₁.warmed, X', hpost, hstep₁ _ fun acts => by rw [doInvoke_state]; exact hsteps⟩
end Calls
theorem vx_cls {s : State} {T : State} {vm₁ : Vm} {E : String} {k : ClassId} (hW : s.WarmedH vm₁) (h : (T.setVm vm₁).vm.findClass E = some k) : s.vm.findClass E = some k := by
  have h1 : vm₁.findClass E = some k := h
  rw [hW.alike.findClass] at h1
  exact h1
/-- the method's frame g, with q thrown over it -/
def vx_W (p : Program) (l : Launch) (e : Env) (R : Room) (s : State) (m : MethodId) (args : Array Value) (below : List Frame) (meth : Method) (c : Code) (H : Heap) (locs : List Loc) (cells slots : Nat) (Q : State → Prop) (g : JFrame) (q : Addr) : Prop :=
  ∀ T : State, T.heap = H → Stand p l e R s m args below meth c T locs cells slots → ∃ t, Steps p.tables e below ((T.setTop g).pushFrame (.throwing q)) t ∧ Q t
def vx_Run (p : Program) (l : Launch) (e : Env) (R : Room) (s : State) (m : MethodId) (args : Array Value) (below : List Frame) (meth : Method) (c : Code) (H : Heap) (locs : List Loc) (cells slots mc ms : Nat) (g : JFrame) (rest : List Value) (Qa : State → Outcome → State → Prop) (XC : String → State → State → Prop) (free : Addr → Prop) : Prop :=
  ∀ T : State, T.heap = H → Stand p l e R s m args below meth c T locs cells slots →
    (∃ (v : Option Value) (st₀ t T' : State) (L : List Loc), st₀.heap = H ∧ Stand p l e R s m args below meth c T' (locs ++ L) (cells + mc) (slots + ms) ∧ (∀ q ∈ L, free q.base) ∧ T'.heap = t.heap ∧ T'.vm = t.vm ∧ Qa st₀ (.returned v) t ∧
      Goes p e below T g T' { g with pc := g.pc + 3, stack := v.toList ++ rest }) ∨
    (∃ (q : Addr) (st₀ t T' : State) (L : List Loc) (E : String) (ce : Cell), st₀.heap = H ∧ Stand p l e R s m args below meth c T' (locs ++ L) (cells + mc) (slots + ms) ∧ (∀ z ∈ L, free z.base) ∧ T'.heap = t.heap ∧ T'.vm = t.vm ∧ XC E st₀ t ∧ t.heap[q]? = some ce ∧ ce.vm = .none ∧ s.vm.findClass E = some ce.cls ∧
      Steps p.tables e below (T.setTop g) ((T'.setTop { g with stack := rest }).pushFrame (.throwing q)))
def vx_X {S : Type} (px : S → Prop) (B : String → S → State → Prop) (A : Nat → Prop) : String → State → State → Prop := fun E st t => ∃ u : S, px u ∧ B E u t ∧ va_F A st t
section Runs
variable {p : Program} {l : Launch} {e : Env} {R : Room} {s : State} {m : MethodId} {args : Array Value} {below : List Frame} {meth : Method} {c : Code} {H : Heap} {locs : List Loc} {cells slots : Nat}
variable {y : MethodName} {bytes cc : ByteArray} {maxL nL mc ms n index : Nat} {ret : Option FieldType} {ws : List Cond} {rm : Room} {Pc : Array Value → State → Prop} {Qc : Array Value → State → Outcome → State → Prop} {XC : String → State → State → Prop} {free : Addr → Prop} {Ts : List Cond} {own C : String} {b : Addr} {As rest : List Value} {g : JFrame}
theorem vx_callBack (cb : CallB R s args own index y bytes maxL ret ws rm mc ms n) (hM : vx_Met l y ws rm Pc Qc XC mc ms free) (hbl : FrameBlind Pc) : vx_Back l R p e below s args y 3 8 (PreOf R mc ms Pc) (PostOf Qc mc ms free) (vx_Post XC mc ms free) := by
  obtain ⟨hrc, hrs, hfr, hlo, hws, hcw, -, hini, -⟩ := cb
  exact vx_back (bytes := bytes) (maxL := maxL) (ret := ret) hM hbl hrc hrs hfr hlo hws hcw (fun a' U hW => word_at hW (Or.inl (by first | rfl | simp [Cond.onTables, Cond.keeps, Cond.steady])) hini)
theorem vx_runV (S : CallFix p m c cc nL s args Ts own) (hM : vx_Met l y ws rm Pc Qc XC mc ms free) (cw : CallW R s args own C index y bytes maxL ret ws rm mc ms n) (hp : PreV s H C b Pc As)
    (hg : g.method = m) (hn : As.length = n) (hsize : g.locals.size = nL) (hstack : g.stack = As.reverse ++ .ref b :: rest) (hW : 2 * g.monitorRoom + (rest.map fun v => v.category).sum ≤ 8) (hdg : decode cc g.pc = .ok (.invokevirtual index, 3)) (hf : cells + mc ≤ R.cells ∧ slots + ms ≤ R.slots) :
    vx_Run p l e R s m args below meth c H locs cells slots mc ms g rest (Qc (Value.ref b :: As).toArray) XC free := by
  have hK : vx_Back l R p e below s args y 3 8 (PreOf R mc ms Pc) (PostOf Qc mc ms free) (vx_Post XC mc ms free) := vx_callBack cw.1 hM hp.1
  obtain ⟨⟨-, -, -, -, -, -, hcode, -, hy, hlen, hl⟩, hin, hse⟩ := cw
  obtain ⟨hx, hb, hml, ho, -⟩ := S
  obtain ⟨-, ⟨cellB, hcB, hoB, hclB⟩, hPc⟩ := hp
  intro T hT X
  rcases vx_callV X hx (C := C) (bytes := bytes) (maxL := maxL) (ret := ret) ho hl hin hse hcode hy hK (by rw [hT]; exact hcB) hoB hclB hg (hsize.trans hml.symm) (argsL := As) (rest := rest) (fun sig h => hn.trans (hlen sig h)) hstack hW (by rw [hb]; exact hdg)
    (fun vm₁ hW₁ => ⟨hf.1, hf.2, hPc (T.setVm vm₁) hT hW₁⟩) with ⟨v, vm₁, ⟨U', l2, c2, s2⟩, hW₁, X', ⟨g', mk, t, L, e1, e2, hq, h1, hL, h2, h3⟩, st⟩ | ⟨q, vm₁, ⟨U', l2, c2, s2⟩, hW₁, X', ⟨g', mk, t, L, E, ce, e1, e2, hq, hce, hcv, hcl, h1, hL, h2, h3⟩, st⟩
  · dsimp only [Pt.U, Pt.locs, Pt.cells, Pt.slots] at X' e1 e2 h1 h2 h3 st
    subst h1; subst h2; subst h3
    exact Or.inl ⟨v, (T.setVm vm₁).calling g' mk (Value.ref b :: As).toArray, t, U', L, hT, X', hL, e1, e2, hq, st⟩
  · dsimp only [Pt.U, Pt.locs, Pt.cells, Pt.slots] at X' e1 e2 h1 h2 h3 st hcl
    subst h1; subst h2; subst h3
    exact Or.inr ⟨q, (T.setVm vm₁).calling g' mk (Value.ref b :: As).toArray, t, U', L, E, ce, hT, X', hL, e1, e2, hq, hce, hcv, vx_cls hW₁ hcl, st⟩
theorem vx_runS (S : CallFix p m c cc nL s args Ts own) (hM : vx_Met l y ws rm Pc Qc XC mc ms free) (cw : CallB R s args own index y bytes maxL ret ws rm mc ms n ∧ (Cond.static y).before args s = true) (hp : PreS s H Pc As)
    (hg : g.method = m) (hn : As.length = n) (hsize : g.locals.size = nL) (hstack : g.stack = As.reverse ++ rest) (hW : 2 * g.monitorRoom + (rest.map fun v => v.category).sum ≤ 8) (hdg : decode cc g.pc = .ok (.invokestatic index, 3)) (hf : cells + mc ≤ R.cells ∧ slots + ms ≤ R.slots) :
    vx_Run p l e R s m args below meth c H locs cells slots mc ms g rest (Qc As.toArray) XC free := by
  have hK : vx_Back l R p e below s args y 3 8 (PreOf R mc ms Pc) (PostOf Qc mc ms free) (vx_Post XC mc ms free) := vx_callBack cw.1 hM hp.1
  obtain ⟨⟨-, -, -, -, -, -, hcode, hini, hy, hlen, hl⟩, hstt⟩ := cw
  obtain ⟨hx, hb, hml, ho, -⟩ := S
  intro T hT X
  rcases vx_callS X hx (bytes := bytes) (maxL := maxL) (ret := ret) ho hl hstt hini hcode hy hK hg (hsize.trans hml.symm) (argsL := As) (rest := rest) (fun sig h => hn.trans (hlen sig h)) hstack hW (by rw [hb]; exact hdg)
    (fun vm₁ hW₁ => ⟨hf.1, hf.2, hp.2 (T.setVm vm₁) hT hW₁⟩) with ⟨v, vm₁, ⟨U', l2, c2, s2⟩, hW₁, X', ⟨g', mk, t, L, e1, e2, hq, h1, hL, h2, h3⟩, st⟩ | ⟨q, vm₁, ⟨U', l2, c2, s2⟩, hW₁, X', ⟨g', mk, t, L, E, ce, e1, e2, hq, hce, hcv, hcl, h1, hL, h2, h3⟩, st⟩
  · dsimp only [Pt.U, Pt.locs, Pt.cells, Pt.slots] at X' e1 e2 h1 h2 h3 st
    subst h1; subst h2; subst h3
    exact Or.inl ⟨v, (T.setVm vm₁).calling g' mk As.toArray, t, U', L, hT, X', hL, e1, e2, hq, st⟩
  · dsimp only [Pt.U, Pt.locs, Pt.cells, Pt.slots] at X' e1 e2 h1 h2 h3 st hcl
    subst h1; subst h2; subst h3
    exact Or.inr ⟨q, (T.setVm vm₁).calling g' mk As.toArray, t, U', L, E, ce, hT, X', hL, e1, e2, hq, hce, hcv, vx_cls hW₁ hcl, st⟩
end Runs
section Rows
variable {p : Program} {l : Launch} {e : Env} {R : Room} {s : State} {m : MethodId} {args : Array Value} {below : List Frame} {meth : Method} {c : Code} {H : Heap} {locs : List Loc} {cells slots : Nat} {Q : State → Prop}
variable {mc ms : Nat} {free : Addr → Prop} {A0 A1 : Nat → Prop} {H0 : Heap} {a : Array Value} {pc : Nat} {ls : Array Slot} {st0 rest : List Value}
theorem vx_keep {st₀ t T' : State} {L : List Loc} (h0 : st₀.heap = H) (e1 : T'.heap = t.heap) (hS : va_S A0 H0 H locs) (hA : ∀ q, q < H.size → A1 q → A0 q) (hf : ∀ q, free q → A0 q) (hL : ∀ q ∈ L, free q.base) (hF : va_F A1 st₀ t) :
    H.size ≤ T'.heap.size ∧ (∀ q : Nat, q < H.size → ¬ A1 q → T'.heap[q]? = H[q]?) ∧ va_S A0 H0 T'.heap (locs ++ L) := by
  obtain ⟨hz, hk⟩ := hF
  rw [h0] at hz hk
  exact ⟨by rw [e1]; exact hz, fun q h1 h2 => by rw [e1]; exact hk q h1 h2,
    ⟨Nat.le_trans hS.1 (by rw [e1]; exact hz), fun q h1 h2 => by rw [e1, hk q (Nat.lt_of_lt_of_le h1 hS.1) (fun z => h2 (hA q (Nat.lt_of_lt_of_le h1 hS.1) z))]; exact hS.2.1 q h1 h2, fun q hq => by
      rcases List.mem_append.mp hq with h | h
      · exact hS.2.2 q h
      · exact hf _ (hL q h)⟩⟩
theorem vx_calli {S SX : Type} {post : Int32 → S → Prop} {px : SX → Prop} {B : S → State → Prop} {BX : String → SX → State → Prop} {AX : Nat → Prop} (hr : vx_Run p l e R s m args below meth c H locs cells slots mc ms (F0 m pc ls st0) rest (va_Qi post B A1 a) (vx_X px BX AX) free) (hS : va_S A0 H0 H locs) (hA : ∀ q, q < H.size → A1 q → A0 q) (hf : ∀ q, free q → A0 q) (hAX : ∀ q, q < H.size → AX q → A0 q)
    (kx : ∀ (E : String) (ce : Cell) (q9 : Addr) (u : SX) (t : State) (H1 : Heap) (locs1 : List Loc), t.heap = H1 → s.vm.Alike t.vm → px u → BX E u t → H.size ≤ H1.size → (∀ q : Nat, q < H.size → ¬ AX q → H1[q]? = H[q]?) → va_S A0 H0 H1 locs1 → H1[q9]? = some ce → ce.vm = .none → s.vm.findClass E = some ce.cls → vx_W p l e R s m args below meth c H1 locs1 (cells + mc) (slots + ms) Q (F0 m pc ls rest) q9)
    (kk : ∀ (r : Int32) (u : S) (t : State) (H1 : Heap) (locs1 : List Loc), t.heap = H1 → s.vm.Alike t.vm → post r u → B u t → H.size ≤ H1.size → (∀ q : Nat, q < H.size → ¬ A1 q → H1[q]? = H[q]?) → va_S A0 H0 H1 locs1 → W p l e R s m args below meth c H1 locs1 (cells + mc) (slots + ms) Q (F0 m (pc + 3) ls (.int r :: rest))) : W p l e R s m args below meth c H locs cells slots Q (F0 m pc ls st0) := by
  intro T hT X
  rcases hr T hT X with ⟨v, st₀, t, T', L, h0, X', hL, e1, e2, ⟨⟨r, u, hv, hp, hb⟩, hF⟩, st⟩ | ⟨q, st₀, t, T', L, E, ce, h0, X', hL, e1, e2, ⟨u, hp, hb, hF⟩, hce, hcv, hcl, st⟩
  · cases hv
    obtain ⟨k1, k2, k3⟩ := vx_keep h0 e1 hS hA hf hL hF
    obtain ⟨t2, a1, b1⟩ := kk r u t T'.heap (locs ++ L) e1.symm (by rw [← e2]; exact X'.warmed.alike) hp hb k1 k2 k3 T' rfl X'
    exact ⟨t2, st t2 a1, b1⟩
  · obtain ⟨k1, k2, k3⟩ := vx_keep h0 e1 hS hAX hf hL hF
    obtain ⟨t2, a1, b1⟩ := kx E ce q u t T'.heap (locs ++ L) e1.symm (by rw [← e2]; exact X'.warmed.alike) hp hb k1 k2 k3 (by rw [e1]; exact hce) hcv hcl T' rfl X'
    exact ⟨t2, st.trans a1, b1⟩
theorem vx_calll {S SX : Type} {post : Int64 → S → Prop} {px : SX → Prop} {B : S → State → Prop} {BX : String → SX → State → Prop} {AX : Nat → Prop} (hr : vx_Run p l e R s m args below meth c H locs cells slots mc ms (F0 m pc ls st0) rest (va_Ql post B A1 a) (vx_X px BX AX) free) (hS : va_S A0 H0 H locs) (hA : ∀ q, q < H.size → A1 q → A0 q) (hf : ∀ q, free q → A0 q) (hAX : ∀ q, q < H.size → AX q → A0 q)
    (kx : ∀ (E : String) (ce : Cell) (q9 : Addr) (u : SX) (t : State) (H1 : Heap) (locs1 : List Loc), t.heap = H1 → s.vm.Alike t.vm → px u → BX E u t → H.size ≤ H1.size → (∀ q : Nat, q < H.size → ¬ AX q → H1[q]? = H[q]?) → va_S A0 H0 H1 locs1 → H1[q9]? = some ce → ce.vm = .none → s.vm.findClass E = some ce.cls → vx_W p l e R s m args below meth c H1 locs1 (cells + mc) (slots + ms) Q (F0 m pc ls rest) q9)
    (kk : ∀ (r : Int64) (u : S) (t : State) (H1 : Heap) (locs1 : List Loc), t.heap = H1 → s.vm.Alike t.vm → post r u → B u t → H.size ≤ H1.size → (∀ q : Nat, q < H.size → ¬ A1 q → H1[q]? = H[q]?) → va_S A0 H0 H1 locs1 → W p l e R s m args below meth c H1 locs1 (cells + mc) (slots + ms) Q (F0 m (pc + 3) ls (.long r :: rest))) : W p l e R s m args below meth c H locs cells slots Q (F0 m pc ls st0) := by
  intro T hT X
  rcases hr T hT X with ⟨v, st₀, t, T', L, h0, X', hL, e1, e2, ⟨⟨r, u, hv, hp, hb⟩, hF⟩, st⟩ | ⟨q, st₀, t, T', L, E, ce, h0, X', hL, e1, e2, ⟨u, hp, hb, hF⟩, hce, hcv, hcl, st⟩
  · cases hv
    obtain ⟨k1, k2, k3⟩ := vx_keep h0 e1 hS hA hf hL hF
    obtain ⟨t2, a1, b1⟩ := kk r u t T'.heap (locs ++ L) e1.symm (by rw [← e2]; exact X'.warmed.alike) hp hb k1 k2 k3 T' rfl X'
    exact ⟨t2, st t2 a1, b1⟩
  · obtain ⟨k1, k2, k3⟩ := vx_keep h0 e1 hS hAX hf hL hF
    obtain ⟨t2, a1, b1⟩ := kx E ce q u t T'.heap (locs ++ L) e1.symm (by rw [← e2]; exact X'.warmed.alike) hp hb k1 k2 k3 (by rw [e1]; exact hce) hcv hcl T' rfl X'
    exact ⟨t2, st.trans a1, b1⟩
theorem vx_callf {S SX : Type} {post : UInt32 → S → Prop} {px : SX → Prop} {B : S → State → Prop} {BX : String → SX → State → Prop} {AX : Nat → Prop} (hr : vx_Run p l e R s m args below meth c H locs cells slots mc ms (F0 m pc ls st0) rest (va_Qf post B A1 a) (vx_X px BX AX) free) (hS : va_S A0 H0 H locs) (hA : ∀ q, q < H.size → A1 q → A0 q) (hf : ∀ q, free q → A0 q) (hAX : ∀ q, q < H.size → AX q → A0 q)
    (kx : ∀ (E : String) (ce : Cell) (q9 : Addr) (u : SX) (t : State) (H1 : Heap) (locs1 : List Loc), t.heap = H1 → s.vm.Alike t.vm → px u → BX E u t → H.size ≤ H1.size → (∀ q : Nat, q < H.size → ¬ AX q → H1[q]? = H[q]?) → va_S A0 H0 H1 locs1 → H1[q9]? = some ce → ce.vm = .none → s.vm.findClass E = some ce.cls → vx_W p l e R s m args below meth c H1 locs1 (cells + mc) (slots + ms) Q (F0 m pc ls rest) q9)
    (kk : ∀ (r : UInt32) (u : S) (t : State) (H1 : Heap) (locs1 : List Loc), t.heap = H1 → s.vm.Alike t.vm → post r u → B u t → H.size ≤ H1.size → (∀ q : Nat, q < H.size → ¬ A1 q → H1[q]? = H[q]?) → va_S A0 H0 H1 locs1 → W p l e R s m args below meth c H1 locs1 (cells + mc) (slots + ms) Q (F0 m (pc + 3) ls (.float r :: rest))) : W p l e R s m args below meth c H locs cells slots Q (F0 m pc ls st0) := by
  intro T hT X
  rcases hr T hT X with ⟨v, st₀, t, T', L, h0, X', hL, e1, e2, ⟨⟨r, u, hv, hp, hb⟩, hF⟩, st⟩ | ⟨q, st₀, t, T', L, E, ce, h0, X', hL, e1, e2, ⟨u, hp, hb, hF⟩, hce, hcv, hcl, st⟩
  · cases hv
    obtain ⟨k1, k2, k3⟩ := vx_keep h0 e1 hS hA hf hL hF
    obtain ⟨t2, a1, b1⟩ := kk r u t T'.heap (locs ++ L) e1.symm (by rw [← e2]; exact X'.warmed.alike) hp hb k1 k2 k3 T' rfl X'
    exact ⟨t2, st t2 a1, b1⟩
  · obtain ⟨k1, k2, k3⟩ := vx_keep h0 e1 hS hAX hf hL hF
    obtain ⟨t2, a1, b1⟩ := kx E ce q u t T'.heap (locs ++ L) e1.symm (by rw [← e2]; exact X'.warmed.alike) hp hb k1 k2 k3 (by rw [e1]; exact hce) hcv hcl T' rfl X'
    exact ⟨t2, st.trans a1, b1⟩
theorem vx_calld {S SX : Type} {post : UInt64 → S → Prop} {px : SX → Prop} {B : S → State → Prop} {BX : String → SX → State → Prop} {AX : Nat → Prop} (hr : vx_Run p l e R s m args below meth c H locs cells slots mc ms (F0 m pc ls st0) rest (va_Qd post B A1 a) (vx_X px BX AX) free) (hS : va_S A0 H0 H locs) (hA : ∀ q, q < H.size → A1 q → A0 q) (hf : ∀ q, free q → A0 q) (hAX : ∀ q, q < H.size → AX q → A0 q)
    (kx : ∀ (E : String) (ce : Cell) (q9 : Addr) (u : SX) (t : State) (H1 : Heap) (locs1 : List Loc), t.heap = H1 → s.vm.Alike t.vm → px u → BX E u t → H.size ≤ H1.size → (∀ q : Nat, q < H.size → ¬ AX q → H1[q]? = H[q]?) → va_S A0 H0 H1 locs1 → H1[q9]? = some ce → ce.vm = .none → s.vm.findClass E = some ce.cls → vx_W p l e R s m args below meth c H1 locs1 (cells + mc) (slots + ms) Q (F0 m pc ls rest) q9)
    (kk : ∀ (r : UInt64) (u : S) (t : State) (H1 : Heap) (locs1 : List Loc), t.heap = H1 → s.vm.Alike t.vm → post r u → B u t → H.size ≤ H1.size → (∀ q : Nat, q < H.size → ¬ A1 q → H1[q]? = H[q]?) → va_S A0 H0 H1 locs1 → W p l e R s m args below meth c H1 locs1 (cells + mc) (slots + ms) Q (F0 m (pc + 3) ls (.double r :: rest))) : W p l e R s m args below meth c H locs cells slots Q (F0 m pc ls st0) := by
  intro T hT X
  rcases hr T hT X with ⟨v, st₀, t, T', L, h0, X', hL, e1, e2, ⟨⟨r, u, hv, hp, hb⟩, hF⟩, st⟩ | ⟨q, st₀, t, T', L, E, ce, h0, X', hL, e1, e2, ⟨u, hp, hb, hF⟩, hce, hcv, hcl, st⟩
  · cases hv
    obtain ⟨k1, k2, k3⟩ := vx_keep h0 e1 hS hA hf hL hF
    obtain ⟨t2, a1, b1⟩ := kk r u t T'.heap (locs ++ L) e1.symm (by rw [← e2]; exact X'.warmed.alike) hp hb k1 k2 k3 T' rfl X'
    exact ⟨t2, st t2 a1, b1⟩
  · obtain ⟨k1, k2, k3⟩ := vx_keep h0 e1 hS hAX hf hL hF
    obtain ⟨t2, a1, b1⟩ := kx E ce q u t T'.heap (locs ++ L) e1.symm (by rw [← e2]; exact X'.warmed.alike) hp hb k1 k2 k3 (by rw [e1]; exact hce) hcv hcl T' rfl X'
    exact ⟨t2, st.trans a1, b1⟩
theorem vx_callv {S SX : Type} {post : S → Prop} {px : SX → Prop} {B : S → State → Prop} {BX : String → SX → State → Prop} {AX : Nat → Prop} (hr : vx_Run p l e R s m args below meth c H locs cells slots mc ms (F0 m pc ls st0) rest (va_Qv post B A1 a) (vx_X px BX AX) free) (hS : va_S A0 H0 H locs) (hA : ∀ q, q < H.size → A1 q → A0 q) (hf : ∀ q, free q → A0 q) (hAX : ∀ q, q < H.size → AX q → A0 q)
    (kx : ∀ (E : String) (ce : Cell) (q9 : Addr) (u : SX) (t : State) (H1 : Heap) (locs1 : List Loc), t.heap = H1 → s.vm.Alike t.vm → px u → BX E u t → H.size ≤ H1.size → (∀ q : Nat, q < H.size → ¬ AX q → H1[q]? = H[q]?) → va_S A0 H0 H1 locs1 → H1[q9]? = some ce → ce.vm = .none → s.vm.findClass E = some ce.cls → vx_W p l e R s m args below meth c H1 locs1 (cells + mc) (slots + ms) Q (F0 m pc ls rest) q9)
    (kk : ∀ (u : S) (t : State) (H1 : Heap) (locs1 : List Loc), t.heap = H1 → s.vm.Alike t.vm → post u → B u t → H.size ≤ H1.size → (∀ q : Nat, q < H.size → ¬ A1 q → H1[q]? = H[q]?) → va_S A0 H0 H1 locs1 → W p l e R s m args below meth c H1 locs1 (cells + mc) (slots + ms) Q (F0 m (pc + 3) ls (rest))) : W p l e R s m args below meth c H locs cells slots Q (F0 m pc ls st0) := by
  intro T hT X
  rcases hr T hT X with ⟨v, st₀, t, T', L, h0, X', hL, e1, e2, ⟨⟨u, hv, hp, hb⟩, hF⟩, st⟩ | ⟨q, st₀, t, T', L, E, ce, h0, X', hL, e1, e2, ⟨u, hp, hb, hF⟩, hce, hcv, hcl, st⟩
  · cases hv
    obtain ⟨k1, k2, k3⟩ := vx_keep h0 e1 hS hA hf hL hF
    obtain ⟨t2, a1, b1⟩ := kk u t T'.heap (locs ++ L) e1.symm (by rw [← e2]; exact X'.warmed.alike) hp hb k1 k2 k3 T' rfl X'
    exact ⟨t2, st t2 a1, b1⟩
  · obtain ⟨k1, k2, k3⟩ := vx_keep h0 e1 hS hAX hf hL hF
    obtain ⟨t2, a1, b1⟩ := kx E ce q u t T'.heap (locs ++ L) e1.symm (by rw [← e2]; exact X'.warmed.alike) hp hb k1 k2 k3 (by rw [e1]; exact hce) hcv hcl T' rfl X'
    exact ⟨t2, st.trans a1, b1⟩
/-- caught by the row x of this method's table; the rows ahead don't take it -/
theorem vx_catch {own name : String} {E : String} {ce : Cell} {q : Addr} (hown : s.vm.findClass own = some m.cls) (pre : List ExceptionTableEntry) (x : ExceptionTableEntry) (suf : List ExceptionTableEntry) (hsplit : c.exceptionTable.toList = pre ++ x :: suf)
    (hpass : ∀ z ∈ pre, covers z pc = false ∨ (z.catchType ≠ 0 ∧ ∃ nm : String, (Cond.classLink own z.catchType nm).before args s = true ∧ va_Nc E nm s)) (hx : covers x pc = true) (h0 : x.catchType ≠ 0)
    (hlink : (Cond.classLink own x.catchType name).before args s = true) (hcast : (Cond.castable E name).before args s = true) (hcell : H[q]? = some ce) (hv : ce.vm = .none) (hcl : s.vm.findClass E = some ce.cls)
    (kk : W p l e R s m args below meth c H locs cells slots Q (F0 m x.handlerPc ls [.ref q])) : vx_W p l e R s m args below meth c H locs cells slots Q (F0 m pc ls rest) q := by
  intro T hT X
  have hpl : e.platform.magicAccessors = ({} : Platform).magicAccessors := by rw [X.admits.platform]
  obtain ⟨c3, c4, hc3, hc4, hasg⟩ := Cond.castable_spec hcast
  cases Option.some.inj (hc3.symm.trans hcl)
  obtain ⟨c5, hc5, hcl5⟩ := Cond.classLink_spec hown hlink e.platform hpl
  cases Option.some.inj (hc4.symm.trans hc5)
  obtain ⟨vm', X', st⟩ := X.thenCaughtThrough q (g := F0 m pc ls rest) rfl (Steps.refl _) (by rw [hT]; exact hcell) (by rw [hv]; rfl) (by obtain ⟨k9, h9, -⟩ := Vm.findClass_spec hcl; exact ⟨k9, h9⟩) pre x suf hsplit
    (fun z hz => by
      rcases hpass z hz with h | ⟨hz0, nm, hl1, hn1⟩
      · exact Or.inl h
      · obtain ⟨c6, hc6, hcl6⟩ := Cond.classLink_spec hown hl1 e.platform hpl
        obtain ⟨a8, b8, h1, h2, h3⟩ := hn1
        cases Option.some.inj (h1.symm.trans hcl)
        cases Option.some.inj (h2.symm.trans hc6)
        exact Or.inr ⟨hz0, _, hcl6, h3⟩) hx (Or.inr ⟨h0, c4, hcl5, hasg⟩)
  obtain ⟨t, a1, b1⟩ := kk (T.setVm vm') hT X'
  exact ⟨t, st.trans a1, b1⟩
end Rows
section Ends
variable {p : Program} {l : Launch} {e : Env} {R : Room} {s : State} {m : MethodId} {args : Array Value} {below : List Frame} {meth : Method} {c : Code} {H : Heap} {locs : List Loc} {cells slots : Nat} {Q : State → Prop}
variable {mc ms : Nat} {free : Addr → Prop} {A0 A1 : Nat → Prop} {H0 : Heap} {a : Array Value} {ls : Array Slot} {st0 rest : List Value}
variable {Qc : Array Value → State → Outcome → State → Prop} {XC : String → State → State → Prop}
/-- what a body that may throw owes at its end -/
def vx_MQ (below : List Frame) (Qc : Array Value → State → Outcome → State → Prop) (XC : String → State → State → Prop) (a : Array Value) (s : State) (mc ms : Nat) (free : Addr → Prop) : State → Prop := fun t =>
  ∃ o, t.status = .running ∧ Ended t below o ∧ vx_Q Qc XC mc ms free a s o t
theorem vx_ret {g : JFrame} {mc ms : Nat} (k : W p l e R s m args below meth c H locs cells slots (MQ below Qc args s mc ms free) g) : W p l e R s m args below meth c H locs cells slots (vx_MQ below Qc XC args s mc ms free) g := by
  intro T hT X
  obtain ⟨t, a1, o, b1, b2, b3, b4⟩ := k T hT X
  exact ⟨t, a1, o, b1, b2, Or.inl ⟨b3, b4⟩⟩
/-- not caught here: it goes on to the caller -/
theorem vx_widen {g : JFrame} {q : Addr} {k n : Nat} (h1 : cells ≤ k) (h2 : slots ≤ n) (kk : vx_W p l e R s m args below meth c H locs k n Q g q) : vx_W p l e R s m args below meth c H locs cells slots Q g q := fun T hT X => kk T hT (stand_widen X h1 h2)
theorem vx_out {pc : Nat} {E : String} {ce : Cell} {q : Addr} {mc ms : Nat} (hout : ∀ x ∈ c.exceptionTable.toList, covers x pc = false) (hlocks : meth.locks = false) (hcell : H[q]? = some ce) (hv : ce.vm = .none) (hcl : s.vm.findClass E = some ce.cls)
    (hx : ∀ t : State, t.heap = H → s.vm.Alike t.vm → XC E s t) (hf : ∀ z ∈ locs, free z.base) (hc : cells ≤ mc) (hs : slots ≤ ms) :
    vx_W p l e R s m args below meth c H locs cells slots (vx_MQ below Qc XC args s mc ms free) (F0 m pc ls rest) q := by
  intro T hT X
  obtain ⟨st1, hrun, hend, hW, hsm⟩ := X.leaveThrown q (g := F0 m pc ls rest) rfl rfl rfl hout hlocks
  have hcell9 : (T.setFrames (.throwing q :: below)).heap[q]? = some ce := by
    show T.heap[q]? = some ce
    rw [hT]; exact hcell
  exact ⟨_, st1, .threw q, hrun, hend, Or.inr ⟨q, rfl, E, ce, locs, hx _ hT hW.alike, hcell9, hv, hcl, hW, hsm.mono hc hs, hf⟩⟩
theorem vx_frame {U : State} {k n : Nat} (h : s.sameButNew ({ U with vm := s.vm } : State) locs k n) : s.heap.size ≤ U.heap.size ∧ ∀ q : Nat, q < s.heap.size → (∀ z ∈ locs, z.base ≠ q) → U.heap[q]? = s.heap[q]? := by
  obtain ⟨-, h2, -, -, -, h6⟩ := h
  refine ⟨h2, fun q hq hz => ?_⟩
  obtain ⟨c9, e1, e2, e3, e4⟩ := h6 q _ (Array.getElem?_eq_getElem hq)
  have hs : c9.slots = (s.heap[q]).slots := Array.ext_getElem? fun i => e4 i fun hm => hz _ hm rfl
  have h9 : c9 = s.heap[q] := by
    rw [hs] at e2
    exact e2
  have e5 : U.heap[q]? = some c9 := e1
  rw [e5, h9, Array.getElem?_eq_getElem hq]
/-- the words of a throw but the four that speak of the heap -/
def vx_no (w : Cond) : Bool := decide (w ≠ .isRef (.static Bundle.tN "UNASSIGNED_STACK" Bundle.steD)) && decide (w ≠ .isRef (.static Bundle.tN "SUPPRESSED_SENTINEL" Bundle.listD)) && decide (w ≠ .laysStatic Bundle.tN "UNASSIGNED_STACK" Bundle.steD) && decide (w ≠ .laysStatic Bundle.tN "SUPPRESSED_SENTINEL" Bundle.listD)
def vx_at0 (own : String) (ic : Nat) (X : String) (names : List String) : List Cond := (Bundle.ownAtoms0 own ic X names).filter vx_no
def vx_atS (own : String) (ic : Nat) (X : String) (names : List String) : List Cond := (Bundle.ownAtoms own ic X names).filter vx_no
/-- a word that the tables alone decide, or a good one -/
def vx_ot (w : Cond) : Bool := w.onTables || goodWord w
theorem vx_ot_at {args a' : Array Value} {s U : State} {w : Cond} (hW : s.WarmedH U.vm) (hvm : s.vm = U.vm) (hg : vx_ot w = true) (h : w.before args s = true) : w.before a' U = true := by
  simp only [vx_ot, Bool.or_eq_true] at hg
  rcases hg with hg | hg
  · exact va_tabs hg hvm h
  · exact word_at hW (good_of_word hg) h
/-- a list's words: the good ones out of the method's own list, the others by premises of their own -/
theorem vx_hat {args : Array Value} {s : State} {L B : List Cond} (h1 : ∀ w ∈ L.filter goodWord, w.before args s = true) (h2 : ∀ w ∈ L.filter (fun w => !goodWord w), w ∈ B) (h3 : ∀ w ∈ B, w.before args s = true) : ∀ w ∈ L, w.before args s = true := by
  intro w hw
  by_cases g : goodWord w = true
  · exact h1 w (List.mem_filter.mpr ⟨hw, g⟩)
  · refine h3 w (h2 w (List.mem_filter.mpr ⟨hw, ?_⟩))
    show (!goodWord w) = true
    cases hgw : goodWord w
    · rfl
    · exact absurd hgw g
theorem vx_c {args : Array Value} {s : State} {w : Cond} {B : List Cond} (h : w.before args s = true) (t : ∀ w ∈ B, w.before args s = true) : ∀ w' ∈ w :: B, w'.before args s = true := fun w' h' => (List.mem_cons.mp h').elim (fun e => by rw [e]; exact h) (t w')
theorem vx_n {args : Array Value} {s : State} : ∀ w ∈ ([] : List Cond), w.before args s = true := fun _ h => nomatch h
theorem vx_own {args : Array Value} {s : State} {L : List Cond} (h1 : ∀ w ∈ L.filter vx_no, w.before args s = true)
    (hU : (Cond.isRef (.static Bundle.tN "UNASSIGNED_STACK" Bundle.steD)).before args s = true) (hN : (Cond.isRef (.static Bundle.tN "SUPPRESSED_SENTINEL" Bundle.listD)).before args s = true)
    (lU : (Cond.laysStatic Bundle.tN "UNASSIGNED_STACK" Bundle.steD).before args s = true) (lN : (Cond.laysStatic Bundle.tN "SUPPRESSED_SENTINEL" Bundle.listD).before args s = true) : ∀ w ∈ L, w.before args s = true := by
  intro w hw
  by_cases e1 : w = .isRef (.static Bundle.tN "UNASSIGNED_STACK" Bundle.steD)
  · rw [e1]; exact hU
  · by_cases e2 : w = .isRef (.static Bundle.tN "SUPPRESSED_SENTINEL" Bundle.listD)
    · rw [e2]; exact hN
    · by_cases e3 : w = .laysStatic Bundle.tN "UNASSIGNED_STACK" Bundle.steD
      · rw [e3]; exact lU
      · by_cases e4 : w = .laysStatic Bundle.tN "SUPPRESSED_SENTINEL" Bundle.listD
        · rw [e4]; exact lN
        · exact h1 w (List.mem_filter.mpr ⟨hw, by unfold vx_no; rw [decide_eq_true e1, decide_eq_true e2, decide_eq_true e3, decide_eq_true e4]; rfl⟩)
/-- where a static field lies, its class's statics cell in H -/
def vx_L (C n d : String) (A : Nat → Prop) (U : State) (H : Heap) : Prop := ∃ (c : ClassId) (k : Class) (i : Nat) (f : Field) (a : Nat) (cell : Cell), U.vm.findClass C = some c ∧ U.fieldFound? C n d = some (c, k, i, f) ∧ f.isStatic = true ∧ k.statics = some a ∧ H[a]? = some cell ∧ cell.vm.isStatics = true ∧ cell.cls = c ∧ f.slot < cell.slots.size ∧ k.staticTypes[f.slot]? = some f.type ∧ ¬ A a
theorem vx_L.moved {C n d : String} {A : Nat → Prop} {u U : State} {H : Heap} (hvm : u.vm.Alike U.vm) (h : vx_L C n d A u H) : vx_L C n d A U H := by
  obtain ⟨c, k, i, f, a, cell, h1, h2, h3, h4, h5, h6, h7, h8, h9, h10⟩ := h
  obtain ⟨k', hi', he⟩ := State.fieldFound?_setVm hvm h2
  exact ⟨c, k', i, f, a, cell, by rw [hvm.findClass]; exact h1, hi', h3, by rw [he]; exact h4, h5, h6, h7, h8, by rw [he]; exact h9, h10⟩
theorem vx_L.kept {C n d : String} {A : Nat → Prop} {U : State} {H H1 : Heap} (h : vx_L C n d A U H) (hq : ∀ a : Nat, a < H.size → ¬ A a → H1[a]? = H[a]?) : vx_L C n d A U H1 := by
  obtain ⟨c, k, i, f, a, cell, h1, h2, h3, h4, h5, h6, h7, h8, h9, h10⟩ := h
  exact ⟨c, k, i, f, a, cell, h1, h2, h3, h4, by rw [hq a (Array.getElem?_eq_some_iff.mp h5).1 h10]; exact h5, h6, h7, h8, h9, h10⟩
theorem vx_L.narrow {C n d : String} {A B : Nat → Prop} {U : State} {H : Heap} (h : vx_L C n d A U H) (hAB : ∀ q, B q → A q) : vx_L C n d B U H := by
  obtain ⟨c, k, i, f, a, cell, h1, h2, h3, h4, h5, h6, h7, h8, h9, h10⟩ := h
  exact ⟨c, k, i, f, a, cell, h1, h2, h3, h4, h5, h6, h7, h8, h9, fun z => h10 (hAB _ z)⟩
theorem vx_L.word {C n d : String} {A : Nat → Prop} {s : State} {args : Array Value} (h : vx_L C n d A s s.heap) : (Cond.laysStatic C n d).before args s = true := by
  obtain ⟨c, k, i, f, a, cell, h1, h2, h3, h4, h5, h6, h7, h8, h9, -⟩ := h
  show (Cond.laysStatic C n d).holds args s none s [] = true
  exact Cond.laysStatic_of h1 h2 h3 h4 h5 h6 h7 h8 h9
/-- .. and what it holds: null or some reference -/
def vx_Zq (C n d : String) (A : Nat → Prop) (U : State) (H : Heap) : Prop := va_Zq C n d A U H ∧ vx_L C n d A U H
theorem vx_Zq.moved {C n d : String} {A : Nat → Prop} {u U : State} {H : Heap} (hvm : u.vm.Alike U.vm) (h : vx_Zq C n d A u H) : vx_Zq C n d A U H := ⟨va_Zq.moved hvm h.1, vx_L.moved hvm h.2⟩
theorem vx_Zq.kept {C n d : String} {A : Nat → Prop} {U : State} {H H1 : Heap} (h : vx_Zq C n d A U H) (hq : ∀ a : Nat, a < H.size → ¬ A a → H1[a]? = H[a]?) : vx_Zq C n d A U H1 := ⟨va_Zq.kept h.1 hq, vx_L.kept h.2 hq⟩
theorem vx_Zq.narrow {C n d : String} {A B : Nat → Prop} {U : State} {H : Heap} (h : vx_Zq C n d A U H) (hAB : ∀ q, B q → A q) : vx_Zq C n d B U H := ⟨va_Zq.narrow h.1 hAB, vx_L.narrow h.2 hAB⟩
theorem vx_Zqof {args : Array Value} {s : State} {C n d : String} {A : Nat → Prop} (hl : (Cond.laysStatic C n d).before args s = true) (hini : (Cond.initialized C).before args s = true) (h : (Cond.isRef (.static C n d)).before args s = true) (hA : ∀ a : Nat, a < s.heap.size → ¬ A a) : vx_Zq C n d A s s.heap := by
  refine ⟨va_Zqof hl hini h hA, ?_⟩
  obtain ⟨c, k, i, f, a, cell, h1, h2, h3, h4, h5, h6, h7, h8, h9⟩ := Cond.laysStatic_spec hl
  exact ⟨c, k, i, f, a, cell, h1, h2, h3, h4, h5, h6, h7, h8, h9, hA a (Array.getElem?_eq_some_iff.mp h5).1⟩
theorem vx_isRef {C n d : String} {v : Value} {A : Nat → Prop} {s : State} {args : Array Value} (h : va_Z C n d v A s s.heap) (hv : v.isRef = true) : (Cond.isRef (.static C n d)).before args s = true := by
  obtain ⟨cf, kf, fi, f, a, cell, h1, h2, h3, h4, h5, h6, h7, -⟩ := h
  have he : (Term.static C n d).eval args s none [] s = some v := by
    simp [Term.eval, State.fieldNamed?, h1, h2, h4, h5, h6, h7]
  simp only [Cond.before, Cond.holds, Cond.value, he]
  cases v <;> simp_all [Value.isRef]
theorem vx_isRefq {C n d : String} {A : Nat → Prop} {s : State} {args : Array Value} (h : va_Zq C n d A s s.heap) : (Cond.isRef (.static C n d)).before args s = true := by
  rcases h with h | ⟨t, h⟩
  · exact vx_isRef h rfl
  · exact vx_isRef h rfl
/-- the same frame, seen from here: as if the method were called anew in this heap -/
theorem vx_rebase {T : State} (X : Stand p l e R s m args below meth c T locs cells slots) {R' : Room} (hf : R'.frames ≤ R.frames) (hl : R'.locals ≤ R.locals) (hc : cells + R'.cells ≤ R.cells) (hs : slots + R'.slots ≤ R.slots) :
    Stand p l e R' ((T.setVm s.vm).setFrames (.invoking m args :: below)) m args below meth c T [] 0 0 := by
  have htop : (T.setVm s.vm).topJava?.isSome := X.here.top
  have hF : ((T.setVm s.vm).setFrames (.invoking m args :: below)).frames = .invoking m args :: below := State.frames_setFrames _ (State.cur_lt_of_top htop)
  obtain ⟨g₀, hg0⟩ := Option.isSome_iff_exists.mp htop
  obtain ⟨r, hr⟩ := State.topJava?_eq_some.mp hg0
  have hl9 : e.platform.stackLimits (T.setVm s.vm).me = e.platform.stackLimits s.me := X.limits
  have hb9 : (T.setVm s.vm).me.stackBytes = s.me.stackBytes := X.bytes
  refine ⟨X.admits, X.cas, X.clock, hF, ?_, X.hears, X.method, X.code, X.here, X.tail, X.warmed, ?_, ?_, ?_⟩
  · have h := X.room
    have hU : ((T.setVm s.vm).setFrames (.invoking m args :: below)).localsInUse = s.localsInUse := by
      rw [State.localsInUse_invoking hF (meth := meth) (c := c) X.method X.code, State.localsInUse_invoking X.frames X.method X.code]
    simp only [State.hasRoom, Bool.and_eq_true, decide_eq_true_eq] at h ⊢
    obtain ⟨⟨⟨⟨h1, h2, h3, h4, h5, h6⟩, h7⟩, h8⟩, h9⟩ := h
    rw [X.frames, List.length_cons] at h2 h3
    have q1 := X.heapSize
    have q2 := X.used
    simp only [hF, hU, List.length_cons, State.stackLimits_setFrames, State.stackBytes_setFrames, hl9, hb9]
    refine ⟨⟨⟨⟨by omega, by omega, by omega, by omega, by omega, h6⟩, ?_⟩, ?_⟩, X.book⟩
    · show T.heap.size + R'.cells ≤ e.platform.maxCells
      omega
    · show T.slotsUsed + R'.slots ≤ e.platform.maxSlots
      omega
  · rw [State.stackLimits_setFrames]; rfl
  · rw [State.stackBytes_setFrames]; rfl
  · refine ⟨?_, Nat.le_refl _, Nat.le_refl _, ?_, ?_, fun a c9 h9 => ⟨c9, h9, rfl, rfl, fun _ _ => rfl⟩⟩
    · obtain ⟨t, ht, -⟩ := State.frames_cons hr
      show T.setVm s.vm = { ((T.setVm s.vm).setFrames (.invoking m args :: below)).setFrames (T.setVm s.vm).frames with heap := T.heap, slotsUsed := T.slotsUsed }
      rw [State.setFrames_setFrames, State.setFrames_self ht]
      rfl
    · show T.slotsUsed = T.slotsUsed + ((T.heap.toList.drop T.heap.size).map (·.slots.size)).sum
      rw [List.drop_eq_nil_of_le (Nat.le_of_eq Array.length_toList)]
      rfl
    · show ((T.heap.toList.drop T.heap.size).map (·.slots.size)).sum ≤ 0
      rw [List.drop_eq_nil_of_le (Nat.le_of_eq Array.length_toList)]
      exact Nat.le_refl _
/-- 'throw new E()': new; dup; invokespecial; athrow -/
theorem vx_throw0 {cc : ByteArray} {pc : Nat} (hexec : p.tables.exec = Jvm.exec) (hb : c.code = cc) (hl : l.stackTraces = false) {own cls : String} {names : List String} {ik ic mc ms : Nat} {A : Nat → Prop}
    (hown : s.vm.findClass own = some m.cls) (hcls : Bundle.fit cls = true) (hnames : ∀ n ∈ names, Bundle.fit n = true)
    (hk : (Cond.classLink own ik cls).before args s = true) (hini : (Cond.initialized cls).before args s = true) (hat : ∀ w ∈ vx_at0 own ic cls names, w.before args s = true)
    (hgood : ∀ w ∈ Cond.classLink own ik cls :: Cond.initialized cls :: vx_at0 own ic cls names, vx_ot w = true)
    (hU : vx_Zq Bundle.tN "UNASSIGNED_STACK" Bundle.steD A s s.heap) (hN : vx_Zq Bundle.tN "SUPPRESSED_SENTINEL" Bundle.listD A s s.heap) (hS : va_S A s.heap H locs) (hsize : ls.size = c.maxLocals)
    (d0 : decode cc pc = .ok (.new ik, 3)) (d3 : decode cc (pc + 3) = .ok (.dup, 1)) (d4 : decode cc (pc + 4) = .ok (.invokespecial ic, 3)) (d7 : decode cc (pc + 7) = .ok (.athrow, 1))
    (hout : ∀ x ∈ c.exceptionTable.toList, covers x (pc + 7) = false)
    (hRframes : names.length + 3 < R.frames) (hRlocals : (rest.map fun v => v.category).sum + (13 * (names.length + 1) + 42) ≤ R.locals) (hRcells : cells + 1 ≤ R.cells) (hRslots : slots + 6 ≤ R.slots) (hlocks : meth.locks = false)
    (hx : ∀ t : State, s.vm.Alike t.vm → H.size ≤ t.heap.size → (∀ q : Nat, q < H.size → t.heap[q]? = H[q]?) → XC cls s t)
    (hf : ∀ z ∈ locs, free z.base) (hc : cells + 1 ≤ mc) (hs : slots + 6 ≤ ms) :
    W p l e R s m args below meth c H locs cells slots (vx_MQ below Qc XC args s mc ms free) (F0 m pc ls rest) := by
  intro T hT X
  have htr : e.platform.stackTraces = false := (show e.platform.stackTraces = l.stackTraces by rw [X.admits.platform]).trans hl
  have Y := vx_rebase X (R' := { frames := R.frames, locals := R.locals, cells := 1, slots := 6 }) (Nat.le_refl _) (Nat.le_refl _) hRcells hRslots
  obtain ⟨s', hA⟩ : ∃ z, z = (T.setVm s.vm).setFrames (.invoking m args :: below) := ⟨_, rfl⟩
  rw [← hA] at Y
  have hvm : s'.vm = s.vm := by rw [hA]; rfl
  have hhp : s'.heap = H := by rw [hA]; exact hT
  have hW0 : s.WarmedH s'.vm := by rw [hvm]; exact State.WarmedH.refl s
  have hat' : ∀ w ∈ vx_at0 own ic cls names, w.before args s' = true := fun w hw => vx_ot_at hW0 hvm.symm (hgood w (List.mem_cons_of_mem _ (List.mem_cons_of_mem _ hw))) (hat w hw)
  have hk' : (Cond.classLink own ik cls).before args s' = true := vx_ot_at hW0 hvm.symm (hgood _ List.mem_cons_self) hk
  have hini' : (Cond.initialized cls).before args s' = true := vx_ot_at hW0 hvm.symm (hgood _ (List.mem_cons_of_mem _ List.mem_cons_self)) hini
  have hU' : vx_Zq Bundle.tN "UNASSIGNED_STACK" Bundle.steD A s' s'.heap := by rw [hhp]; exact vx_Zq.moved hW0.alike (hU.kept hS.2.1)
  have hN' : vx_Zq Bundle.tN "SUPPRESSED_SENTINEL" Bundle.listD A s' s'.heap := by rw [hhp]; exact vx_Zq.moved hW0.alike (hN.kept hS.2.1)
  have h : ∀ w ∈ Bundle.ownAtoms0 own ic cls names, w.before args s' = true := vx_own hat' (vx_isRefq hU'.1) (vx_isRefq hN'.1) hU'.2.word hN'.2.word
  have hown' : s'.vm.findClass own = some m.cls := by rw [hvm]; exact hown
  have hins : (Cond.instantiable cls 6).before args s' = true := h _ (by simp [Bundle.ownAtoms0])
  obtain ⟨vm₁, cX, kX, hfX, hkX, -, -, X₁, st1⟩ := Y.newCold hexec (own := own) (C := cls) (index := ik) (n := 6) hown' hk' hins hini'
    (g := F0 m pc ls rest) rfl (by rw [hb]; exact d0) (Nat.le_refl _) (Nat.le_refl _)
  generalize hT1 : (T.setVm vm₁).pushCell { cls := cX, slots := kX.instanceTypes.map defaultValue, vm := .none } = T1 at X₁ st1
  have hcat : (Value.ref T.heap.size).category = 1 := rfl
  have hcellA : T1.heap[T.heap.size]? = some (freshCell cX kX) := by rw [← hT1]; exact State.heap_pushCell_size _ _
  have d3' : decode c.code (pc + 3) = .ok (.dup, 1) := by rw [hb]; exact d3
  obtain ⟨U, hsteps, hrun, hend, hW, hsame, ce, hce, hO⟩ := X₁.ctorThrow0 hexec htr (own := own) (cls := cls) (names := names) (ic := ic) hown' hcls hnames h (fun x hx => nomatch hx) hfX hkX hcellA (by rw [hhp, hT]; exact Nat.le_refl _)
    (g := { method := m, pc := pc + 4, locals := ls, stack := .ref T.heap.size :: .ref T.heap.size :: rest, locked := none }) rfl hsize rfl rfl (rest := rest) rfl
    (by rw [hb]; exact d4) (by rw [hb]; exact d7) hout hRframes (by simp only [List.map_cons, List.sum_cons, hcat]; omega) hlocks
  obtain ⟨f1, f2⟩ := vx_frame hsame
  rw [hhp] at f1 f2
  have hWs : s.WarmedH U.vm := State.WarmedH.trans hW0 hW
  have hcl : s.vm.findClass cls = some ce.cls := by
    have h9 := hO.cls
    rw [hvm] at h9
    exact h9
  have hall : s.sameButNew ({ U with vm := s.vm } : State) locs mc ms := by
    subst hA
    obtain ⟨e1, e2⟩ := hsame
    rw [State.setFrames_setFrames] at e1
    have h2 : (T.setVm s.vm).sameButNew ({ U with vm := s.vm } : State) [] (0 + 1) (0 + 6) := ⟨e1, e2⟩
    have h3 := X.same.trans h2
    rw [List.append_nil] at h3
    exact h3.mono hc hs
  refine ⟨U, ?_, .threw T.heap.size, hrun, hend, Or.inr ⟨T.heap.size, rfl, cls, ce, locs, hx U hWs.alike f1 (fun q hq => f2 q hq (fun z hz => nomatch hz)), hce, hO.vm, hcl, hWs, hall, hf⟩⟩
  refine st1 _ ?_
  show Steps p.tables e below (T1.setTop { method := m, pc := pc + 3, locals := ls, stack := .ref T.heap.size :: rest, locked := none }) _
  jvm_step X₁.here [X₁.here.top, hexec, d3', Value.category]
  exact hsteps
/-- 'throw new E("text")': new; dup; ldc; invokespecial; athrow -/
theorem vx_throwS {cc : ByteArray} {pc : Nat} (hexec : p.tables.exec = Jvm.exec) (hb : c.code = cc) (hl : l.stackTraces = false) {own cls text : String} {names : List String} {ik is ic mc ms sa : Nat} {A : Nat → Prop}
    (hown : s.vm.findClass own = some m.cls) (hcls : Bundle.fit cls = true) (hnames : ∀ n ∈ names, Bundle.fit n = true)
    (hk : (Cond.classLink own ik cls).before args s = true) (hini : (Cond.initialized cls).before args s = true) (hstr : vk_R own is text sa s) (hat : ∀ w ∈ vx_atS own ic cls names, w.before args s = true)
    (hgood : ∀ w ∈ Cond.classLink own ik cls :: Cond.initialized cls :: vx_atS own ic cls names, vx_ot w = true)
    (hU : vx_Zq Bundle.tN "UNASSIGNED_STACK" Bundle.steD A s s.heap) (hN : vx_Zq Bundle.tN "SUPPRESSED_SENTINEL" Bundle.listD A s s.heap) (hS : va_S A s.heap H locs) (hsize : ls.size = c.maxLocals)
    (d0 : decode cc pc = .ok (.new ik, 3)) (d3 : decode cc (pc + 3) = .ok (.dup, 1)) (d4 : decode cc (pc + 4) = .ok (.ldc is, 2)) (d6 : decode cc (pc + 6) = .ok (.invokespecial ic, 3)) (d9 : decode cc (pc + 9) = .ok (.athrow, 1))
    (hout : ∀ x ∈ c.exceptionTable.toList, covers x (pc + 9) = false)
    (hRframes : names.length + 3 < R.frames) (hRlocals : (rest.map fun v => v.category).sum + (13 * (names.length + 1) + 43) ≤ R.locals) (hRcells : cells + 1 ≤ R.cells) (hRslots : slots + 6 ≤ R.slots) (hlocks : meth.locks = false)
    (hx : ∀ t : State, s.vm.Alike t.vm → H.size ≤ t.heap.size → (∀ q : Nat, q < H.size → t.heap[q]? = H[q]?) → XC cls s t)
    (hf : ∀ z ∈ locs, free z.base) (hc : cells + 1 ≤ mc) (hs : slots + 6 ≤ ms) :
    W p l e R s m args below meth c H locs cells slots (vx_MQ below Qc XC args s mc ms free) (F0 m pc ls rest) := by
  intro T hT X
  have htr : e.platform.stackTraces = false := (show e.platform.stackTraces = l.stackTraces by rw [X.admits.platform]).trans hl
  have Y := vx_rebase X (R' := { frames := R.frames, locals := R.locals, cells := 1, slots := 6 }) (Nat.le_refl _) (Nat.le_refl _) hRcells hRslots
  obtain ⟨s', hA⟩ : ∃ z, z = (T.setVm s.vm).setFrames (.invoking m args :: below) := ⟨_, rfl⟩
  rw [← hA] at Y
  have hvm : s'.vm = s.vm := by rw [hA]; rfl
  have hhp : s'.heap = H := by rw [hA]; exact hT
  have hW0 : s.WarmedH s'.vm := by rw [hvm]; exact State.WarmedH.refl s
  have hat' : ∀ w ∈ vx_atS own ic cls names, w.before args s' = true := fun w hw => vx_ot_at hW0 hvm.symm (hgood w (List.mem_cons_of_mem _ (List.mem_cons_of_mem _ hw))) (hat w hw)
  have hk' : (Cond.classLink own ik cls).before args s' = true := vx_ot_at hW0 hvm.symm (hgood _ List.mem_cons_self) hk
  have hini' : (Cond.initialized cls).before args s' = true := vx_ot_at hW0 hvm.symm (hgood _ (List.mem_cons_of_mem _ List.mem_cons_self)) hini
  have hU' : vx_Zq Bundle.tN "UNASSIGNED_STACK" Bundle.steD A s' s'.heap := by rw [hhp]; exact vx_Zq.moved hW0.alike (hU.kept hS.2.1)
  have hN' : vx_Zq Bundle.tN "SUPPRESSED_SENTINEL" Bundle.listD A s' s'.heap := by rw [hhp]; exact vx_Zq.moved hW0.alike (hN.kept hS.2.1)
  have h : ∀ w ∈ Bundle.ownAtoms own ic cls names, w.before args s' = true := vx_own hat' (vx_isRefq hU'.1) (vx_isRefq hN'.1) hU'.2.word hN'.2.word
  have hown' : s'.vm.findClass own = some m.cls := by rw [hvm]; exact hown
  have hins : (Cond.instantiable cls 6).before args s' = true := h _ (by simp [Bundle.ownAtoms])
  obtain ⟨vm₁, cX, kX, hfX, hkX, -, -, X₁, st1⟩ := Y.newCold hexec (own := own) (C := cls) (index := ik) (n := 6) hown' hk' hins hini'
    (g := F0 m pc ls rest) rfl (by rw [hb]; exact d0) (Nat.le_refl _) (Nat.le_refl _)
  generalize hT1 : (T.setVm vm₁).pushCell { cls := cX, slots := kX.instanceTypes.map defaultValue, vm := .none } = T1 at X₁ st1
  have hcat : (Value.ref T.heap.size).category = 1 := rfl
  have hcellA : T1.heap[T.heap.size]? = some (freshCell cX kX) := by rw [← hT1]; exact State.heap_pushCell_size _ _
  have d3' : decode c.code (pc + 3) = .ok (.dup, 1) := by rw [hb]; exact d3
  have d4' : decode c.code (pc + 4) = .ok (.ldc is, 2) := by rw [hb]; exact d4
  have hstr' : vk_R own is text sa s' := vk_R.warm hW0 hstr
  obtain ⟨U, hsteps, hrun, hend, hW, hsame, ce, hce, hO⟩ := X₁.ctorThrowS hexec htr (own := own) (cls := cls) (names := names) (ic := ic) hown' hcls hnames h (fun x hx => nomatch hx) hfX hkX hcellA (by rw [hhp, hT]; exact Nat.le_refl _) (msg := .ref sa) rfl
    (g := { method := m, pc := pc + 6, locals := ls, stack := .ref sa :: .ref T.heap.size :: .ref T.heap.size :: rest, locked := none }) rfl hsize rfl rfl (rest := rest) rfl
    (by rw [hb]; exact d6) (by rw [hb]; exact d9) hout hRframes (by simp only [List.map_cons, List.sum_cons, hcat]; omega) hlocks
  obtain ⟨f1, f2⟩ := vx_frame hsame
  rw [hhp] at f1 f2
  have hWs : s.WarmedH U.vm := State.WarmedH.trans hW0 hW
  have hcl : s.vm.findClass cls = some ce.cls := by
    have h9 := hO.cls
    rw [hvm] at h9
    exact h9
  have hall : s.sameButNew ({ U with vm := s.vm } : State) locs mc ms := by
    subst hA
    obtain ⟨e1, e2⟩ := hsame
    rw [State.setFrames_setFrames] at e1
    have h2 : (T.setVm s.vm).sameButNew ({ U with vm := s.vm } : State) [] (0 + 1) (0 + 6) := ⟨e1, e2⟩
    have h3 := X.same.trans h2
    rw [List.append_nil] at h3
    exact h3.mono hc hs
  refine ⟨U, ?_, .threw T.heap.size, hrun, hend, Or.inr ⟨T.heap.size, rfl, cls, ce, locs, hx U hWs.alike f1 (fun q hq => f2 q hq (fun z hz => nomatch hz)), hce, hO.vm, hcl, hWs, hall, hf⟩⟩
  refine st1 _ ?_
  show Steps p.tables e below (T1.setTop { method := m, pc := pc + 3, locals := ls, stack := .ref T.heap.size :: rest, locked := none }) _
  jvm_step X₁.here [X₁.here.top, hexec, d3', Value.category]
  exact X₁.ldcString hexec (own := own) (text := text) (index := is) (a := sa) hown' hstr'.1 hstr'.2
    (g := { method := m, pc := pc + 4, locals := ls, stack := .ref T.heap.size :: .ref T.heap.size :: rest, locked := none }) rfl d4' _ hsteps
/-- 'throw new E("text")', the text by a wide index -/
theorem vx_throwSW {cc : ByteArray} {pc : Nat} (hexec : p.tables.exec = Jvm.exec) (hb : c.code = cc) (hl : l.stackTraces = false) {own cls text : String} {names : List String} {ik is ic mc ms sa : Nat} {A : Nat → Prop}
    (hown : s.vm.findClass own = some m.cls) (hcls : Bundle.fit cls = true) (hnames : ∀ n ∈ names, Bundle.fit n = true)
    (hk : (Cond.classLink own ik cls).before args s = true) (hini : (Cond.initialized cls).before args s = true) (hstr : vk_R own is text sa s) (hat : ∀ w ∈ vx_atS own ic cls names, w.before args s = true)
    (hgood : ∀ w ∈ Cond.classLink own ik cls :: Cond.initialized cls :: vx_atS own ic cls names, vx_ot w = true)
    (hU : vx_Zq Bundle.tN "UNASSIGNED_STACK" Bundle.steD A s s.heap) (hN : vx_Zq Bundle.tN "SUPPRESSED_SENTINEL" Bundle.listD A s s.heap) (hS : va_S A s.heap H locs) (hsize : ls.size = c.maxLocals)
    (d0 : decode cc pc = .ok (.new ik, 3)) (d3 : decode cc (pc + 3) = .ok (.dup, 1)) (d4 : decode cc (pc + 4) = .ok (.ldc_w is, 3)) (d7 : decode cc (pc + 7) = .ok (.invokespecial ic, 3)) (d10 : decode cc (pc + 10) = .ok (.athrow, 1))
    (hout : ∀ x ∈ c.exceptionTable.toList, covers x (pc + 10) = false)
    (hRframes : names.length + 3 < R.frames) (hRlocals : (rest.map fun v => v.category).sum + (13 * (names.length + 1) + 43) ≤ R.locals) (hRcells : cells + 1 ≤ R.cells) (hRslots : slots + 6 ≤ R.slots) (hlocks : meth.locks = false)
    (hx : ∀ t : State, s.vm.Alike t.vm → H.size ≤ t.heap.size → (∀ q : Nat, q < H.size → t.heap[q]? = H[q]?) → XC cls s t)
    (hf : ∀ z ∈ locs, free z.base) (hc : cells + 1 ≤ mc) (hs : slots + 6 ≤ ms) :
    W p l e R s m args below meth c H locs cells slots (vx_MQ below Qc XC args s mc ms free) (F0 m pc ls rest) := by
  intro T hT X
  have htr : e.platform.stackTraces = false := (show e.platform.stackTraces = l.stackTraces by rw [X.admits.platform]).trans hl
  have Y := vx_rebase X (R' := { frames := R.frames, locals := R.locals, cells := 1, slots := 6 }) (Nat.le_refl _) (Nat.le_refl _) hRcells hRslots
  obtain ⟨s', hA⟩ : ∃ z, z = (T.setVm s.vm).setFrames (.invoking m args :: below) := ⟨_, rfl⟩
  rw [← hA] at Y
  have hvm : s'.vm = s.vm := by rw [hA]; rfl
  have hhp : s'.heap = H := by rw [hA]; exact hT
  have hW0 : s.WarmedH s'.vm := by rw [hvm]; exact State.WarmedH.refl s
  have hat' : ∀ w ∈ vx_atS own ic cls names, w.before args s' = true := fun w hw => vx_ot_at hW0 hvm.symm (hgood w (List.mem_cons_of_mem _ (List.mem_cons_of_mem _ hw))) (hat w hw)
  have hk' : (Cond.classLink own ik cls).before args s' = true := vx_ot_at hW0 hvm.symm (hgood _ List.mem_cons_self) hk
  have hini' : (Cond.initialized cls).before args s' = true := vx_ot_at hW0 hvm.symm (hgood _ (List.mem_cons_of_mem _ List.mem_cons_self)) hini
  have hU' : vx_Zq Bundle.tN "UNASSIGNED_STACK" Bundle.steD A s' s'.heap := by rw [hhp]; exact vx_Zq.moved hW0.alike (hU.kept hS.2.1)
  have hN' : vx_Zq Bundle.tN "SUPPRESSED_SENTINEL" Bundle.listD A s' s'.heap := by rw [hhp]; exact vx_Zq.moved hW0.alike (hN.kept hS.2.1)
  have h : ∀ w ∈ Bundle.ownAtoms own ic cls names, w.before args s' = true := vx_own hat' (vx_isRefq hU'.1) (vx_isRefq hN'.1) hU'.2.word hN'.2.word
  have hown' : s'.vm.findClass own = some m.cls := by rw [hvm]; exact hown
  have hins : (Cond.instantiable cls 6).before args s' = true := h _ (by simp [Bundle.ownAtoms])
  obtain ⟨vm₁, cX, kX, hfX, hkX, -, -, X₁, st1⟩ := Y.newCold hexec (own := own) (C := cls) (index := ik) (n := 6) hown' hk' hins hini'
    (g := F0 m pc ls rest) rfl (by rw [hb]; exact d0) (Nat.le_refl _) (Nat.le_refl _)
  generalize hT1 : (T.setVm vm₁).pushCell { cls := cX, slots := kX.instanceTypes.map defaultValue, vm := .none } = T1 at X₁ st1
  have hcat : (Value.ref T.heap.size).category = 1 := rfl
  have hcellA : T1.heap[T.heap.size]? = some (freshCell cX kX) := by rw [← hT1]; exact State.heap_pushCell_size _ _
  have d3' : decode c.code (pc + 3) = .ok (.dup, 1) := by rw [hb]; exact d3
  have d4' : decode c.code (pc + 4) = .ok (.ldc_w is, 3) := by rw [hb]; exact d4
  have hstr' : vk_R own is text sa s' := vk_R.warm hW0 hstr
  obtain ⟨U, hsteps, hrun, hend, hW, hsame, ce, hce, hO⟩ := X₁.ctorThrowS hexec htr (own := own) (cls := cls) (names := names) (ic := ic) hown' hcls hnames h (fun x hx => nomatch hx) hfX hkX hcellA (by rw [hhp, hT]; exact Nat.le_refl _) (msg := .ref sa) rfl
    (g := { method := m, pc := pc + 7, locals := ls, stack := .ref sa :: .ref T.heap.size :: .ref T.heap.size :: rest, locked := none }) rfl hsize rfl rfl (rest := rest) rfl
    (by rw [hb]; exact d7) (by rw [hb]; exact d10) hout hRframes (by simp only [List.map_cons, List.sum_cons, hcat]; omega) hlocks
  obtain ⟨f1, f2⟩ := vx_frame hsame
  rw [hhp] at f1 f2
  have hWs : s.WarmedH U.vm := State.WarmedH.trans hW0 hW
  have hcl : s.vm.findClass cls = some ce.cls := by
    have h9 := hO.cls
    rw [hvm] at h9
    exact h9
  have hall : s.sameButNew ({ U with vm := s.vm } : State) locs mc ms := by
    subst hA
    obtain ⟨e1, e2⟩ := hsame
    rw [State.setFrames_setFrames] at e1
    have h2 : (T.setVm s.vm).sameButNew ({ U with vm := s.vm } : State) [] (0 + 1) (0 + 6) := ⟨e1, e2⟩
    have h3 := X.same.trans h2
    rw [List.append_nil] at h3
    exact h3.mono hc hs
  refine ⟨U, ?_, .threw T.heap.size, hrun, hend, Or.inr ⟨T.heap.size, rfl, cls, ce, locs, hx U hWs.alike f1 (fun q hq => f2 q hq (fun z hz => nomatch hz)), hce, hO.vm, hcl, hWs, hall, hf⟩⟩
  refine st1 _ ?_
  show Steps p.tables e below (T1.setTop { method := m, pc := pc + 3, locals := ls, stack := .ref T.heap.size :: rest, locked := none }) _
  jvm_step X₁.here [X₁.here.top, hexec, d3', Value.category]
  exact X₁.ldcStringW hexec (own := own) (text := text) (index := is) (a := sa) hown' hstr'.1 hstr'.2
    (g := { method := m, pc := pc + 4, locals := ls, stack := .ref T.heap.size :: .ref T.heap.size :: rest, locked := none }) rfl d4' _ hsteps
end Ends
section Bodies
variable {l : Launch}
theorem vx_ofW {y : MethodName} {ws ws' : List Cond} {rm : Room} {Pc : Array Value → State → Prop} {Qc : Array Value → State → Outcome → State → Prop} {XC : String → State → State → Prop} {mc ms : Nat} {free : Addr → Prop} {cc : ByteArray} {maxL : Nat} {ret : Option FieldType}
    (hy : plainName y.cls = true) (hw : ws = Cond.code y cc maxL ret :: ws')
    (body : ∀ p e s m args below meth c s₁, BodyLoose p l y (headSpec ws rm) cc maxL ret e s m args below meth c s₁ → c.maxLocals = maxL → (∀ x ∈ c.exceptionTable.toList, False) → Pc args s →
      W p l e (headSpec ws rm).room s m args below meth c s.heap [] 0 0 (vx_MQ below Qc XC args s mc ms free) (entryFrame m args maxL)) : vx_Met l y ws rm Pc Qc XC mc ms free := by
  refine MetFree.of_bodyS (code := cc) (maxLocals := maxL) (ret := ret) hy ?_ ?_
  · intro args s m h hn
    obtain ⟨meth, c, h1, h2, h3, h4, h5, h6, -, -⟩ := Cond.code_spec hn (atoms_spec (ws := ws) h _ (by rw [hw]; exact List.mem_cons_self))
    exact ⟨meth, c, h1, h2, h3, h4, h5, h6⟩
  · intro p e s m args below meth c s₁ B hml hP _
    have hh0 : s₁.heap = s.heap := by rw [B.state]; rfl
    have ht : ∀ x ∈ c.exceptionTable.toList, False := by
      obtain ⟨meth9, c9, h1, h2, -, -, -, -, h7, -⟩ := Cond.code_spec B.named (atoms_spec (ws := ws) B.pre _ (by rw [hw]; exact List.mem_cons_self))
      cases Option.some.inj (h1.symm.trans B.method)
      cases Option.some.inj (h2.symm.trans (Stand.of_body B).code)
      intro x hx
      rw [Array.isEmpty_iff.mp h7] at hx
      cases hx
    obtain ⟨t, a1, o, b1, b2, b3⟩ := body p e s m args below meth c s₁ B hml ht hP s₁ hh0 (Stand.of_body B)
    exact ⟨t, o, a1, b1, b2, b3⟩
/-- the table of a body with handlers -/
theorem vx_table {p : Program} {x y : MethodName} {S : Spec} {cc bytes : ByteArray} {maxL maxL' : Nat} {ret ret' : Option FieldType} {e : Env} {s s₁ : State} {m : MethodId} {args : Array Value} {below : List Frame} {meth : Method} {c : Code} {hh : List (Nat × Nat × Nat × Nat)}
    (B : BodyLoose p l y S cc maxL ret e s m args below meth c s₁) (h : (Cond.codeWith y bytes maxL' ret' hh).before args s = true) : c.exceptionTable.toList = tableOf hh := by
  obtain ⟨m9, meth9, c9, hn9, h1, h2, -, -, h6, -⟩ := Cond.codeWith_spec h
  cases Option.some.inj (hn9.symm.trans B.named)
  cases Option.some.inj (h1.symm.trans B.method)
  cases Option.some.inj (h2.symm.trans (Stand.of_body B).code)
  rw [← h6, table_eq]
end Bodies
end VXA
/-! ===== END ===== -/
/-! ===== BEGIN a static call of a method with an exception table ===== -/
section VXS
variable {p : Program} {l : Launch} {e : Env} {R : Room} {s : State} {m : MethodId} {args : Array Value} {below : List Frame} {meth : Method} {c : Code} {T : State} {H : Heap} {locs : List Loc} {cells slots : Nat}
abbrev vx_CSW (R : Room) (s : State) (args : Array Value) (own : String) (index : Nat) (y : MethodName) (bytes : ByteArray) (maxL : Nat) (ret : Option FieldType) (hh : List (Nat × Nat × Nat × Nat)) (ws : List Cond) (rm : Room) (mc ms n : Nat) : Prop :=
  (rm.cells = mc ∧ rm.slots = ms ∧ rm.frames + 1 ≤ R.frames ∧ 8 + (maxL + 11) + rm.locals ≤ R.locals ∧ (∀ w ∈ ws, ∀ (a' : Array Value) (U : State), s.WarmedH U.vm → w.before a' U = true) ∧ Cond.codeWith y bytes maxL ret hh ∈ ws) ∧
  (Cond.codeWith y bytes maxL ret hh).before args s = true ∧ (Cond.initialized y.cls).before args s = true ∧ (y.cls ≠ "java/lang/invoke/MethodHandle" ∧ y.cls ≠ "java/lang/invoke/VarHandle") ∧
  (∀ sig, parseMethodDescriptor y.desc = some sig → n = sig.parameters.length) ∧ (Cond.methodLink own index y).before args s = true ∧ (Cond.static y).before args s = true
theorem vx_cwSW {own : String} {index maxL mc ms : Nat} {y : MethodName} {bytes : ByteArray} {ret : Option FieldType} {hh : List (Nat × Nat × Nat × Nat)} {Ts ws ws' : List Cond} {rm : Room} (n : Nat) (ht : ∀ w ∈ Ts, w.before args s = true) (hT : GoodIn Ts (va_wsS own index y ws)) (hw : ws = Cond.codeWith y bytes maxL ret hh :: ws') (hrc : rm.cells = mc) (hrs : rm.slots = ms)
    (hd : y.cls ≠ "java/lang/invoke/MethodHandle" ∧ y.cls ≠ "java/lang/invoke/VarHandle" ∧ (parseMethodDescriptor y.desc).map (fun d => d.parameters.length) = some n) (hR : rm.frames + 1 ≤ R.frames ∧ 8 + (maxL + 11) + rm.locals ≤ R.locals) :
    vx_CSW R s args own index y bytes maxL ret hh ws rm mc ms n := by
  have ok : ∀ w ∈ va_wsS own index y ws, w.before args s = true := fun w h => ht w (hT w h).1
  have hG : GoodIn Ts ws := fun w h => hT w (by unfold va_wsS; exact List.mem_append_right _ h)
  have hc : Cond.codeWith y bytes maxL ret hh ∈ ws := by rw [hw]; exact List.mem_cons_self
  refine ⟨⟨hrc, hrs, hR.1, hR.2, pay_in ht hG, hc⟩, ht _ (hG _ hc).1, ok _ (by simp [va_wsS]), ⟨hd.1, hd.2.1⟩, fun sig h => ?_, ok _ (by simp [va_wsS]), ok _ (by simp [va_wsS])⟩
  have h2 := hd.2.2
  rw [h] at h2
  exact (Option.some.inj h2).symm
theorem vx_callSW (X : Stand p l e R s m args below meth c T locs cells slots) (hexec : p.tables.exec = Jvm.exec) {own : String} {index : Nat} {y : MethodName} {bytes : ByteArray} {maxL : Nat} {ret : Option FieldType} {hh : List (Nat × Nat × Nat × Nat)}
    (hown : s.vm.findClass own = some m.cls) (hlink : (Cond.methodLink own index y).before args s = true) (hstat : (Cond.static y).before args s = true) (hinit : (Cond.initialized y.cls).before args s = true)
    (hcode : (Cond.codeWith y bytes maxL ret hh).before args s = true) (hy : y.cls ≠ "java/lang/invoke/MethodHandle" ∧ y.cls ≠ "java/lang/invoke/VarHandle")
    {W9 : Nat} {Pre : Pt → Array Value → Prop} {Post : Pt → Array Value → Option Value → Pt → Prop} (hK : Back l R p e below s args y 3 W9 Pre Post)
    {g : JFrame} (hg : g.method = m) (hsize : g.locals.size = c.maxLocals) {argsL rest : List Value} (hlen : ∀ sig, parseMethodDescriptor y.desc = some sig → argsL.length = sig.parameters.length)
    (hstack : g.stack = argsL.reverse ++ rest) (hW : 2 * g.monitorRoom + (rest.map fun v => v.category).sum ≤ W9) (hdg : decode c.code g.pc = .ok (.invokestatic index, 3))
    (hpre : ∀ vm₁, s.WarmedH vm₁ → Pre ⟨T.setVm vm₁, locs, cells, slots⟩ argsL.toArray) :
    ∃ (v : Option Value) (vm₁ : Vm) (B : Pt), s.WarmedH vm₁ ∧ Stand p l e R s m args below meth c B.U B.locs B.cells B.slots ∧ Post ⟨T.setVm vm₁, locs, cells, slots⟩ argsL.toArray v B ∧
      ∀ target, Steps p.tables e below (B.U.setTop { g with pc := g.pc + 3, stack := v.toList ++ rest }) target → Steps p.tables e below (T.setTop g) target := by
  obtain ⟨mk, methM, cM, hnamed, hmethM, -, -, -, -, -, -, hsigM⟩ := Cond.codeWith_spec hcode
  have hstatic : methM.isStatic = true := Cond.static_spec hnamed hmethM hstat
  obtain ⟨kP, hkP, -⟩ := className_of_methodNamed hnamed
  have hinitP : kP.init = .initialized := Cond.initialized_spec (findClass_of_methodNamed hnamed) hkP hinit
  obtain ⟨vm₁, X₁, hstep₁⟩ := X.invokestatic hexec hown hlink hnamed hmethM hstatic hkP hinitP hy (g := g) hg (argsL := argsL) (rest := rest) (hlen _ hsigM) hstack hdg
  obtain ⟨v, B, X', hpost, hsteps⟩ := hK m meth c ⟨T.setVm vm₁, locs, cells, slots⟩ { g with stack := rest } (.invokestatic index) mk argsL.toArray X₁ hg hsize hdg hW (X₁.named hnamed) (hpre vm₁ X₁.warmed)
  exact ⟨v, vm₁, B, X₁.warmed, X', hpost, fun target h => hstep₁ _ fun acts => by rw [doInvoke_state]; exact hsteps.trans h⟩
theorem vx_runSW {y : MethodName} {bytes cc : ByteArray} {maxL nL mc ms n index : Nat} {ret : Option FieldType} {hh : List (Nat × Nat × Nat × Nat)} {ws : List Cond} {rm : Room} {Pc : Array Value → State → Prop} {Qc : Array Value → State → Outcome → State → Prop} {free : Addr → Prop} {Ts : List Cond} {own : String} {As rest : List Value} {g : JFrame}
    (S : CallFix p m c cc nL s args Ts own) (hM : Met l y ws rm Pc Qc mc ms free) (cw : vx_CSW R s args own index y bytes maxL ret hh ws rm mc ms n) (hp : PreS s H Pc As)
    (hg : g.method = m) (hn : As.length = n) (hsize : g.locals.size = nL) (hstack : g.stack = As.reverse ++ rest) (hW : 2 * g.monitorRoom + (rest.map fun v => v.category).sum ≤ 8) (hdg : decode cc g.pc = .ok (.invokestatic index, 3)) (hf : cells + mc ≤ R.cells ∧ slots + ms ≤ R.slots) :
    va_Run p l e R s m args below meth c H locs cells slots mc ms g rest (Qc As.toArray) (free) := by
  obtain ⟨⟨hrc, hrs, hfr, hlo, hws, hcw⟩, hcode, hini, hy, hlen, hl, hstt⟩ := cw
  have hK : Back l R p e below s args y 3 8 (PreOf R mc ms Pc) (PostOf Qc mc ms free) := va_backW (hh := hh) (bytes := bytes) (maxL := maxL) (ret := ret) hM hp.1 hrc hrs hfr hlo hws hcw (fun a' U hW => word_at hW (Or.inl (by first | rfl | simp [Cond.onTables, Cond.keeps, Cond.steady])) hini)
  obtain ⟨hx, hb, hml, ho, -⟩ := S
  intro T hT X
  obtain ⟨v, vm₁, ⟨U', l2, c2, s2⟩, hW₁, X', ⟨g', mk, t, L, e1, e2, hq, h1, hL, h2, h3⟩, st⟩ := vx_callSW X hx (hh := hh) (bytes := bytes) (maxL := maxL) (ret := ret) ho hl hstt hini hcode hy hK hg (hsize.trans hml.symm) (argsL := As) (rest := rest) (fun sig h => hn.trans (hlen sig h)) hstack hW (by rw [hb]; exact hdg)
    (fun vm₁ hW₁ => ⟨hf.1, hf.2, hp.2 (T.setVm vm₁) hT hW₁⟩)
  dsimp only [Pt.U, Pt.locs, Pt.cells, Pt.slots] at X' e1 e2 h1 h2 h3 st
  subst h1; subst h2; subst h3
  exact ⟨v, (T.setVm vm₁).calling g' mk As.toArray, t, U', L, hT, X', hL, e1, e2, hq, st⟩
/-- not caught here, past rows that name other classes: it goes on to the caller -/
theorem vx_outP {p : Program} {l : Launch} {e : Env} {R : Room} {s : State} {m : MethodId} {args : Array Value} {below : List Frame} {meth : Method} {c : Code} {H : Heap} {locs : List Loc} {cells slots : Nat} {free : Addr → Prop} {ls : Array Slot} {rest : List Value} {Qc : Array Value → State → Outcome → State → Prop} {XC : String → State → State → Prop}
    {pc : Nat} {own E : String} {ce : Cell} {q : Addr} {mc ms : Nat} (hown : s.vm.findClass own = some m.cls) (hlocks : meth.locks = false)
    (hpass : ∀ z ∈ c.exceptionTable.toList, covers z pc = false ∨ (z.catchType ≠ 0 ∧ ∃ nm : String, (Cond.classLink own z.catchType nm).before args s = true ∧ va_Nc E nm s)) (hcell : H[q]? = some ce) (hv : ce.vm = .none) (hcl : s.vm.findClass E = some ce.cls)
    (hx : ∀ t : State, t.heap = H → s.vm.Alike t.vm → XC E s t) (hf : ∀ z ∈ locs, free z.base) (hc : cells ≤ mc) (hs : slots ≤ ms) :
    vx_W p l e R s m args below meth c H locs cells slots (vx_MQ below Qc XC args s mc ms free) (F0 m pc ls rest) q := by
  intro T hT X
  have hpl : e.platform.magicAccessors = ({} : Platform).magicAccessors := by rw [X.admits.platform]
  obtain ⟨vm', hW', X', st⟩ := X.outThrough hlocks q (g := F0 m pc ls rest) rfl rfl rfl (cell := ce) (by rw [hT]; exact hcell) (by rw [hv]; rfl)
    (by obtain ⟨k9, h9, -⟩ := Vm.findClass_spec hcl; exact ⟨k9, h9⟩) (fun z hz => by
      rcases hpass z hz with h | ⟨hz0, nm, hl1, hn1⟩
      · exact Or.inl h
      · obtain ⟨c6, hc6, hcl6⟩ := Cond.classLink_spec hown hl1 e.platform hpl
        obtain ⟨a8, b8, h1, h2, h3⟩ := hn1
        cases Option.some.inj (h1.symm.trans hcl)
        cases Option.some.inj (h2.symm.trans hc6)
        exact Or.inr ⟨hz0, _, hcl6, h3⟩)
  obtain ⟨g₀, hfr⟩ := X'.frames_eq
  have hcell9 : ((T.setVm vm').setFrames (.throwing q :: below)).heap[q]? = some ce := by
    show T.heap[q]? = some ce
    rw [hT]; exact hcell
  have hend : Ended ((T.setVm vm').setFrames (.throwing q :: below)) below (.threw q) := State.frames_setFrames _ (State.cur_lt_of_frames hfr)
  refine ⟨(T.setVm vm').setFrames (.throwing q :: below), ?_, .threw q, X'.here.running, hend, Or.inr ⟨q, rfl, E, ce, locs, hx _ hT (X'.ends _).1.alike, hcell9, hv, hcl, (X'.ends _).1, (X'.ends _).2.mono hc hs, hf⟩⟩
  rw [X.pushThrowing_eq]
  exact st
/-- a thing of a world lies in the heap -/
theorem vx_lt {D : va_G} {cl : List vw_C} {ws : va_W} {H1 : Heap} (h : va_P D cl ws H1) {k : Nat} {q : Nat × va_E} (hk : ws[k]? = some q) : q.1 < H1.size := (h k q hk).lt
end VXS
/-! ===== END ===== -/
/-! ===== BEGIN methods with a table of their own: called by a name, returning or throwing ===== -/
section VXH
/-! vx_backW, vx_callVX, vx_callSX, vx_callVW, vx_runVW, vx_runVX, vx_runSX, vx_ofWH follow the same proofs as their sisters above (Free/Laws.lean, Shelf42/LK1.lean); vx_outP calls Shelf42/NT130.lean (outThrough). -/
section
variable {l : Launch} {R : Room} {p : Program} {e : Env} {below : List Frame} {s : State} {sargs : Array Value} {y : MethodName} {len W9 : Nat}
theorem vx_backW {ws : List Cond} {rm : Room} {Pc : Array Value → State → Prop} {Qc : Array Value → State → Outcome → State → Prop} {XC : String → State → State → Prop} {mc ms : Nat} {free : Addr → Prop} {bytes : ByteArray} {maxL : Nat} {ret : Option FieldType} {hh : List (Nat × Nat × Nat × Nat)}
    (hM : vx_Met l y ws rm Pc Qc XC mc ms free) (hblind : FrameBlind Pc) (hrc : rm.cells = mc) (hrs : rm.slots = ms)
    (hframes : rm.frames + 1 ≤ R.frames) (hlocals : W9 + (maxL + 11) + rm.locals ≤ R.locals)
    (hws : ∀ w ∈ ws, ∀ a' U, s.WarmedH U.vm → w.before a' U = true) (hcode : Cond.codeWith y bytes maxL ret hh ∈ ws) (hinit : ∀ a' U, s.WarmedH U.vm → (Cond.initialized y.cls).before a' U = true) :
    vx_Back l R p e below s sargs y len W9 (PreOf R mc ms Pc) (PostOf Qc mc ms free) (vx_Post XC mc ms free) := by
  intro m meth c A g ig mk a X hg hsize hdg hW hn hp
  have h1 : (headSpec ws rm).pre.before a A.U = true := atoms_intro fun w hw => hws w hw _ _ X.warmed
  have h2 : (Cond.codeWith y bytes maxL ret hh).before a A.U = true := hws _ hcode _ _ X.warmed
  have h3 : (Cond.initialized y.cls).before a A.U = true := hinit _ _ X.warmed
  have h4 : A.cells + (headSpec ws rm).room.cells ≤ R.cells := by rw [show (headSpec ws rm).room.cells = mc from hrc]; exact hp.1
  have h5 : A.slots + (headSpec ws rm).room.slots ≤ R.slots := by rw [show (headSpec ws rm).room.slots = ms from hrs]; exact hp.2.1
  have hPc : Pc a (A.U.calling g mk a) := hblind _ _ _ _ hp.2.2
  obtain ⟨U, Ls, c0, s0⟩ := A
  dsimp only [Pt.U, Pt.locs, Pt.cells, Pt.slots] at h1 h2 h3 h4 h5 X hn hPc ⊢
  obtain ⟨m9, methY, cY, hn9, hmY, hcY, -, hlY, -⟩ := Cond.codeWith_spec h2
  cases Option.some.inj (hn9.symm.trans hn)
  obtain ⟨kY, hkY, -⟩ := className_of_methodNamed hn
  have hinitY : kY.init = .initialized := Cond.initialized_spec (findClass_of_methodNamed hn) hkY h3
  have h : At U g.method c below := by rw [hg]; exact X.here
  have hlocals9 : W9 + (maxL + 11) + (headSpec ws rm).room.locals ≤ R.locals := hlocals
  have happ : (headSpec ws rm).appliesLoose y e.platform (U.calling g mk a) = true :=
    Spec.appliesLoose_calling (g := g) h hdg hn hkY hinitY
      (X.room_calling (g := g) (R' := (headSpec ws rm).room) hsize hmY hcY hframes (by rw [hlY]; omega) h4 h5) h1
  obtain ⟨mid, hmid⟩ := h.above
  have hfr : (U.setTop g).frames = (.java g :: mid) ++ below := by rw [State.frames_setTop' g h.top, hmid]; rfl
  obtain ⟨o, s₂, hsteps, -, hend, hq⟩ := Steps.callFree hM p X.admits X.cas X.clock (acts := []) hfr happ hPc trivial
  have hq' : vx_Q Qc XC mc ms free a (U.calling g mk a) o s₂ := hq
  rw [State.frames_setTop' g h.top] at hend
  obtain ⟨g₀, hg0⟩ := Option.isSome_iff_exists.mp h.top
  obtain ⟨r, hr⟩ := State.topJava?_eq_some.mp hg0
  have hr' : (({ U with heap := s₂.heap, slotsUsed := s₂.slotsUsed } : State).setVm s₂.vm).frames = .java g₀ :: r := hr
  rcases hq' with ⟨hqc, L, hfe, hL⟩ | ⟨q, rfl, E, ce, L, hx, hce, hcv, hcl, hW₂, hsm, hL⟩
  · obtain ⟨⟨v, rfl⟩, hW₂, e2, q2, q3, q4, q5, q6⟩ := id hfe
    have e3 : s₂ = ({ (U.calling g mk a).setFrames s₂.frames with heap := s₂.heap, slotsUsed := s₂.slotsUsed } : State).setVm s₂.vm := by
      have : s₂ = ({ s₂ with vm := (U.calling g mk a).vm } : State).setVm s₂.vm := rfl
      rw [e2] at this
      exact this
    obtain ⟨c₂, i₂, len₂, hc₂, hd₂, hf₂⟩ := hend
    have hW' : U.WarmedH s₂.vm := hW₂
    have hcc : c₂ = c := by
      have h1 : s₂.code? g.method = U.code? g.method := by
        rw [State.code?_eq, State.code?_eq, hW'.alike.method?]
      exact Option.some.inj (hc₂.symm.trans (h1.trans h.code))
    subst hcc
    have hlen : len₂ = len := by rw [hdg] at hd₂; cases hd₂; rfl
    subst hlen
    have hs₂ : s₂ = (({ U with heap := s₂.heap, slotsUsed := s₂.slotsUsed } : State).setVm s₂.vm).setTop { g with pc := g.pc + len₂, stack := v.toList ++ g.stack } := by
      refine e3.trans ?_
      rw [hf₂, State.calling_eq h.top, State.setFrames_setFrames, State.setTop_of_frames _ hr', hr]
      rfl
    have hsame : U.sameButNew ({ U with heap := s₂.heap, slotsUsed := s₂.slotsUsed } : State) L mc ms := by
      refine ⟨?_, q2, q3, q4, q5, q6⟩
      obtain ⟨t, ht, -⟩ := State.frames_cons hr
      show ({ U with heap := s₂.heap, slotsUsed := s₂.slotsUsed } : State) = { U.setFrames U.frames with heap := s₂.heap, slotsUsed := s₂.slotsUsed }
      rw [State.setFrames_self ht]
    subst hg
    refine Or.inl ⟨v, ⟨(({ U with heap := s₂.heap, slotsUsed := s₂.slotsUsed } : State).setVm s₂.vm), Ls ++ L, c0 + mc, s0 + ms⟩,
      ⟨X.admits, X.cas, X.clock, X.frames, X.room, X.hears, X.method, X.code, (X.here.setHeapUsed s₂.heap s₂.slotsUsed).setVm hW'.alike, X.tail, State.WarmedH.trans X.warmed hW', X.limits, X.bytes, X.same.trans (hsame.setVm s.vm)⟩,
      ⟨g, mk, s₂, L, rfl, rfl, hqc, rfl, hL, rfl, rfl⟩, ?_⟩
    show Steps p.tables e below _ ((({ U with heap := s₂.heap, slotsUsed := s₂.slotsUsed } : State).setVm s₂.vm).setTop { g with pc := g.pc + len₂, stack := v.toList ++ g.stack })
    rw [← hs₂]
    exact hsteps
  · obtain ⟨e2, q2, q3, q4, q5, q6⟩ := id hsm
    have e3 : s₂ = ({ (U.calling g mk a).setFrames s₂.frames with heap := s₂.heap, slotsUsed := s₂.slotsUsed } : State).setVm s₂.vm := by
      have : s₂ = ({ s₂ with vm := (U.calling g mk a).vm } : State).setVm s₂.vm := rfl
      rw [e2] at this
      exact this
    have hf₂ : s₂.frames = .throwing q :: .java g :: U.frames.tail := hend
    have hW' : U.WarmedH s₂.vm := hW₂
    have hs₂ : s₂ = ((({ U with heap := s₂.heap, slotsUsed := s₂.slotsUsed } : State).setVm s₂.vm).setTop g).pushFrame (.throwing q) := by
      refine e3.trans ?_
      rw [hf₂, State.calling_eq h.top, State.setFrames_setFrames, State.pushFrame, State.frames_setTop _ hr', State.setTop_of_frames _ hr', State.setFrames_setFrames, hr]
      rfl
    have hsame : U.sameButNew ({ U with heap := s₂.heap, slotsUsed := s₂.slotsUsed } : State) L mc ms := by
      refine ⟨?_, q2, q3, q4, q5, q6⟩
      obtain ⟨t, ht, -⟩ := State.frames_cons hr
      show ({ U with heap := s₂.heap, slotsUsed := s₂.slotsUsed } : State) = { U.setFrames U.frames with heap := s₂.heap, slotsUsed := s₂.slotsUsed }
      rw [State.setFrames_self ht]
    subst hg
    refine Or.inr ⟨q, ⟨(({ U with heap := s₂.heap, slotsUsed := s₂.slotsUsed } : State).setVm s₂.vm), Ls ++ L, c0 + mc, s0 + ms⟩,
      ⟨X.admits, X.cas, X.clock, X.frames, X.room, X.hears, X.method, X.code, (X.here.setHeapUsed s₂.heap s₂.slotsUsed).setVm hW'.alike, X.tail, State.WarmedH.trans X.warmed hW', X.limits, X.bytes, X.same.trans (hsame.setVm s.vm)⟩,
      ⟨g, mk, s₂, L, E, ce, rfl, rfl, hx, hce, hcv, hcl, rfl, hL, rfl, rfl⟩, ?_⟩
    show Steps p.tables e below _ (((({ U with heap := s₂.heap, slotsUsed := s₂.slotsUsed } : State).setVm s₂.vm).setTop g).pushFrame (.throwing q))
    rw [← hs₂]
    exact hsteps
end
variable {p : Program} {l : Launch} {e : Env} {R : Room} {s : State} {m : MethodId} {args : Array Value} {below : List Frame} {meth : Method} {c : Code} {T : State} {H : Heap} {locs : List Loc} {cells slots : Nat}
theorem vx_callVX (X : Stand p l e R s m args below meth c T locs cells slots) (hexec : p.tables.exec = Jvm.exec) {own C : String} {index : Nat} {y : MethodName} {bytes : ByteArray} {maxL : Nat} {ret : Option FieldType} {hh : List (Nat × Nat × Nat × Nat)}
    (hown : s.vm.findClass own = some m.cls) (hlink : (Cond.methodLink own index y).before args s = true) (hinst : (Cond.instanceMethod y).before args s = true) (hsel : (Cond.selects C y y).before args s = true)
    (hcode : (Cond.codeWith y bytes maxL ret hh).before args s = true) (hy : y.cls ≠ "java/lang/invoke/MethodHandle" ∧ y.cls ≠ "java/lang/invoke/VarHandle")
    {W9 : Nat} {Pre : Pt → Array Value → Prop} {Post : Pt → Array Value → Option Value → Pt → Prop} {PostX : Pt → Array Value → Addr → Pt → Prop} (hK : vx_Back l R p e below s args y 3 W9 Pre Post PostX)
    {b : Addr} {cellB : Cell} (hcell : T.heap[b]? = some cellB) (hobj : cellB.vm.isStatics = false) (hcls : s.vm.findClass C = some cellB.cls)
    {g : JFrame} (hg : g.method = m) (hsize : g.locals.size = c.maxLocals) {argsL rest : List Value} (hlen : ∀ sig, parseMethodDescriptor y.desc = some sig → argsL.length = sig.parameters.length)
    (hstack : g.stack = argsL.reverse ++ .ref b :: rest) (hW : 2 * g.monitorRoom + (rest.map fun v => v.category).sum ≤ W9) (hdg : decode c.code g.pc = .ok (.invokevirtual index, 3))
    (hpre : ∀ vm₁, s.WarmedH vm₁ → Pre ⟨T.setVm vm₁, locs, cells, slots⟩ (Value.ref b :: argsL).toArray) :
    (∃ (v : Option Value) (vm₁ : Vm) (B : Pt), s.WarmedH vm₁ ∧ Stand p l e R s m args below meth c B.U B.locs B.cells B.slots ∧ Post ⟨T.setVm vm₁, locs, cells, slots⟩ (Value.ref b :: argsL).toArray v B ∧
      ∀ target, Steps p.tables e below (B.U.setTop { g with pc := g.pc + 3, stack := v.toList ++ rest }) target → Steps p.tables e below (T.setTop g) target) ∨
    (∃ (q : Addr) (vm₁ : Vm) (B : Pt), s.WarmedH vm₁ ∧ Stand p l e R s m args below meth c B.U B.locs B.cells B.slots ∧ PostX ⟨T.setVm vm₁, locs, cells, slots⟩ (Value.ref b :: argsL).toArray q B ∧
      Steps p.tables e below (T.setTop g) ((B.U.setTop { g with stack := rest }).pushFrame (.throwing q))) := by
  obtain ⟨mk, methM, hnamed, hmethM, hstM, habM⟩ := Cond.instanceMethod_spec hinst
  obtain ⟨m8, methM', cM, hn8, hmethM', -, -, -, -, -, -, hsigM⟩ := Cond.codeWith_spec hcode
  cases Option.some.inj (hn8.symm.trans hnamed)
  cases hmethM.symm.trans hmethM'
  obtain ⟨c2, r2, m2, q1, q2, q3, q4, kP, hkP, hkPi⟩ := Cond.selects_spec hsel
  cases hcls.symm.trans q1
  cases (State.methodFound?_of_named hnamed hy).symm.trans q2
  cases hnamed.symm.trans q3
  have hselP : selectMethod e.platform s.vm cellB.cls mk = .method mk := by rw [Launch.admits_selectMethod X.admits]; exact q4
  obtain ⟨vm₁, X₁, hstep₁⟩ := X.invokevirtual hexec hown hlink hnamed hmethM hstM hkP hkPi hy (a := b) (cell := cellB) hcell
    (fun z h => by rw [h] at hobj; cases hobj) hselP hmethM habM hkP hkPi (g := g) hg (argsL := argsL) (rest := rest) (hlen _ hsigM) hstack hdg
  rcases hK m meth c ⟨T.setVm vm₁, locs, cells, slots⟩ { g with stack := rest } (.invokevirtual index) mk (Value.ref b :: argsL).toArray X₁ hg hsize hdg hW (X₁.named hnamed) (hpre vm₁ X₁.warmed) with ⟨v, B, X', hpost, hsteps⟩ | ⟨q, B, X', hpost, hsteps⟩
  · exact Or.inl ⟨v, vm₁, B, X₁.warmed, X', hpost, fun target h => hstep₁ _ fun acts => by rw [doInvoke_state]; exact hsteps.trans h⟩
  · exact Or.inr ⟨q, vm₁, B, X₁.warmed, X', hpost, hstep₁ _ fun acts => by rw [doInvoke_state]; exact hsteps⟩
theorem vx_callSX (X : Stand p l e R s m args below meth c T locs cells slots) (hexec : p.tables.exec = Jvm.exec) {own : String} {index : Nat} {y : MethodName} {bytes : ByteArray} {maxL : Nat} {ret : Option FieldType} {hh : List (Nat × Nat × Nat × Nat)}
    (hown : s.vm.findClass own = some m.cls) (hlink : (Cond.methodLink own index y).before args s = true) (hstat : (Cond.static y).before args s = true) (hinit : (Cond.initialized y.cls).before args s = true)
    (hcode : (Cond.codeWith y bytes maxL ret hh).before args s = true) (hy : y.cls ≠ "java/lang/invoke/MethodHandle" ∧ y.cls ≠ "java/lang/invoke/VarHandle")
    {W9 : Nat} {Pre : Pt → Array Value → Prop} {Post : Pt → Array Value → Option Value → Pt → Prop} {PostX : Pt → Array Value → Addr → Pt → Prop} (hK : vx_Back l R p e below s args y 3 W9 Pre Post PostX)
    {g : JFrame} (hg : g.method = m) (hsize : g.locals.size = c.maxLocals) {argsL rest : List Value} (hlen : ∀ sig, parseMethodDescriptor y.desc = some sig → argsL.length = sig.parameters.length)
    (hstack : g.stack = argsL.reverse ++ rest) (hW : 2 * g.monitorRoom + (rest.map fun v => v.category).sum ≤ W9) (hdg : decode c.code g.pc = .ok (.invokestatic index, 3))
    (hpre : ∀ vm₁, s.WarmedH vm₁ → Pre ⟨T.setVm vm₁, locs, cells, slots⟩ argsL.toArray) :
    (∃ (v : Option Value) (vm₁ : Vm) (B : Pt), s.WarmedH vm₁ ∧ Stand p l e R s m args below meth c B.U B.locs B.cells B.slots ∧ Post ⟨T.setVm vm₁, locs, cells, slots⟩ argsL.toArray v B ∧
      ∀ target, Steps p.tables e below (B.U.setTop { g with pc := g.pc + 3, stack := v.toList ++ rest }) target → Steps p.tables e below (T.setTop g) target) ∨
    (∃ (q : Addr) (vm₁ : Vm) (B : Pt), s.WarmedH vm₁ ∧ Stand p l e R s m args below meth c B.U B.locs B.cells B.slots ∧ PostX ⟨T.setVm vm₁, locs, cells, slots⟩ argsL.toArray q B ∧
      Steps p.tables e below (T.setTop g) ((B.U.setTop { g with stack := rest }).pushFrame (.throwing q))) := by
  obtain ⟨mk, methM, cM, hnamed, hmethM, -, -, -, -, -, -, hsigM⟩ := Cond.codeWith_spec hcode
  have hstatic : methM.isStatic = true := Cond.static_spec hnamed hmethM hstat
  obtain ⟨kP, hkP, -⟩ := className_of_methodNamed hnamed
  have hinitP : kP.init = .initialized := Cond.initialized_spec (findClass_of_methodNamed hnamed) hkP hinit
  obtain ⟨vm₁, X₁, hstep₁⟩ := X.invokestatic hexec hown hlink hnamed hmethM hstatic hkP hinitP hy (g := g) hg (argsL := argsL) (rest := rest) (hlen _ hsigM) hstack hdg
  rcases hK m meth c ⟨T.setVm vm₁, locs, cells, slots⟩ { g with stack := rest } (.invokestatic index) mk argsL.toArray X₁ hg hsize hdg hW (X₁.named hnamed) (hpre vm₁ X₁.warmed) with ⟨v, B, X', hpost, hsteps⟩ | ⟨q, B, X', hpost, hsteps⟩
  · exact Or.inl ⟨v, vm₁, B, X₁.warmed, X', hpost, fun target h => hstep₁ _ fun acts => by rw [doInvoke_state]; exact hsteps.trans h⟩
  · exact Or.inr ⟨q, vm₁, B, X₁.warmed, X', hpost, hstep₁ _ fun acts => by rw [doInvoke_state]; exact hsteps⟩
theorem vx_callVW (X : Stand p l e R s m args below meth c T locs cells slots) (hexec : p.tables.exec = Jvm.exec) {own C : String} {index : Nat} {y : MethodName} {bytes : ByteArray} {maxL : Nat} {ret : Option FieldType} {hh : List (Nat × Nat × Nat × Nat)}
    (hown : s.vm.findClass own = some m.cls) (hlink : (Cond.methodLink own index y).before args s = true) (hinst : (Cond.instanceMethod y).before args s = true) (hsel : (Cond.selects C y y).before args s = true)
    (hcode : (Cond.codeWith y bytes maxL ret hh).before args s = true) (hy : y.cls ≠ "java/lang/invoke/MethodHandle" ∧ y.cls ≠ "java/lang/invoke/VarHandle")
    {W9 : Nat} {Pre : Pt → Array Value → Prop} {Post : Pt → Array Value → Option Value → Pt → Prop} (hK : Back l R p e below s args y 3 W9 Pre Post)
    {b : Addr} {cellB : Cell} (hcell : T.heap[b]? = some cellB) (hobj : cellB.vm.isStatics = false) (hcls : s.vm.findClass C = some cellB.cls)
    {g : JFrame} (hg : g.method = m) (hsize : g.locals.size = c.maxLocals) {argsL rest : List Value} (hlen : ∀ sig, parseMethodDescriptor y.desc = some sig → argsL.length = sig.parameters.length)
    (hstack : g.stack = argsL.reverse ++ .ref b :: rest) (hW : 2 * g.monitorRoom + (rest.map fun v => v.category).sum ≤ W9) (hdg : decode c.code g.pc = .ok (.invokevirtual index, 3))
    (hpre : ∀ vm₁, s.WarmedH vm₁ → Pre ⟨T.setVm vm₁, locs, cells, slots⟩ (Value.ref b :: argsL).toArray) :
    ∃ (v : Option Value) (vm₁ : Vm) (B : Pt), s.WarmedH vm₁ ∧ Stand p l e R s m args below meth c B.U B.locs B.cells B.slots ∧ Post ⟨T.setVm vm₁, locs, cells, slots⟩ (Value.ref b :: argsL).toArray v B ∧
      ∀ target, Steps p.tables e below (B.U.setTop { g with pc := g.pc + 3, stack := v.toList ++ rest }) target → Steps p.tables e below (T.setTop g) target := by
  obtain ⟨mk, methM, hnamed, hmethM, hstM, habM⟩ := Cond.instanceMethod_spec hinst
  obtain ⟨m8, methM', cM, hn8, hmethM', -, -, -, -, -, -, hsigM⟩ := Cond.codeWith_spec hcode
  cases Option.some.inj (hn8.symm.trans hnamed)
  cases hmethM.symm.trans hmethM'
  obtain ⟨c2, r2, m2, q1, q2, q3, q4, kP, hkP, hkPi⟩ := Cond.selects_spec hsel
  cases hcls.symm.trans q1
  cases (State.methodFound?_of_named hnamed hy).symm.trans q2
  cases hnamed.symm.trans q3
  have hselP : selectMethod e.platform s.vm cellB.cls mk = .method mk := by rw [Launch.admits_selectMethod X.admits]; exact q4
  obtain ⟨vm₁, X₁, hstep₁⟩ := X.invokevirtual hexec hown hlink hnamed hmethM hstM hkP hkPi hy (a := b) (cell := cellB) hcell
    (fun z h => by rw [h] at hobj; cases hobj) hselP hmethM habM hkP hkPi (g := g) hg (argsL := argsL) (rest := rest) (hlen _ hsigM) hstack hdg
  obtain ⟨v, B, X', hpost, hsteps⟩ := hK m meth c ⟨T.setVm vm₁, locs, cells, slots⟩ { g with stack := rest } (.invokevirtual index) mk (Value.ref b :: argsL).toArray X₁ hg hsize hdg hW (X₁.named hnamed) (hpre vm₁ X₁.warmed)
  exact ⟨v, vm₁, B, X₁.warmed, X', hpost, fun target h => hstep₁ _ fun acts => by rw [doInvoke_state]; exact hsteps.trans h⟩
abbrev vx_CVW (R : Room) (s : State) (args : Array Value) (own C : String) (index : Nat) (y : MethodName) (bytes : ByteArray) (maxL : Nat) (ret : Option FieldType) (hh : List (Nat × Nat × Nat × Nat)) (ws : List Cond) (rm : Room) (mc ms n : Nat) : Prop :=
  (rm.cells = mc ∧ rm.slots = ms ∧ rm.frames + 1 ≤ R.frames ∧ 8 + (maxL + 11) + rm.locals ≤ R.locals ∧ (∀ w ∈ ws, ∀ (a' : Array Value) (U : State), s.WarmedH U.vm → w.before a' U = true) ∧ Cond.codeWith y bytes maxL ret hh ∈ ws) ∧
  (Cond.codeWith y bytes maxL ret hh).before args s = true ∧ (Cond.initialized y.cls).before args s = true ∧ (y.cls ≠ "java/lang/invoke/MethodHandle" ∧ y.cls ≠ "java/lang/invoke/VarHandle") ∧
  (∀ sig, parseMethodDescriptor y.desc = some sig → n = sig.parameters.length) ∧ (Cond.methodLink own index y).before args s = true ∧ (Cond.instanceMethod y).before args s = true ∧ (Cond.selects C y y).before args s = true
theorem vx_cwVW {own C : String} {index maxL mc ms : Nat} {y : MethodName} {bytes : ByteArray} {ret : Option FieldType} {hh : List (Nat × Nat × Nat × Nat)} {Ts ws ws' : List Cond} {rm : Room} (n : Nat) (ht : ∀ w ∈ Ts, w.before args s = true) (hT : GoodIn Ts (wsV own index C y ws)) (hw : ws = Cond.codeWith y bytes maxL ret hh :: ws') (hrc : rm.cells = mc) (hrs : rm.slots = ms)
    (hd : y.cls = C ∧ y.cls ≠ "java/lang/invoke/MethodHandle" ∧ y.cls ≠ "java/lang/invoke/VarHandle" ∧ (parseMethodDescriptor y.desc).map (fun d => d.parameters.length) = some n) (hR : rm.frames + 1 ≤ R.frames ∧ 8 + (maxL + 11) + rm.locals ≤ R.locals) :
    vx_CVW R s args own C index y bytes maxL ret hh ws rm mc ms n := by
  obtain ⟨hC, hd⟩ := hd
  subst hC
  have ok : ∀ w ∈ wsV own index y.cls y ws, w.before args s = true := fun w h => ht w (hT w h).1
  have hG : GoodIn Ts ws := fun w h => hT w (by unfold wsV; exact List.mem_append_right _ h)
  have hc : Cond.codeWith y bytes maxL ret hh ∈ ws := by rw [hw]; exact List.mem_cons_self
  refine ⟨⟨hrc, hrs, hR.1, hR.2, pay_in ht hG, hc⟩, ht _ (hG _ hc).1, ok _ (by simp [wsV]), ⟨hd.1, hd.2.1⟩, fun sig h => ?_, ok _ (by simp [wsV]), ok _ (by simp [wsV]), ok _ (by simp [wsV])⟩
  have h2 := hd.2.2
  rw [h] at h2
  exact (Option.some.inj h2).symm
theorem vx_runVW {y : MethodName} {bytes cc : ByteArray} {maxL nL mc ms n index : Nat} {ret : Option FieldType} {hh : List (Nat × Nat × Nat × Nat)} {ws : List Cond} {rm : Room} {Pc : Array Value → State → Prop} {Qc : Array Value → State → Outcome → State → Prop} {free : Addr → Prop} {Ts : List Cond} {own C : String} {b : Addr} {As rest : List Value} {g : JFrame}
    (S : CallFix p m c cc nL s args Ts own) (hM : Met l y ws rm Pc Qc mc ms free) (cw : vx_CVW R s args own C index y bytes maxL ret hh ws rm mc ms n) (hp : PreV s H C b Pc As)
    (hg : g.method = m) (hn : As.length = n) (hsize : g.locals.size = nL) (hstack : g.stack = As.reverse ++ .ref b :: rest) (hW : 2 * g.monitorRoom + (rest.map fun v => v.category).sum ≤ 8) (hdg : decode cc g.pc = .ok (.invokevirtual index, 3)) (hf : cells + mc ≤ R.cells ∧ slots + ms ≤ R.slots) :
    va_Run p l e R s m args below meth c H locs cells slots mc ms g rest (Qc (Value.ref b :: As).toArray) free := by
  obtain ⟨⟨hrc, hrs, hfr, hlo, hws, hcw⟩, hcode, hini, hy, hlen, hl, hin, hse⟩ := cw
  have hK : Back l R p e below s args y 3 8 (PreOf R mc ms Pc) (PostOf Qc mc ms free) := va_backW (hh := hh) (bytes := bytes) (maxL := maxL) (ret := ret) hM hp.1 hrc hrs hfr hlo hws hcw (fun a' U hW => word_at hW (Or.inl (by first | rfl | simp [Cond.onTables, Cond.keeps, Cond.steady])) hini)
  obtain ⟨hx, hb, hml, ho, -⟩ := S
  obtain ⟨-, ⟨cellB, hcB, hoB, hclB⟩, hPc⟩ := hp
  intro T hT X
  obtain ⟨v, vm₁, ⟨U', l2, c2, s2⟩, hW₁, X', ⟨g', mk, t, L, e1, e2, hq, h1, hL, h2, h3⟩, st⟩ := vx_callVW X hx (C := C) (hh := hh) (bytes := bytes) (maxL := maxL) (ret := ret) ho hl hin hse hcode hy hK (by rw [hT]; exact hcB) hoB hclB hg (hsize.trans hml.symm) (argsL := As) (rest := rest) (fun sig h => hn.trans (hlen sig h)) hstack hW (by rw [hb]; exact hdg)
    (fun vm₁ hW₁ => ⟨hf.1, hf.2, hPc (T.setVm vm₁) hT hW₁⟩)
  dsimp only [Pt.U, Pt.locs, Pt.cells, Pt.slots] at X' e1 e2 h1 h2 h3 st
  subst h1; subst h2; subst h3
  exact ⟨v, (T.setVm vm₁).calling g' mk (Value.ref b :: As).toArray, t, U', L, hT, X', hL, e1, e2, hq, st⟩
section
variable {y : MethodName} {bytes cc : ByteArray} {maxL nL mc ms n index : Nat} {ret : Option FieldType} {ws : List Cond} {rm : Room} {Pc : Array Value → State → Prop} {Qc : Array Value → State → Outcome → State → Prop} {XC : String → State → State → Prop} {free : Addr → Prop} {Ts : List Cond} {own C : String} {b : Addr} {As rest : List Value} {g : JFrame}
theorem vx_runVX {hh : List (Nat × Nat × Nat × Nat)} (S : CallFix p m c cc nL s args Ts own) (hM : vx_Met l y ws rm Pc Qc XC mc ms free) (cw : vx_CVW R s args own C index y bytes maxL ret hh ws rm mc ms n) (hp : PreV s H C b Pc As)
    (hg : g.method = m) (hn : As.length = n) (hsize : g.locals.size = nL) (hstack : g.stack = As.reverse ++ .ref b :: rest) (hW : 2 * g.monitorRoom + (rest.map fun v => v.category).sum ≤ 8) (hdg : decode cc g.pc = .ok (.invokevirtual index, 3)) (hf : cells + mc ≤ R.cells ∧ slots + ms ≤ R.slots) :
    vx_Run p l e R s m args below meth c H locs cells slots mc ms g rest (Qc (Value.ref b :: As).toArray) XC free := by
  obtain ⟨⟨hrc, hrs, hfr, hlo, hws, hcw⟩, hcode, hini, hy, hlen, hl, hin, hse⟩ := cw
  have hK : vx_Back l R p e below s args y 3 8 (PreOf R mc ms Pc) (PostOf Qc mc ms free) (vx_Post XC mc ms free) := vx_backW (hh := hh) (bytes := bytes) (maxL := maxL) (ret := ret) hM hp.1 hrc hrs hfr hlo hws hcw (fun a' U hW => word_at hW (Or.inl (by first | rfl | simp [Cond.onTables, Cond.keeps, Cond.steady])) hini)
  obtain ⟨hx, hb, hml, ho, -⟩ := S
  obtain ⟨-, ⟨cellB, hcB, hoB, hclB⟩, hPc⟩ := hp
  intro T hT X
  rcases vx_callVX X hx (C := C) (hh := hh) (bytes := bytes) (maxL := maxL) (ret := ret) ho hl hin hse hcode hy hK (by rw [hT]; exact hcB) hoB hclB hg (hsize.trans hml.symm) (argsL := As) (rest := rest) (fun sig h => hn.trans (hlen sig h)) hstack hW (by rw [hb]; exact hdg)
    (fun vm₁ hW₁ => ⟨hf.1, hf.2, hPc (T.setVm vm₁) hT hW₁⟩) with ⟨v, vm₁, ⟨U', l2, c2, s2⟩, hW₁, X', ⟨g', mk, t, L, e1, e2, hq, h1, hL, h2, h3⟩, st⟩ | ⟨q, vm₁, ⟨U', l2, c2, s2⟩, hW₁, X', ⟨g', mk, t, L, E, ce, e1, e2, hq, hce, hcv, hcl, h1, hL, h2, h3⟩, st⟩
  · dsimp only [Pt.U, Pt.locs, Pt.cells, Pt.slots] at X' e1 e2 h1 h2 h3 st
    subst h1; subst h2; subst h3
    exact Or.inl ⟨v, (T.setVm vm₁).calling g' mk (Value.ref b :: As).toArray, t, U', L, hT, X', hL, e1, e2, hq, st⟩
  · dsimp only [Pt.U, Pt.locs, Pt.cells, Pt.slots] at X' e1 e2 h1 h2 h3 st hcl
    subst h1; subst h2; subst h3
    exact Or.inr ⟨q, (T.setVm vm₁).calling g' mk (Value.ref b :: As).toArray, t, U', L, E, ce, hT, X', hL, e1, e2, hq, hce, hcv, vx_cls hW₁ hcl, st⟩
theorem vx_runSX {hh : List (Nat × Nat × Nat × Nat)} (S : CallFix p m c cc nL s args Ts own) (hM : vx_Met l y ws rm Pc Qc XC mc ms free) (cw : vx_CSW R s args own index y bytes maxL ret hh ws rm mc ms n) (hp : PreS s H Pc As)
    (hg : g.method = m) (hn : As.length = n) (hsize : g.locals.size = nL) (hstack : g.stack = As.reverse ++ rest) (hW : 2 * g.monitorRoom + (rest.map fun v => v.category).sum ≤ 8) (hdg : decode cc g.pc = .ok (.invokestatic index, 3)) (hf : cells + mc ≤ R.cells ∧ slots + ms ≤ R.slots) :
    vx_Run p l e R s m args below meth c H locs cells slots mc ms g rest (Qc As.toArray) XC free := by
  obtain ⟨⟨hrc, hrs, hfr, hlo, hws, hcw⟩, hcode, hini, hy, hlen, hl, hstt⟩ := cw
  have hK : vx_Back l R p e below s args y 3 8 (PreOf R mc ms Pc) (PostOf Qc mc ms free) (vx_Post XC mc ms free) := vx_backW (hh := hh) (bytes := bytes) (maxL := maxL) (ret := ret) hM hp.1 hrc hrs hfr hlo hws hcw (fun a' U hW => word_at hW (Or.inl (by first | rfl | simp [Cond.onTables, Cond.keeps, Cond.steady])) hini)
  obtain ⟨hx, hb, hml, ho, -⟩ := S
  intro T hT X
  rcases vx_callSX X hx (hh := hh) (bytes := bytes) (maxL := maxL) (ret := ret) ho hl hstt hini hcode hy hK hg (hsize.trans hml.symm) (argsL := As) (rest := rest) (fun sig h => hn.trans (hlen sig h)) hstack hW (by rw [hb]; exact hdg)
    (fun vm₁ hW₁ => ⟨hf.1, hf.2, hp.2 (T.setVm vm₁) hT hW₁⟩) with ⟨v, vm₁, ⟨U', l2, c2, s2⟩, hW₁, X', ⟨g', mk, t, L, e1, e2, hq, h1, hL, h2, h3⟩, st⟩ | ⟨q, vm₁, ⟨U', l2, c2, s2⟩, hW₁, X', ⟨g', mk, t, L, E, ce, e1, e2, hq, hce, hcv, hcl, h1, hL, h2, h3⟩, st⟩
  · dsimp only [Pt.U, Pt.locs, Pt.cells, Pt.slots] at X' e1 e2 h1 h2 h3 st
    subst h1; subst h2; subst h3
    exact Or.inl ⟨v, (T.setVm vm₁).calling g' mk As.toArray, t, U', L, hT, X', hL, e1, e2, hq, st⟩
  · dsimp only [Pt.U, Pt.locs, Pt.cells, Pt.slots] at X' e1 e2 h1 h2 h3 st hcl
    subst h1; subst h2; subst h3
    exact Or.inr ⟨q, (T.setVm vm₁).calling g' mk As.toArray, t, U', L, E, ce, hT, X', hL, e1, e2, hq, hce, hcv, vx_cls hW₁ hcl, st⟩
end
end VXH
theorem vx_ofWH {l : Launch} {y : MethodName} {ws ws' : List Cond} {rm : Room} {Pc : Array Value → State → Prop} {Qc : Array Value → State → Outcome → State → Prop} {XC : String → State → State → Prop} {mc ms : Nat} {free : Addr → Prop} {cc : ByteArray} {maxL : Nat} {ret : Option FieldType} {hh : List (Nat × Nat × Nat × Nat)}
    (hy : plainName y.cls = true) (hw : ws = Cond.codeWith y cc maxL ret hh :: ws')
    (body : ∀ p e s m args below meth c s₁, BodyLoose p l y (headSpec ws rm) cc maxL ret e s m args below meth c s₁ → c.maxLocals = maxL → Pc args s →
      W p l e (headSpec ws rm).room s m args below meth c s.heap [] 0 0 (vx_MQ below Qc XC args s mc ms free) (entryFrame m args maxL)) : vx_Met l y ws rm Pc Qc XC mc ms free := by
  refine MetFree.of_bodyS (code := cc) (maxLocals := maxL) (ret := ret) hy ?_ ?_
  · intro args s m h hn
    obtain ⟨m9, meth, c, hn9, h1, h2, h3, h4, -, h5, h6, -⟩ := Cond.codeWith_spec (atoms_spec (ws := ws) h _ (by rw [hw]; exact List.mem_cons_self))
    cases hn.symm.trans hn9
    exact ⟨meth, c, h1, h2, h3, h4, h5, h6⟩
  · intro p e s m args below meth c s₁ B hml hP _
    have hh0 : s₁.heap = s.heap := by rw [B.state]; rfl
    obtain ⟨t, a1, o, b1, b2, b3⟩ := body p e s m args below meth c s₁ B hml hP s₁ hh0 (Stand.of_body B)
    exact ⟨t, o, a1, b1, b2, b3⟩
/-! ===== END ===== -/
end
section
def RX0 : String := "HelpDesk$Agent"
def TX0 : u_T := fun k => match k with
  | 0 => ("HelpDesk$Agent", "number", "I", true)
  | 1 => ("HelpDesk$Agent", "days", "I", true)
  | 2 => ("HelpDesk$Agent", "begin", "I", true)
  | 3 => ("HelpDesk$Agent", "end", "I", true)
  | 4 => ("HelpDesk$Agent", "skills", "I", false)
  | 5 => ("HelpDesk$Agent", "held", "LHelpDesk$Ticket;", false)
  | 6 => ("HelpDesk$Agent", "minutesWorked", "I", false)
  | _ => ("HelpDesk$Agent", "timesSolved", "I", false)
def tyX0 : Nat → FieldType := fun k => match k with
  | 0 => .int
  | 1 => .int
  | 2 => .int
  | 3 => .int
  | 4 => .int
  | 5 => .object "HelpDesk$Ticket"
  | 6 => .int
  | _ => .int
abbrev wsX00 : List Cond := u_ws RX0 TX0 8
theorem nmX0 : ∀ a, a < 8 → ∀ b, b < 8 → a ≠ b → (TX0 a).2.1 ≠ (TX0 b).2.1 := by decide +kernel
theorem tyX0_ok : ∀ k, k < 8 → parseFieldDescriptor (TX0 k).2.2.1 = some (tyX0 k) := by decide +kernel
abbrev cX0_init : ByteArray := prog_2_method_1_code
def yX0_init : MethodName := ⟨RX0, "<init>", "(IIIII)V"⟩
abbrev cX0_hasSkill : ByteArray := prog_2_method_2_code
def yX0_hasSkill : MethodName := ⟨RX0, "hasSkill", "(I)Z"⟩
abbrev cX0_isThere : ByteArray := prog_2_method_3_code
def yX0_isThere : MethodName := ⟨RX0, "isThere", "(I)Z"⟩
def RX1 : String := "HelpDesk$Hours"
def TX1 : u_T := fun k => match k with
  | 0 => ("HelpDesk$Hours", "opening", "I", false)
  | _ => ("HelpDesk$Hours", "closing", "I", false)
def tyX1 : Nat → FieldType := fun k => match k with
  | 0 => .int
  | _ => .int
abbrev wsX10 : List Cond := u_ws RX1 TX1 2
theorem nmX1 : ∀ a, a < 2 → ∀ b, b < 2 → a ≠ b → (TX1 a).2.1 ≠ (TX1 b).2.1 := by decide +kernel
theorem tyX1_ok : ∀ k, k < 2 → parseFieldDescriptor (TX1 k).2.2.1 = some (tyX1 k) := by decide +kernel
abbrev cX1_init : ByteArray := prog_3_method_1_code
def yX1_init : MethodName := ⟨RX1, "<init>", "()V"⟩
abbrev cX1_isService : ByteArray := prog_3_method_2_code
def yX1_isService : MethodName := ⟨RX1, "isService", "(I)Z"⟩
abbrev cX1_minutesBetween : ByteArray := prog_3_method_3_code
def yX1_minutesBetween : MethodName := ⟨RX1, "minutesBetween", "(II)I"⟩
abbrev cX1_minuteOfService : ByteArray := prog_3_method_4_code
def yX1_minuteOfService : MethodName := ⟨RX1, "minuteOfService", "(II)I"⟩
abbrev cX1_minutesOfDay : ByteArray := prog_3_method_5_code
def yX1_minutesOfDay : MethodName := ⟨RX1, "minutesOfDay", "(III)I"⟩
def RX2 : String := "HelpDesk$Ticket"
def TX2 : u_T := fun k => match k with
  | 0 => ("HelpDesk$Ticket", "number", "I", true)
  | 1 => ("HelpDesk$Ticket", "skill", "I", true)
  | 2 => ("HelpDesk$Ticket", "priority", "I", false)
  | 3 => ("HelpDesk$Ticket", "effort", "I", false)
  | 4 => ("HelpDesk$Ticket", "state", "I", false)
  | 5 => ("HelpDesk$Ticket", "age", "I", false)
  | 6 => ("HelpDesk$Ticket", "done", "I", false)
  | 7 => ("HelpDesk$Ticket", "answerAge", "I", false)
  | 8 => ("HelpDesk$Ticket", "timesReopened", "I", false)
  | 9 => ("HelpDesk$Ticket", "pausedAt", "I", false)
  | 10 => ("HelpDesk$Ticket", "solvedAt", "I", false)
  | 11 => ("HelpDesk$Ticket", "customerSet", "I", false)
  | 12 => ("HelpDesk$Ticket", "holder", "LHelpDesk$Agent;", false)
  | 13 => ("HelpDesk$Ticket", "latestHolder", "LHelpDesk$Agent;", false)
  | _ => ("HelpDesk$Ticket", "mergedInto", "LHelpDesk$Ticket;", false)
def tyX2 : Nat → FieldType := fun k => match k with
  | 0 => .int
  | 1 => .int
  | 2 => .int
  | 3 => .int
  | 4 => .int
  | 5 => .int
  | 6 => .int
  | 7 => .int
  | 8 => .int
  | 9 => .int
  | 10 => .int
  | 11 => .int
  | 12 => .object "HelpDesk$Agent"
  | 13 => .object "HelpDesk$Agent"
  | _ => .object "HelpDesk$Ticket"
abbrev wsX20 : List Cond := u_ws RX2 TX2 15
theorem nmX2 : ∀ a, a < 15 → ∀ b, b < 15 → a ≠ b → (TX2 a).2.1 ≠ (TX2 b).2.1 := by decide +kernel
theorem tyX2_ok : ∀ k, k < 15 → parseFieldDescriptor (TX2 k).2.2.1 = some (tyX2 k) := by decide +kernel
abbrev cX2_init : ByteArray := prog_4_method_1_code
def yX2_init : MethodName := ⟨RX2, "<init>", "(IIIII)V"⟩
abbrev cX2_isOpen : ByteArray := prog_4_method_2_code
def yX2_isOpen : MethodName := ⟨RX2, "isOpen", "()Z"⟩
def RX3 : String := "HelpDesk"
def TX3 : u_T := fun k => match k with
  | 0 => ("HelpDesk", "hours", "LHelpDesk$Hours;", true)
  | 1 => ("HelpDesk", "answerTargets", "[I", true)
  | 2 => ("HelpDesk", "solutionTargets", "[I", true)
  | 3 => ("HelpDesk", "agents", "Ljava/util/ArrayList;", true)
  | 4 => ("HelpDesk", "tickets", "Ljava/util/ArrayList;", true)
  | _ => ("HelpDesk", "minute", "I", false)
def tyX3 : Nat → FieldType := fun k => match k with
  | 0 => .object "HelpDesk$Hours"
  | 1 => .array .int
  | 2 => .array .int
  | 3 => .object "java/util/ArrayList"
  | 4 => .object "java/util/ArrayList"
  | _ => .int
abbrev wsX30 : List Cond := u_ws RX3 TX3 6
theorem nmX3 : ∀ a, a < 6 → ∀ b, b < 6 → a ≠ b → (TX3 a).2.1 ≠ (TX3 b).2.1 := by decide +kernel
theorem tyX3_ok : ∀ k, k < 6 → parseFieldDescriptor (TX3 k).2.2.1 = some (tyX3 k) := by decide +kernel
abbrev cX3_init : ByteArray := prog_1_method_1_code
def yX3_init : MethodName := ⟨RX3, "<init>", "()V"⟩
abbrev cX3_setHours : ByteArray := prog_1_method_2_code
def yX3_setHours : MethodName := ⟨RX3, "setHours", "(II)Z"⟩
abbrev cX3_setTargets : ByteArray := prog_1_method_3_code
def yX3_setTargets : MethodName := ⟨RX3, "setTargets", "(III)I"⟩
abbrev cX3_now : ByteArray := prog_1_method_4_code
def yX3_now : MethodName := ⟨RX3, "now", "()I"⟩
abbrev cX3_service : ByteArray := prog_1_method_5_code
def yX3_service : MethodName := ⟨RX3, "service", "(II)I"⟩
abbrev cX3_addAgent : ByteArray := prog_1_method_6_code
def yX3_addAgent : MethodName := ⟨RX3, "addAgent", "(IIII)I"⟩
abbrev cX3_setSkills : ByteArray := prog_1_method_7_code
def yX3_setSkills : MethodName := ⟨RX3, "setSkills", "(II)I"⟩
abbrev cX3_agent : ByteArray := prog_1_method_8_code
def yX3_agent : MethodName := ⟨RX3, "agent", "(II)I"⟩
abbrev cX3_next : ByteArray := prog_1_method_9_code
def yX3_next : MethodName := ⟨RX3, "next", "(I)I"⟩
abbrev cX3_open : ByteArray := prog_1_method_10_code
def yX3_open : MethodName := ⟨RX3, "open", "(IIII)I"⟩
abbrev cX3_setPriority : ByteArray := prog_1_method_11_code
def yX3_setPriority : MethodName := ⟨RX3, "setPriority", "(II)I"⟩
abbrev cX3_pause : ByteArray := prog_1_method_12_code
def yX3_pause : MethodName := ⟨RX3, "pause", "(I)I"⟩
abbrev cX3_resume : ByteArray := prog_1_method_13_code
def yX3_resume : MethodName := ⟨RX3, "resume", "(I)I"⟩
abbrev cX3_merge : ByteArray := prog_1_method_14_code
def yX3_merge : MethodName := ⟨RX3, "merge", "(II)I"⟩
abbrev cX3_reopen : ByteArray := prog_1_method_15_code
def yX3_reopen : MethodName := ⟨RX3, "reopen", "(II)I"⟩
abbrev cX3_ticketCount : ByteArray := prog_1_method_16_code
def yX3_ticketCount : MethodName := ⟨RX3, "ticketCount", "()I"⟩
abbrev cX3_ticket : ByteArray := prog_1_method_17_code
def yX3_ticket : MethodName := ⟨RX3, "ticket", "(II)I"⟩
abbrev cX3_main : ByteArray := prog_1_method_18_code
def yX3_main : MethodName := ⟨RX3, "main", "(I)I"⟩
abbrev cX3_customers : ByteArray := prog_1_method_19_code
def yX3_customers : MethodName := ⟨RX3, "customers", "(I)I"⟩
abbrev cX3_due : ByteArray := prog_1_method_20_code
def yX3_due : MethodName := ⟨RX3, "due", "(I)I"⟩
abbrev cX3_pass : ByteArray := prog_1_method_21_code
def yX3_pass : MethodName := ⟨RX3, "pass", "(I)I"⟩
abbrev cX3_all : ByteArray := prog_1_method_22_code
def yX3_all : MethodName := ⟨RX3, "all", "(I)I"⟩
abbrev cX3_broken : ByteArray := prog_1_method_23_code
def yX3_broken : MethodName := ⟨RX3, "broken", "(Z)I"⟩
abbrev cX3_lacking : ByteArray := prog_1_method_24_code
def yX3_lacking : MethodName := ⟨RX3, "lacking", "()I"⟩
abbrev cX3_success : ByteArray := prog_1_method_25_code
def yX3_success : MethodName := ⟨RX3, "success", "()D"⟩
abbrev cX3_digest : ByteArray := prog_1_method_26_code
def yX3_digest : MethodName := ⟨RX3, "digest", "()J"⟩
abbrev cX3_passMinute : ByteArray := prog_1_method_27_code
def yX3_passMinute : MethodName := ⟨RX3, "passMinute", "()I"⟩
abbrev cX3_sendHomeAgents : ByteArray := prog_1_method_28_code
def yX3_sendHomeAgents : MethodName := ⟨RX3, "sendHomeAgents", "()V"⟩
abbrev cX3_giveOutTickets : ByteArray := prog_1_method_29_code
def yX3_giveOutTickets : MethodName := ⟨RX3, "giveOutTickets", "()V"⟩
abbrev cX3_ageTickets : ByteArray := prog_1_method_30_code
def yX3_ageTickets : MethodName := ⟨RX3, "ageTickets", "()V"⟩
abbrev cX3_work : ByteArray := prog_1_method_31_code
def yX3_work : MethodName := ⟨RX3, "work", "()I"⟩
abbrev cX3_solve : ByteArray := prog_1_method_32_code
def yX3_solve : MethodName := ⟨RX3, "solve", "(LHelpDesk$Ticket;LHelpDesk$Agent;)V"⟩
abbrev cX3_give : ByteArray := prog_1_method_33_code
def yX3_give : MethodName := ⟨RX3, "give", "(LHelpDesk$Ticket;LHelpDesk$Agent;)V"⟩
abbrev cX3_handBack : ByteArray := prog_1_method_34_code
def yX3_handBack : MethodName := ⟨RX3, "handBack", "(LHelpDesk$Ticket;)V"⟩
abbrev cX3_takeFromHolder : ByteArray := prog_1_method_35_code
def yX3_takeFromHolder : MethodName := ⟨RX3, "takeFromHolder", "(LHelpDesk$Ticket;)V"⟩
abbrev cX3_firstByLiking : ByteArray := prog_1_method_36_code
def yX3_firstByLiking : MethodName := ⟨RX3, "firstByLiking", "(LHelpDesk$Agent;)LHelpDesk$Ticket;"⟩
abbrev cX3_isLikedMore : ByteArray := prog_1_method_37_code
def yX3_isLikedMore : MethodName := ⟨RX3, "isLikedMore", "(LHelpDesk$Agent;LHelpDesk$Ticket;LHelpDesk$Ticket;)Z"⟩
abbrev cX3_slackOf : ByteArray := prog_1_method_38_code
def yX3_slackOf : MethodName := ⟨RX3, "slackOf", "(LHelpDesk$Ticket;)I"⟩
abbrev cX3_breaksAnswer : ByteArray := prog_1_method_39_code
def yX3_breaksAnswer : MethodName := ⟨RX3, "breaksAnswer", "(LHelpDesk$Ticket;)Z"⟩
abbrev cX3_breaksSolution : ByteArray := prog_1_method_40_code
def yX3_breaksSolution : MethodName := ⟨RX3, "breaksSolution", "(LHelpDesk$Ticket;)Z"⟩
abbrev cX3_toldOfAgent : ByteArray := prog_1_method_41_code
def yX3_toldOfAgent : MethodName := ⟨RX3, "toldOfAgent", "(LHelpDesk$Agent;I)I"⟩
abbrev cX3_toldOfTicket : ByteArray := prog_1_method_42_code
def yX3_toldOfTicket : MethodName := ⟨RX3, "toldOfTicket", "(LHelpDesk$Ticket;I)I"⟩
abbrev cX3_numberOfAgent : ByteArray := prog_1_method_43_code
def yX3_numberOfAgent : MethodName := ⟨RX3, "numberOfAgent", "(LHelpDesk$Agent;)I"⟩
abbrev cX3_numberOfTicket : ByteArray := prog_1_method_44_code
def yX3_numberOfTicket : MethodName := ⟨RX3, "numberOfTicket", "(LHelpDesk$Ticket;)I"⟩
abbrev cX3_mainOf : ByteArray := prog_1_method_45_code
def yX3_mainOf : MethodName := ⟨RX3, "mainOf", "(LHelpDesk$Ticket;)LHelpDesk$Ticket;"⟩
abbrev cX3_digested : ByteArray := prog_1_method_46_code
def yX3_digested : MethodName := ⟨RX3, "digested", "(JI)J"⟩
abbrev cX3_digestedAgent : ByteArray := prog_1_method_47_code
def yX3_digestedAgent : MethodName := ⟨RX3, "digestedAgent", "(JLHelpDesk$Agent;)J"⟩
abbrev cX3_digestedTicket : ByteArray := prog_1_method_48_code
def yX3_digestedTicket : MethodName := ⟨RX3, "digestedTicket", "(JLHelpDesk$Ticket;)J"⟩
abbrev cX3_agentAt : ByteArray := prog_1_method_49_code
def yX3_agentAt : MethodName := ⟨RX3, "agentAt", "(I)LHelpDesk$Agent;"⟩
abbrev cX3_ticketAt : ByteArray := prog_1_method_50_code
def yX3_ticketAt : MethodName := ⟨RX3, "ticketAt", "(I)LHelpDesk$Ticket;"⟩
abbrev cX3_isPriority : ByteArray := prog_1_method_51_code
def yX3_isPriority : MethodName := ⟨RX3, "isPriority", "(I)Z"⟩
abbrev cX3_isSetOfSkills : ByteArray := prog_1_method_52_code
def yX3_isSetOfSkills : MethodName := ⟨RX3, "isSetOfSkills", "(I)Z"⟩
abbrev cX3_isSpanOfDay : ByteArray := prog_1_method_53_code
def yX3_isSpanOfDay : MethodName := ⟨RX3, "isSpanOfDay", "(II)Z"⟩
abbrev cX3_dayOfWeek : ByteArray := prog_1_method_54_code
def yX3_dayOfWeek : MethodName := ⟨RX3, "dayOfWeek", "(I)I"⟩
def RX4 : String := "HelpDeskModel"
def TX4 : u_T := fun k => match k with
  | 0 => ("HelpDeskModel", "thrown", "I", false)
  | 1 => ("HelpDeskModel", "minute", "I", false)
  | 2 => ("HelpDeskModel", "opening", "I", false)
  | 3 => ("HelpDeskModel", "closing", "I", false)
  | 4 => ("HelpDeskModel", "answers", "[I", true)
  | 5 => ("HelpDeskModel", "solutions", "[I", true)
  | 6 => ("HelpDeskModel", "agents", "I", false)
  | 7 => ("HelpDeskModel", "skills", "[I", true)
  | 8 => ("HelpDeskModel", "days", "[I", true)
  | 9 => ("HelpDeskModel", "begins", "[I", true)
  | 10 => ("HelpDeskModel", "ends", "[I", true)
  | 11 => ("HelpDeskModel", "hands", "[I", true)
  | 12 => ("HelpDeskModel", "worked", "[I", true)
  | 13 => ("HelpDeskModel", "solved", "[I", true)
  | 14 => ("HelpDeskModel", "tickets", "I", false)
  | 15 => ("HelpDeskModel", "needs", "[I", true)
  | 16 => ("HelpDeskModel", "priorities", "[I", true)
  | 17 => ("HelpDeskModel", "efforts", "[I", true)
  | 18 => ("HelpDeskModel", "clients", "[I", true)
  | 19 => ("HelpDeskModel", "states", "[I", true)
  | 20 => ("HelpDeskModel", "ages", "[I", true)
  | 21 => ("HelpDeskModel", "done", "[I", true)
  | 22 => ("HelpDeskModel", "latest", "[I", true)
  | 23 => ("HelpDeskModel", "answerAges", "[I", true)
  | 24 => ("HelpDeskModel", "reopened", "[I", true)
  | _ => ("HelpDeskModel", "notes", "[I", true)
def tyX4 : Nat → FieldType := fun k => match k with
  | 0 => .int
  | 1 => .int
  | 2 => .int
  | 3 => .int
  | 4 => .array .int
  | 5 => .array .int
  | 6 => .int
  | 7 => .array .int
  | 8 => .array .int
  | 9 => .array .int
  | 10 => .array .int
  | 11 => .array .int
  | 12 => .array .int
  | 13 => .array .int
  | 14 => .int
  | 15 => .array .int
  | 16 => .array .int
  | 17 => .array .int
  | 18 => .array .int
  | 19 => .array .int
  | 20 => .array .int
  | 21 => .array .int
  | 22 => .array .int
  | 23 => .array .int
  | 24 => .array .int
  | _ => .array .int
abbrev wsX40 : List Cond := u_ws RX4 TX4 26
theorem nmX4 : ∀ a, a < 26 → ∀ b, b < 26 → a ≠ b → (TX4 a).2.1 ≠ (TX4 b).2.1 := by decide +kernel
theorem tyX4_ok : ∀ k, k < 26 → parseFieldDescriptor (TX4 k).2.2.1 = some (tyX4 k) := by decide +kernel
abbrev cX4_init : ByteArray := prog_6_method_1_code
def yX4_init : MethodName := ⟨RX4, "<init>", "()V"⟩
abbrev cX4_thrown : ByteArray := prog_6_method_2_code
def yX4_thrown : MethodName := ⟨RX4, "thrown", "()I"⟩
abbrev cX4_no : ByteArray := prog_6_method_3_code
def yX4_no : MethodName := ⟨RX4, "no", "(I)I"⟩
abbrev cX4_isIn : ByteArray := prog_6_method_4_code
def yX4_isIn : MethodName := ⟨RX4, "isIn", "(III)Z"⟩
abbrev cX4_has : ByteArray := prog_6_method_5_code
def yX4_has : MethodName := ⟨RX4, "has", "(II)Z"⟩
abbrev cX4_isAgent : ByteArray := prog_6_method_6_code
def yX4_isAgent : MethodName := ⟨RX4, "isAgent", "(I)Z"⟩
abbrev cX4_isTicket : ByteArray := prog_6_method_7_code
def yX4_isTicket : MethodName := ⟨RX4, "isTicket", "(I)Z"⟩
abbrev cX4_isOpen : ByteArray := prog_6_method_8_code
def yX4_isOpen : MethodName := ⟨RX4, "isOpen", "(I)Z"⟩
abbrev cX4_setHours : ByteArray := prog_6_method_9_code
def yX4_setHours : MethodName := ⟨RX4, "setHours", "(II)Z"⟩
abbrev cX4_setTargets : ByteArray := prog_6_method_10_code
def yX4_setTargets : MethodName := ⟨RX4, "setTargets", "(III)I"⟩
abbrev cX4_now : ByteArray := prog_6_method_11_code
def yX4_now : MethodName := ⟨RX4, "now", "()I"⟩
abbrev cX4_isService : ByteArray := prog_6_method_12_code
def yX4_isService : MethodName := ⟨RX4, "isService", "(I)Z"⟩
abbrev cX4_serviceAhead : ByteArray := prog_6_method_13_code
def yX4_serviceAhead : MethodName := ⟨RX4, "serviceAhead", "(I)I"⟩
abbrev cX4_service : ByteArray := prog_6_method_14_code
def yX4_service : MethodName := ⟨RX4, "service", "(II)I"⟩
abbrev cX4_addAgent : ByteArray := prog_6_method_15_code
def yX4_addAgent : MethodName := ⟨RX4, "addAgent", "(IIII)I"⟩
abbrev cX4_leave : ByteArray := prog_6_method_16_code
def yX4_leave : MethodName := ⟨RX4, "leave", "(II)V"⟩
abbrev cX4_setSkills : ByteArray := prog_6_method_17_code
def yX4_setSkills : MethodName := ⟨RX4, "setSkills", "(II)I"⟩
abbrev cX4_isThere : ByteArray := prog_6_method_18_code
def yX4_isThere : MethodName := ⟨RX4, "isThere", "(I)Z"⟩
abbrev cX4_toldAgent : ByteArray := prog_6_method_19_code
def yX4_toldAgent : MethodName := ⟨RX4, "toldAgent", "(II)I"⟩
abbrev cX4_agent : ByteArray := prog_6_method_20_code
def yX4_agent : MethodName := ⟨RX4, "agent", "(II)I"⟩
abbrev cX4_slack : ByteArray := prog_6_method_21_code
def yX4_slack : MethodName := ⟨RX4, "slack", "(I)I"⟩
abbrev cX4_likes : ByteArray := prog_6_method_22_code
def yX4_likes : MethodName := ⟨RX4, "likes", "(III)Z"⟩
abbrev cX4_nextOf : ByteArray := prog_6_method_23_code
def yX4_nextOf : MethodName := ⟨RX4, "nextOf", "(I)I"⟩
abbrev cX4_next : ByteArray := prog_6_method_24_code
def yX4_next : MethodName := ⟨RX4, "next", "(I)I"⟩
abbrev cX4_open : ByteArray := prog_6_method_25_code
def yX4_open : MethodName := ⟨RX4, "open", "(IIII)I"⟩
abbrev cX4_setPriority : ByteArray := prog_6_method_26_code
def yX4_setPriority : MethodName := ⟨RX4, "setPriority", "(II)I"⟩
abbrev cX4_pause : ByteArray := prog_6_method_27_code
def yX4_pause : MethodName := ⟨RX4, "pause", "(I)I"⟩
abbrev cX4_resume : ByteArray := prog_6_method_28_code
def yX4_resume : MethodName := ⟨RX4, "resume", "(I)I"⟩
abbrev cX4_merge : ByteArray := prog_6_method_29_code
def yX4_merge : MethodName := ⟨RX4, "merge", "(II)I"⟩
abbrev cX4_reopen : ByteArray := prog_6_method_30_code
def yX4_reopen : MethodName := ⟨RX4, "reopen", "(II)I"⟩
abbrev cX4_ticketCount : ByteArray := prog_6_method_31_code
def yX4_ticketCount : MethodName := ⟨RX4, "ticketCount", "()I"⟩
abbrev cX4_agentOf : ByteArray := prog_6_method_32_code
def yX4_agentOf : MethodName := ⟨RX4, "agentOf", "(I)I"⟩
abbrev cX4_toldTicket : ByteArray := prog_6_method_33_code
def yX4_toldTicket : MethodName := ⟨RX4, "toldTicket", "(II)I"⟩
abbrev cX4_ticket : ByteArray := prog_6_method_34_code
def yX4_ticket : MethodName := ⟨RX4, "ticket", "(II)I"⟩
abbrev cX4_mainOf : ByteArray := prog_6_method_35_code
def yX4_mainOf : MethodName := ⟨RX4, "mainOf", "(I)I"⟩
abbrev cX4_isWithin : ByteArray := prog_6_method_36_code
def yX4_isWithin : MethodName := ⟨RX4, "isWithin", "(II)Z"⟩
abbrev cX4_customersOf : ByteArray := prog_6_method_37_code
def yX4_customersOf : MethodName := ⟨RX4, "customersOf", "(I)I"⟩
abbrev cX4_main : ByteArray := prog_6_method_38_code
def yX4_main : MethodName := ⟨RX4, "main", "(I)I"⟩
abbrev cX4_customers : ByteArray := prog_6_method_39_code
def yX4_customers : MethodName := ⟨RX4, "customers", "(I)I"⟩
abbrev cX4_due : ByteArray := prog_6_method_40_code
def yX4_due : MethodName := ⟨RX4, "due", "(I)I"⟩
abbrev cX4_passMinute : ByteArray := prog_6_method_41_code
def yX4_passMinute : MethodName := ⟨RX4, "passMinute", "()I"⟩
abbrev cX4_pass : ByteArray := prog_6_method_42_code
def yX4_pass : MethodName := ⟨RX4, "pass", "(I)I"⟩
abbrev cX4_all : ByteArray := prog_6_method_43_code
def yX4_all : MethodName := ⟨RX4, "all", "(I)I"⟩
abbrev cX4_breaks : ByteArray := prog_6_method_44_code
def yX4_breaks : MethodName := ⟨RX4, "breaks", "(IZ)Z"⟩
abbrev cX4_broken : ByteArray := prog_6_method_45_code
def yX4_broken : MethodName := ⟨RX4, "broken", "(Z)I"⟩
abbrev cX4_lacking : ByteArray := prog_6_method_46_code
def yX4_lacking : MethodName := ⟨RX4, "lacking", "()I"⟩
abbrev cX4_success : ByteArray := prog_6_method_47_code
def yX4_success : MethodName := ⟨RX4, "success", "()D"⟩
abbrev cX4_digest : ByteArray := prog_6_method_48_code
def yX4_digest : MethodName := ⟨RX4, "digest", "()J"⟩
def RJx145de : String := "java/io/Serializable"
def TJx145de : u_T := fun k => match k with
  | _ => ("", "", "", false)
def tyJx145de : Nat → FieldType := fun k => match k with
  | _ => .int
abbrev wsJx145de0 : List Cond := u_ws RJx145de TJx145de 0
theorem nmJx145de : ∀ a, a < 0 → ∀ b, b < 0 → a ≠ b → (TJx145de a).2.1 ≠ (TJx145de b).2.1 := by decide +kernel
theorem tyJx145de_ok : ∀ k, k < 0 → parseFieldDescriptor (TJx145de k).2.2.1 = some (tyJx145de k) := by decide +kernel
def RJx8e188 : String := "java/lang/Cloneable"
def TJx8e188 : u_T := fun k => match k with
  | _ => ("", "", "", false)
def tyJx8e188 : Nat → FieldType := fun k => match k with
  | _ => .int
abbrev wsJx8e1880 : List Cond := u_ws RJx8e188 TJx8e188 0
theorem nmJx8e188 : ∀ a, a < 0 → ∀ b, b < 0 → a ≠ b → (TJx8e188 a).2.1 ≠ (TJx8e188 b).2.1 := by decide +kernel
theorem tyJx8e188_ok : ∀ k, k < 0 → parseFieldDescriptor (TJx8e188 k).2.2.1 = some (tyJx8e188 k) := by decide +kernel
def RJxab1ab : String := "java/lang/Iterable"
def TJxab1ab : u_T := fun k => match k with
  | _ => ("", "", "", false)
def tyJxab1ab : Nat → FieldType := fun k => match k with
  | _ => .int
abbrev wsJxab1ab0 : List Cond := u_ws RJxab1ab TJxab1ab 0
theorem nmJxab1ab : ∀ a, a < 0 → ∀ b, b < 0 → a ≠ b → (TJxab1ab a).2.1 ≠ (TJxab1ab b).2.1 := by decide +kernel
theorem tyJxab1ab_ok : ∀ k, k < 0 → parseFieldDescriptor (TJxab1ab k).2.2.1 = some (tyJxab1ab k) := by decide +kernel
def RJ9 : String := "java/lang/Math"
def TJ9 : u_T := fun k => match k with
  | _ => ("", "", "", false)
def tyJ9 : Nat → FieldType := fun k => match k with
  | _ => .int
abbrev wsJ90 : List Cond := u_ws RJ9 TJ9 0
theorem nmJ9 : ∀ a, a < 0 → ∀ b, b < 0 → a ≠ b → (TJ9 a).2.1 ≠ (TJ9 b).2.1 := by decide +kernel
theorem tyJ9_ok : ∀ k, k < 0 → parseFieldDescriptor (TJ9 k).2.2.1 = some (tyJ9 k) := by decide +kernel
abbrev cJ9_max_7cf53 : ByteArray := prog_14_method_65_code
def yJ9_max_7cf53 : MethodName := ⟨RJ9, "max", "(II)I"⟩
abbrev cJ9_min_7cf53 : ByteArray := prog_14_method_69_code
def yJ9_min_7cf53 : MethodName := ⟨RJ9, "min", "(II)I"⟩
def RJ0 : String := "java/lang/String"
def TJ0 : u_T := fun k => match k with
  | _ => ("", "", "", false)
def tyJ0 : Nat → FieldType := fun k => match k with
  | _ => .int
abbrev wsJ00 : List Cond := u_ws RJ0 TJ0 0
theorem nmJ0 : ∀ a, a < 0 → ∀ b, b < 0 → a ≠ b → (TJ0 a).2.1 ≠ (TJ0 b).2.1 := by decide +kernel
theorem tyJ0_ok : ∀ k, k < 0 → parseFieldDescriptor (TJ0 k).2.2.1 = some (tyJ0 k) := by decide +kernel
def RJ10 : String := "java/lang/System"
def TJ10 : u_T := fun k => match k with
  | _ => ("", "", "", false)
def tyJ10 : Nat → FieldType := fun k => match k with
  | _ => .int
abbrev wsJ100 : List Cond := u_ws RJ10 TJ10 0
theorem nmJ10 : ∀ a, a < 0 → ∀ b, b < 0 → a ≠ b → (TJ10 a).2.1 ≠ (TJ10 b).2.1 := by decide +kernel
theorem tyJ10_ok : ∀ k, k < 0 → parseFieldDescriptor (TJ10 k).2.2.1 = some (tyJ10 k) := by decide +kernel
def RJxa1e45 : String := "java/util/AbstractCollection"
def TJxa1e45 : u_T := fun k => match k with
  | _ => ("", "", "", false)
def tyJxa1e45 : Nat → FieldType := fun k => match k with
  | _ => .int
abbrev wsJxa1e450 : List Cond := u_ws RJxa1e45 TJxa1e45 0
theorem nmJxa1e45 : ∀ a, a < 0 → ∀ b, b < 0 → a ≠ b → (TJxa1e45 a).2.1 ≠ (TJxa1e45 b).2.1 := by decide +kernel
theorem tyJxa1e45_ok : ∀ k, k < 0 → parseFieldDescriptor (TJxa1e45 k).2.2.1 = some (tyJxa1e45 k) := by decide +kernel
abbrev cJxa1e45_init_da8c8 : ByteArray := prog_19_method_1_code
def yJxa1e45_init_da8c8 : MethodName := ⟨RJxa1e45, "<init>", "()V"⟩
def RJxc12de : String := "java/util/AbstractList"
def TJxc12de : u_T := fun k => match k with
  | _ => ("", "", "", false)
def tyJxc12de : Nat → FieldType := fun k => match k with
  | _ => .int
abbrev wsJxc12de0 : List Cond := u_ws RJxc12de TJxc12de 0
theorem nmJxc12de : ∀ a, a < 0 → ∀ b, b < 0 → a ≠ b → (TJxc12de a).2.1 ≠ (TJxc12de b).2.1 := by decide +kernel
theorem tyJxc12de_ok : ∀ k, k < 0 → parseFieldDescriptor (TJxc12de k).2.2.1 = some (tyJxc12de k) := by decide +kernel
abbrev cJxc12de_init_da8c8 : ByteArray := prog_20_method_1_code
def yJxc12de_init_da8c8 : MethodName := ⟨RJxc12de, "<init>", "()V"⟩
def RJx4a65c : String := "java/util/ArrayList"
def TJx4a65c : u_T := fun k => match k with
  | 0 => ("java/util/AbstractList", "modCount", "I", false)
  | 1 => ("java/util/ArrayList", "elementData", "[Ljava/lang/Object;", false)
  | _ => ("java/util/ArrayList", "size", "I", false)
def tyJx4a65c : Nat → FieldType := fun k => match k with
  | 0 => .int
  | 1 => .array (.object "java/lang/Object")
  | _ => .int
abbrev wsJx4a65c0 : List Cond := u_ws RJx4a65c TJx4a65c 3
theorem nmJx4a65c : ∀ a, a < 3 → ∀ b, b < 3 → a ≠ b → (TJx4a65c a).2.1 ≠ (TJx4a65c b).2.1 := by decide +kernel
theorem tyJx4a65c_ok : ∀ k, k < 3 → parseFieldDescriptor (TJx4a65c k).2.2.1 = some (tyJx4a65c k) := by decide +kernel
abbrev cJx4a65c_init_da8c8 : ByteArray := prog_21_method_2_code
def yJx4a65c_init_da8c8 : MethodName := ⟨RJx4a65c, "<init>", "()V"⟩
abbrev cJx4a65c_grow_92f84 : ByteArray := prog_21_method_6_code
def yJx4a65c_grow_92f84 : MethodName := ⟨RJx4a65c, "grow", "(I)[Ljava/lang/Object;"⟩
abbrev cJx4a65c_grow_d5877 : ByteArray := prog_21_method_7_code
def yJx4a65c_grow_d5877 : MethodName := ⟨RJx4a65c, "grow", "()[Ljava/lang/Object;"⟩
abbrev cJx4a65c_size_8abf5 : ByteArray := prog_21_method_8_code
def yJx4a65c_size_8abf5 : MethodName := ⟨RJx4a65c, "size", "()I"⟩
abbrev cJx4a65c_elementData_915e3 : ByteArray := prog_21_method_18_code
def yJx4a65c_elementData_915e3 : MethodName := ⟨RJx4a65c, "elementData", "(I)Ljava/lang/Object;"⟩
abbrev cJx4a65c_get_915e3 : ByteArray := prog_21_method_20_code
def yJx4a65c_get_915e3 : MethodName := ⟨RJx4a65c, "get", "(I)Ljava/lang/Object;"⟩
abbrev cJx4a65c_add_72be8 : ByteArray := prog_21_method_24_code
def yJx4a65c_add_72be8 : MethodName := ⟨RJx4a65c, "add", "(Ljava/lang/Object;[Ljava/lang/Object;I)V"⟩
abbrev cJx4a65c_add_9ea2d : ByteArray := prog_21_method_25_code
def yJx4a65c_add_9ea2d : MethodName := ⟨RJx4a65c, "add", "(Ljava/lang/Object;)Z"⟩
def RJ7 : String := "java/util/Arrays"
def TJ7 : u_T := fun k => match k with
  | _ => ("", "", "", false)
def tyJ7 : Nat → FieldType := fun k => match k with
  | _ => .int
abbrev wsJ70 : List Cond := u_ws RJ7 TJ7 0
theorem nmJ7 : ∀ a, a < 0 → ∀ b, b < 0 → a ≠ b → (TJ7 a).2.1 ≠ (TJ7 b).2.1 := by decide +kernel
theorem tyJ7_ok : ∀ k, k < 0 → parseFieldDescriptor (TJ7 k).2.2.1 = some (tyJ7 k) := by decide +kernel
abbrev cJ7_copyOf_1904c : ByteArray := prog_22_method_119_code
def yJ7_copyOf_1904c : MethodName := ⟨RJ7, "copyOf", "([Ljava/lang/Object;I)[Ljava/lang/Object;"⟩
abbrev cJ7_copyOf_6403c : ByteArray := prog_22_method_120_code
def yJ7_copyOf_6403c : MethodName := ⟨RJ7, "copyOf", "([Ljava/lang/Object;ILjava/lang/Class;)[Ljava/lang/Object;"⟩
def RJx5ef63 : String := "java/util/Collection"
def TJx5ef63 : u_T := fun k => match k with
  | _ => ("", "", "", false)
def tyJx5ef63 : Nat → FieldType := fun k => match k with
  | _ => .int
abbrev wsJx5ef630 : List Cond := u_ws RJx5ef63 TJx5ef63 0
theorem nmJx5ef63 : ∀ a, a < 0 → ∀ b, b < 0 → a ≠ b → (TJx5ef63 a).2.1 ≠ (TJx5ef63 b).2.1 := by decide +kernel
theorem tyJx5ef63_ok : ∀ k, k < 0 → parseFieldDescriptor (TJx5ef63 k).2.2.1 = some (tyJx5ef63 k) := by decide +kernel
def RJxbd725 : String := "java/util/List"
def TJxbd725 : u_T := fun k => match k with
  | _ => ("", "", "", false)
def tyJxbd725 : Nat → FieldType := fun k => match k with
  | _ => .int
abbrev wsJxbd7250 : List Cond := u_ws RJxbd725 TJxbd725 0
theorem nmJxbd725 : ∀ a, a < 0 → ∀ b, b < 0 → a ≠ b → (TJxbd725 a).2.1 ≠ (TJxbd725 b).2.1 := by decide +kernel
theorem tyJxbd725_ok : ∀ k, k < 0 → parseFieldDescriptor (TJxbd725 k).2.2.1 = some (tyJxbd725 k) := by decide +kernel
def RJ15 : String := "java/util/Objects"
def TJ15 : u_T := fun k => match k with
  | _ => ("", "", "", false)
def tyJ15 : Nat → FieldType := fun k => match k with
  | _ => .int
abbrev wsJ150 : List Cond := u_ws RJ15 TJ15 0
theorem nmJ15 : ∀ a, a < 0 → ∀ b, b < 0 → a ≠ b → (TJ15 a).2.1 ≠ (TJ15 b).2.1 := by decide +kernel
theorem tyJ15_ok : ∀ k, k < 0 → parseFieldDescriptor (TJ15 k).2.2.1 = some (tyJ15 k) := by decide +kernel
abbrev cJ15_checkIndex_7cf53 : ByteArray := prog_25_method_17_code
def yJ15_checkIndex_7cf53 : MethodName := ⟨RJ15, "checkIndex", "(II)I"⟩
def RJxf0a74 : String := "java/util/RandomAccess"
def TJxf0a74 : u_T := fun k => match k with
  | _ => ("", "", "", false)
def tyJxf0a74 : Nat → FieldType := fun k => match k with
  | _ => .int
abbrev wsJxf0a740 : List Cond := u_ws RJxf0a74 TJxf0a74 0
theorem nmJxf0a74 : ∀ a, a < 0 → ∀ b, b < 0 → a ≠ b → (TJxf0a74 a).2.1 ≠ (TJxf0a74 b).2.1 := by decide +kernel
theorem tyJxf0a74_ok : ∀ k, k < 0 → parseFieldDescriptor (TJxf0a74 k).2.2.1 = some (tyJxf0a74 k) := by decide +kernel
def RJxa66e6 : String := "java/util/SequencedCollection"
def TJxa66e6 : u_T := fun k => match k with
  | _ => ("", "", "", false)
def tyJxa66e6 : Nat → FieldType := fun k => match k with
  | _ => .int
abbrev wsJxa66e60 : List Cond := u_ws RJxa66e6 TJxa66e6 0
theorem nmJxa66e6 : ∀ a, a < 0 → ∀ b, b < 0 → a ≠ b → (TJxa66e6 a).2.1 ≠ (TJxa66e6 b).2.1 := by decide +kernel
theorem tyJxa66e6_ok : ∀ k, k < 0 → parseFieldDescriptor (TJxa66e6 k).2.2.1 = some (tyJxa66e6 k) := by decide +kernel
def RJ8 : String := "jdk/internal/util/ArraysSupport"
def TJ8 : u_T := fun k => match k with
  | _ => ("", "", "", false)
def tyJ8 : Nat → FieldType := fun k => match k with
  | _ => .int
abbrev wsJ80 : List Cond := u_ws RJ8 TJ8 0
theorem nmJ8 : ∀ a, a < 0 → ∀ b, b < 0 → a ≠ b → (TJ8 a).2.1 ≠ (TJ8 b).2.1 := by decide +kernel
theorem tyJ8_ok : ∀ k, k < 0 → parseFieldDescriptor (TJ8 k).2.2.1 = some (tyJ8 k) := by decide +kernel
abbrev cJ8_newLength_cabcc : ByteArray := prog_28_method_27_code
def yJ8_newLength_cabcc : MethodName := ⟨RJ8, "newLength", "(III)I"⟩
abbrev cJ8_hugeLength_7cf53 : ByteArray := prog_28_method_28_code
def yJ8_hugeLength_7cf53 : MethodName := ⟨RJ8, "hugeLength", "(II)I"⟩
def RJ3 : String := "jdk/internal/util/Preconditions"
def TJ3 : u_T := fun k => match k with
  | _ => ("", "", "", false)
def tyJ3 : Nat → FieldType := fun k => match k with
  | _ => .int
abbrev wsJ30 : List Cond := u_ws RJ3 TJ3 0
theorem nmJ3 : ∀ a, a < 0 → ∀ b, b < 0 → a ≠ b → (TJ3 a).2.1 ≠ (TJ3 b).2.1 := by decide +kernel
theorem tyJ3_ok : ∀ k, k < 0 → parseFieldDescriptor (TJ3 k).2.2.1 = some (tyJ3 k) := by decide +kernel
abbrev cJ3_checkIndex_8e157 : ByteArray := prog_29_method_11_code
def yJ3_checkIndex_8e157 : MethodName := ⟨RJ3, "checkIndex", "(IILjava/util/function/BiFunction;)I"⟩
def RL : String := "HelpDeskLaw"
abbrev cL_setHours : ByteArray := method_3_code
def yL_setHours : MethodName := ⟨RL, "setHours", "(LHelpDesk;II[J)I"⟩
abbrev cL_setTargets : ByteArray := method_4_code
def yL_setTargets : MethodName := ⟨RL, "setTargets", "(LHelpDesk;III[J)I"⟩
abbrev cL_service : ByteArray := method_5_code
def yL_service : MethodName := ⟨RL, "service", "(LHelpDesk;II[J)I"⟩
abbrev cL_addAgent : ByteArray := method_6_code
def yL_addAgent : MethodName := ⟨RL, "addAgent", "(LHelpDesk;IIII[J)I"⟩
abbrev cL_setSkills : ByteArray := method_7_code
def yL_setSkills : MethodName := ⟨RL, "setSkills", "(LHelpDesk;II[J)I"⟩
abbrev cL_agent : ByteArray := method_8_code
def yL_agent : MethodName := ⟨RL, "agent", "(LHelpDesk;II[J)I"⟩
abbrev cL_next : ByteArray := method_9_code
def yL_next : MethodName := ⟨RL, "next", "(LHelpDesk;I[J)I"⟩
abbrev cL_open : ByteArray := method_10_code
def yL_open : MethodName := ⟨RL, "open", "(LHelpDesk;IIII[J)I"⟩
abbrev cL_setPriority : ByteArray := method_11_code
def yL_setPriority : MethodName := ⟨RL, "setPriority", "(LHelpDesk;II[J)I"⟩
abbrev cL_pause : ByteArray := method_12_code
def yL_pause : MethodName := ⟨RL, "pause", "(LHelpDesk;I[J)I"⟩
abbrev cL_resume : ByteArray := method_13_code
def yL_resume : MethodName := ⟨RL, "resume", "(LHelpDesk;I[J)I"⟩
abbrev cL_merge : ByteArray := method_14_code
def yL_merge : MethodName := ⟨RL, "merge", "(LHelpDesk;II[J)I"⟩
abbrev cL_reopen : ByteArray := method_15_code
def yL_reopen : MethodName := ⟨RL, "reopen", "(LHelpDesk;II[J)I"⟩
abbrev cL_ticket : ByteArray := method_16_code
def yL_ticket : MethodName := ⟨RL, "ticket", "(LHelpDesk;II[J)I"⟩
abbrev cL_main : ByteArray := method_17_code
def yL_main : MethodName := ⟨RL, "main", "(LHelpDesk;I[J)I"⟩
abbrev cL_customers : ByteArray := method_18_code
def yL_customers : MethodName := ⟨RL, "customers", "(LHelpDesk;I[J)I"⟩
abbrev cL_due : ByteArray := method_19_code
def yL_due : MethodName := ⟨RL, "due", "(LHelpDesk;I[J)I"⟩
abbrev cL_pass : ByteArray := method_20_code
def yL_pass : MethodName := ⟨RL, "pass", "(LHelpDesk;I[J)I"⟩
abbrev cL_all : ByteArray := method_21_code
def yL_all : MethodName := ⟨RL, "all", "(LHelpDesk;I[J)I"⟩
abbrev cL_law : ByteArray := code
def yL_law : MethodName := ⟨RL, "law", "([I)Z"⟩
abbrev vwCl : List vw_C := [(RJx4a65c, TJx4a65c, 3), (RX0, TX0, 8), (RX1, TX1, 2), (RX2, TX2, 15), (RX3, TX3, 6), (RX4, TX4, 26)]
end
section
theorem dX0_init_0 : decode cX0_init 0 = .ok (.aload_n 0, 1) := by decide +kernel
theorem dX0_init_1 : decode cX0_init 1 = .ok (.invokespecial 3, 3) := by decide +kernel
theorem dX0_init_4 : decode cX0_init 4 = .ok (.aload_n 0, 1) := by decide +kernel
theorem dX0_init_5 : decode cX0_init 5 = .ok (.iload_n 1, 1) := by decide +kernel
theorem dX0_init_6 : decode cX0_init 6 = .ok (.putfield 9, 3) := by decide +kernel
theorem dX0_init_9 : decode cX0_init 9 = .ok (.aload_n 0, 1) := by decide +kernel
theorem dX0_init_10 : decode cX0_init 10 = .ok (.iload_n 2, 1) := by decide +kernel
theorem dX0_init_11 : decode cX0_init 11 = .ok (.putfield 15, 3) := by decide +kernel
theorem dX0_init_14 : decode cX0_init 14 = .ok (.aload_n 0, 1) := by decide +kernel
theorem dX0_init_15 : decode cX0_init 15 = .ok (.iload_n 3, 1) := by decide +kernel
theorem dX0_init_16 : decode cX0_init 16 = .ok (.putfield 18, 3) := by decide +kernel
theorem dX0_init_19 : decode cX0_init 19 = .ok (.aload_n 0, 1) := by decide +kernel
theorem dX0_init_20 : decode cX0_init 20 = .ok (.iload 4, 2) := by decide +kernel
theorem dX0_init_22 : decode cX0_init 22 = .ok (.putfield 21, 3) := by decide +kernel
theorem dX0_init_25 : decode cX0_init 25 = .ok (.aload_n 0, 1) := by decide +kernel
theorem dX0_init_26 : decode cX0_init 26 = .ok (.iload 5, 2) := by decide +kernel
theorem dX0_init_28 : decode cX0_init 28 = .ok (.putfield 24, 3) := by decide +kernel
theorem dX0_init_31 : decode cX0_init 31 = .ok (.return_, 1) := by decide +kernel
theorem dX0_hasSkill_0 : decode cX0_hasSkill 0 = .ok (.aload_n 0, 1) := by decide +kernel
theorem dX0_hasSkill_1 : decode cX0_hasSkill 1 = .ok (.getfield 15, 3) := by decide +kernel
theorem dX0_hasSkill_4 : decode cX0_hasSkill 4 = .ok (.iconst 1, 1) := by decide +kernel
theorem dX0_hasSkill_5 : decode cX0_hasSkill 5 = .ok (.iload_n 1, 1) := by decide +kernel
theorem dX0_hasSkill_6 : decode cX0_hasSkill 6 = .ok (.ishl, 1) := by decide +kernel
theorem dX0_hasSkill_7 : decode cX0_hasSkill 7 = .ok (.iand, 1) := by decide +kernel
theorem dX0_hasSkill_8 : decode cX0_hasSkill 8 = .ok (.ifCond .eq 7, 3) := by decide +kernel
theorem dX0_hasSkill_11 : decode cX0_hasSkill 11 = .ok (.iconst 1, 1) := by decide +kernel
theorem dX0_hasSkill_12 : decode cX0_hasSkill 12 = .ok (.goto 4, 3) := by decide +kernel
theorem dX0_hasSkill_15 : decode cX0_hasSkill 15 = .ok (.iconst 0, 1) := by decide +kernel
theorem dX0_hasSkill_16 : decode cX0_hasSkill 16 = .ok (.ireturn, 1) := by decide +kernel
theorem dX0_isThere_0 : decode cX0_isThere 0 = .ok (.iload_n 1, 1) := by decide +kernel
theorem dX0_isThere_1 : decode cX0_isThere 1 = .ok (.sipush 1440, 3) := by decide +kernel
theorem dX0_isThere_4 : decode cX0_isThere 4 = .ok (.irem, 1) := by decide +kernel
theorem dX0_isThere_5 : decode cX0_isThere 5 = .ok (.istore_n 2, 1) := by decide +kernel
theorem dX0_isThere_6 : decode cX0_isThere 6 = .ok (.aload_n 0, 1) := by decide +kernel
theorem dX0_isThere_7 : decode cX0_isThere 7 = .ok (.getfield 18, 3) := by decide +kernel
theorem dX0_isThere_10 : decode cX0_isThere 10 = .ok (.iconst 1, 1) := by decide +kernel
theorem dX0_isThere_11 : decode cX0_isThere 11 = .ok (.iload_n 1, 1) := by decide +kernel
theorem dX0_isThere_12 : decode cX0_isThere 12 = .ok (.invokestatic 27, 3) := by decide +kernel
theorem dX0_isThere_15 : decode cX0_isThere 15 = .ok (.ishl, 1) := by decide +kernel
theorem dX0_isThere_16 : decode cX0_isThere 16 = .ok (.iand, 1) := by decide +kernel
theorem dX0_isThere_17 : decode cX0_isThere 17 = .ok (.ifCond .eq 23, 3) := by decide +kernel
theorem dX0_isThere_20 : decode cX0_isThere 20 = .ok (.iload_n 2, 1) := by decide +kernel
theorem dX0_isThere_21 : decode cX0_isThere 21 = .ok (.aload_n 0, 1) := by decide +kernel
theorem dX0_isThere_22 : decode cX0_isThere 22 = .ok (.getfield 21, 3) := by decide +kernel
theorem dX0_isThere_25 : decode cX0_isThere 25 = .ok (.if_icmp .lt 15, 3) := by decide +kernel
theorem dX0_isThere_28 : decode cX0_isThere 28 = .ok (.iload_n 2, 1) := by decide +kernel
theorem dX0_isThere_29 : decode cX0_isThere 29 = .ok (.aload_n 0, 1) := by decide +kernel
theorem dX0_isThere_30 : decode cX0_isThere 30 = .ok (.getfield 24, 3) := by decide +kernel
theorem dX0_isThere_33 : decode cX0_isThere 33 = .ok (.if_icmp .ge 7, 3) := by decide +kernel
theorem dX0_isThere_36 : decode cX0_isThere 36 = .ok (.iconst 1, 1) := by decide +kernel
theorem dX0_isThere_37 : decode cX0_isThere 37 = .ok (.goto 4, 3) := by decide +kernel
theorem dX0_isThere_40 : decode cX0_isThere 40 = .ok (.iconst 0, 1) := by decide +kernel
theorem dX0_isThere_41 : decode cX0_isThere 41 = .ok (.ireturn, 1) := by decide +kernel
theorem dX1_init_0 : decode cX1_init 0 = .ok (.aload_n 0, 1) := by decide +kernel
theorem dX1_init_1 : decode cX1_init 1 = .ok (.invokespecial 3, 3) := by decide +kernel
theorem dX1_init_4 : decode cX1_init 4 = .ok (.aload_n 0, 1) := by decide +kernel
theorem dX1_init_5 : decode cX1_init 5 = .ok (.sipush 540, 3) := by decide +kernel
theorem dX1_init_8 : decode cX1_init 8 = .ok (.putfield 9, 3) := by decide +kernel
theorem dX1_init_11 : decode cX1_init 11 = .ok (.aload_n 0, 1) := by decide +kernel
theorem dX1_init_12 : decode cX1_init 12 = .ok (.sipush 1020, 3) := by decide +kernel
theorem dX1_init_15 : decode cX1_init 15 = .ok (.putfield 15, 3) := by decide +kernel
theorem dX1_init_18 : decode cX1_init 18 = .ok (.return_, 1) := by decide +kernel
theorem dX1_isService_0 : decode cX1_isService 0 = .ok (.iload_n 1, 1) := by decide +kernel
theorem dX1_isService_1 : decode cX1_isService 1 = .ok (.sipush 1440, 3) := by decide +kernel
theorem dX1_isService_4 : decode cX1_isService 4 = .ok (.irem, 1) := by decide +kernel
theorem dX1_isService_5 : decode cX1_isService 5 = .ok (.istore_n 2, 1) := by decide +kernel
theorem dX1_isService_6 : decode cX1_isService 6 = .ok (.iload_n 1, 1) := by decide +kernel
theorem dX1_isService_7 : decode cX1_isService 7 = .ok (.invokestatic 18, 3) := by decide +kernel
theorem dX1_isService_10 : decode cX1_isService 10 = .ok (.iconst 5, 1) := by decide +kernel
theorem dX1_isService_11 : decode cX1_isService 11 = .ok (.if_icmp .ge 23, 3) := by decide +kernel
theorem dX1_isService_14 : decode cX1_isService 14 = .ok (.iload_n 2, 1) := by decide +kernel
theorem dX1_isService_15 : decode cX1_isService 15 = .ok (.aload_n 0, 1) := by decide +kernel
theorem dX1_isService_16 : decode cX1_isService 16 = .ok (.getfield 9, 3) := by decide +kernel
theorem dX1_isService_19 : decode cX1_isService 19 = .ok (.if_icmp .lt 15, 3) := by decide +kernel
theorem dX1_isService_22 : decode cX1_isService 22 = .ok (.iload_n 2, 1) := by decide +kernel
theorem dX1_isService_23 : decode cX1_isService 23 = .ok (.aload_n 0, 1) := by decide +kernel
theorem dX1_isService_24 : decode cX1_isService 24 = .ok (.getfield 15, 3) := by decide +kernel
theorem dX1_isService_27 : decode cX1_isService 27 = .ok (.if_icmp .ge 7, 3) := by decide +kernel
theorem dX1_isService_30 : decode cX1_isService 30 = .ok (.iconst 1, 1) := by decide +kernel
theorem dX1_isService_31 : decode cX1_isService 31 = .ok (.goto 4, 3) := by decide +kernel
theorem dX1_isService_34 : decode cX1_isService 34 = .ok (.iconst 0, 1) := by decide +kernel
theorem dX1_isService_35 : decode cX1_isService 35 = .ok (.ireturn, 1) := by decide +kernel
theorem dX1_minutesBetween_0 : decode cX1_minutesBetween 0 = .ok (.iconst 0, 1) := by decide +kernel
theorem dX1_minutesBetween_1 : decode cX1_minutesBetween 1 = .ok (.istore_n 3, 1) := by decide +kernel
theorem dX1_minutesBetween_2 : decode cX1_minutesBetween 2 = .ok (.iload_n 1, 1) := by decide +kernel
theorem dX1_minutesBetween_3 : decode cX1_minutesBetween 3 = .ok (.iload_n 1, 1) := by decide +kernel
theorem dX1_minutesBetween_4 : decode cX1_minutesBetween 4 = .ok (.sipush 1440, 3) := by decide +kernel
theorem dX1_minutesBetween_7 : decode cX1_minutesBetween 7 = .ok (.irem, 1) := by decide +kernel
theorem dX1_minutesBetween_8 : decode cX1_minutesBetween 8 = .ok (.isub, 1) := by decide +kernel
theorem dX1_minutesBetween_9 : decode cX1_minutesBetween 9 = .ok (.istore 4, 2) := by decide +kernel
theorem dX1_minutesBetween_11 : decode cX1_minutesBetween 11 = .ok (.iload 4, 2) := by decide +kernel
theorem dX1_minutesBetween_13 : decode cX1_minutesBetween 13 = .ok (.iload_n 2, 1) := by decide +kernel
theorem dX1_minutesBetween_14 : decode cX1_minutesBetween 14 = .ok (.if_icmp .ge 23, 3) := by decide +kernel
theorem dX1_minutesBetween_17 : decode cX1_minutesBetween 17 = .ok (.iload_n 3, 1) := by decide +kernel
theorem dX1_minutesBetween_18 : decode cX1_minutesBetween 18 = .ok (.aload_n 0, 1) := by decide +kernel
theorem dX1_minutesBetween_19 : decode cX1_minutesBetween 19 = .ok (.iload 4, 2) := by decide +kernel
theorem dX1_minutesBetween_21 : decode cX1_minutesBetween 21 = .ok (.iload_n 1, 1) := by decide +kernel
theorem dX1_minutesBetween_22 : decode cX1_minutesBetween 22 = .ok (.iload_n 2, 1) := by decide +kernel
theorem dX1_minutesBetween_23 : decode cX1_minutesBetween 23 = .ok (.invokevirtual 22, 3) := by decide +kernel
theorem dX1_minutesBetween_26 : decode cX1_minutesBetween 26 = .ok (.iadd, 1) := by decide +kernel
theorem dX1_minutesBetween_27 : decode cX1_minutesBetween 27 = .ok (.istore_n 3, 1) := by decide +kernel
theorem dX1_minutesBetween_28 : decode cX1_minutesBetween 28 = .ok (.iinc 4 1440, 6) := by decide +kernel
theorem dX1_minutesBetween_34 : decode cX1_minutesBetween 34 = .ok (.goto (-23), 3) := by decide +kernel
theorem dX1_minutesBetween_37 : decode cX1_minutesBetween 37 = .ok (.iload_n 3, 1) := by decide +kernel
theorem dX1_minutesBetween_38 : decode cX1_minutesBetween 38 = .ok (.ireturn, 1) := by decide +kernel
theorem dX1_minuteOfService_0 : decode cX1_minuteOfService 0 = .ok (.iload_n 2, 1) := by decide +kernel
theorem dX1_minuteOfService_1 : decode cX1_minuteOfService 1 = .ok (.istore_n 3, 1) := by decide +kernel
theorem dX1_minuteOfService_2 : decode cX1_minuteOfService 2 = .ok (.iload_n 1, 1) := by decide +kernel
theorem dX1_minuteOfService_3 : decode cX1_minuteOfService 3 = .ok (.iload_n 1, 1) := by decide +kernel
theorem dX1_minuteOfService_4 : decode cX1_minuteOfService 4 = .ok (.sipush 1440, 3) := by decide +kernel
theorem dX1_minuteOfService_7 : decode cX1_minuteOfService 7 = .ok (.irem, 1) := by decide +kernel
theorem dX1_minuteOfService_8 : decode cX1_minuteOfService 8 = .ok (.isub, 1) := by decide +kernel
theorem dX1_minuteOfService_9 : decode cX1_minuteOfService 9 = .ok (.istore 4, 2) := by decide +kernel
theorem dX1_minuteOfService_11 : decode cX1_minuteOfService 11 = .ok (.iload 4, 2) := by decide +kernel
theorem dX1_minuteOfService_13 : decode cX1_minuteOfService 13 = .ok (.ldc 26, 2) := by decide +kernel
theorem dX1_minuteOfService_15 : decode cX1_minuteOfService 15 = .ok (.if_icmp .gt 50, 3) := by decide +kernel
theorem dX1_minuteOfService_18 : decode cX1_minuteOfService 18 = .ok (.aload_n 0, 1) := by decide +kernel
theorem dX1_minuteOfService_19 : decode cX1_minuteOfService 19 = .ok (.iload 4, 2) := by decide +kernel
theorem dX1_minuteOfService_21 : decode cX1_minuteOfService 21 = .ok (.iload_n 1, 1) := by decide +kernel
theorem dX1_minuteOfService_22 : decode cX1_minuteOfService 22 = .ok (.ldc 27, 2) := by decide +kernel
theorem dX1_minuteOfService_24 : decode cX1_minuteOfService 24 = .ok (.invokevirtual 22, 3) := by decide +kernel
theorem dX1_minuteOfService_27 : decode cX1_minuteOfService 27 = .ok (.istore 5, 2) := by decide +kernel
theorem dX1_minuteOfService_29 : decode cX1_minuteOfService 29 = .ok (.iload 5, 2) := by decide +kernel
theorem dX1_minuteOfService_31 : decode cX1_minuteOfService 31 = .ok (.iload_n 3, 1) := by decide +kernel
theorem dX1_minuteOfService_32 : decode cX1_minuteOfService 32 = .ok (.if_icmp .lt 19, 3) := by decide +kernel
theorem dX1_minuteOfService_35 : decode cX1_minuteOfService 35 = .ok (.iload_n 1, 1) := by decide +kernel
theorem dX1_minuteOfService_36 : decode cX1_minuteOfService 36 = .ok (.iload 4, 2) := by decide +kernel
theorem dX1_minuteOfService_38 : decode cX1_minuteOfService 38 = .ok (.aload_n 0, 1) := by decide +kernel
theorem dX1_minuteOfService_39 : decode cX1_minuteOfService 39 = .ok (.getfield 9, 3) := by decide +kernel
theorem dX1_minuteOfService_42 : decode cX1_minuteOfService 42 = .ok (.iadd, 1) := by decide +kernel
theorem dX1_minuteOfService_43 : decode cX1_minuteOfService 43 = .ok (.invokestatic 28, 3) := by decide +kernel
theorem dX1_minuteOfService_46 : decode cX1_minuteOfService 46 = .ok (.iload_n 3, 1) := by decide +kernel
theorem dX1_minuteOfService_47 : decode cX1_minuteOfService 47 = .ok (.iadd, 1) := by decide +kernel
theorem dX1_minuteOfService_48 : decode cX1_minuteOfService 48 = .ok (.iconst 1, 1) := by decide +kernel
theorem dX1_minuteOfService_49 : decode cX1_minuteOfService 49 = .ok (.isub, 1) := by decide +kernel
theorem dX1_minuteOfService_50 : decode cX1_minuteOfService 50 = .ok (.ireturn, 1) := by decide +kernel
theorem dX1_minuteOfService_51 : decode cX1_minuteOfService 51 = .ok (.iload_n 3, 1) := by decide +kernel
theorem dX1_minuteOfService_52 : decode cX1_minuteOfService 52 = .ok (.iload 5, 2) := by decide +kernel
theorem dX1_minuteOfService_54 : decode cX1_minuteOfService 54 = .ok (.isub, 1) := by decide +kernel
theorem dX1_minuteOfService_55 : decode cX1_minuteOfService 55 = .ok (.istore_n 3, 1) := by decide +kernel
theorem dX1_minuteOfService_56 : decode cX1_minuteOfService 56 = .ok (.iinc 4 1440, 6) := by decide +kernel
theorem dX1_minuteOfService_62 : decode cX1_minuteOfService 62 = .ok (.goto (-51), 3) := by decide +kernel
theorem dX1_minuteOfService_65 : decode cX1_minuteOfService 65 = .ok (.iconst (-1), 1) := by decide +kernel
theorem dX1_minuteOfService_66 : decode cX1_minuteOfService 66 = .ok (.ireturn, 1) := by decide +kernel
theorem dX1_minutesOfDay_0 : decode cX1_minutesOfDay 0 = .ok (.iload_n 1, 1) := by decide +kernel
theorem dX1_minutesOfDay_1 : decode cX1_minutesOfDay 1 = .ok (.invokestatic 18, 3) := by decide +kernel
theorem dX1_minutesOfDay_4 : decode cX1_minutesOfDay 4 = .ok (.iconst 5, 1) := by decide +kernel
theorem dX1_minutesOfDay_5 : decode cX1_minutesOfDay 5 = .ok (.if_icmp .lt 5, 3) := by decide +kernel
theorem dX1_minutesOfDay_8 : decode cX1_minutesOfDay 8 = .ok (.iconst 0, 1) := by decide +kernel
theorem dX1_minutesOfDay_9 : decode cX1_minutesOfDay 9 = .ok (.ireturn, 1) := by decide +kernel
theorem dX1_minutesOfDay_10 : decode cX1_minutesOfDay 10 = .ok (.iload_n 2, 1) := by decide +kernel
theorem dX1_minutesOfDay_11 : decode cX1_minutesOfDay 11 = .ok (.iload_n 1, 1) := by decide +kernel
theorem dX1_minutesOfDay_12 : decode cX1_minutesOfDay 12 = .ok (.aload_n 0, 1) := by decide +kernel
theorem dX1_minutesOfDay_13 : decode cX1_minutesOfDay 13 = .ok (.getfield 9, 3) := by decide +kernel
theorem dX1_minutesOfDay_16 : decode cX1_minutesOfDay 16 = .ok (.iadd, 1) := by decide +kernel
theorem dX1_minutesOfDay_17 : decode cX1_minutesOfDay 17 = .ok (.invokestatic 28, 3) := by decide +kernel
theorem dX1_minutesOfDay_20 : decode cX1_minutesOfDay 20 = .ok (.istore 4, 2) := by decide +kernel
theorem dX1_minutesOfDay_22 : decode cX1_minutesOfDay 22 = .ok (.iload_n 3, 1) := by decide +kernel
theorem dX1_minutesOfDay_23 : decode cX1_minutesOfDay 23 = .ok (.iload_n 1, 1) := by decide +kernel
theorem dX1_minutesOfDay_24 : decode cX1_minutesOfDay 24 = .ok (.aload_n 0, 1) := by decide +kernel
theorem dX1_minutesOfDay_25 : decode cX1_minutesOfDay 25 = .ok (.getfield 15, 3) := by decide +kernel
theorem dX1_minutesOfDay_28 : decode cX1_minutesOfDay 28 = .ok (.iadd, 1) := by decide +kernel
theorem dX1_minutesOfDay_29 : decode cX1_minutesOfDay 29 = .ok (.invokestatic 34, 3) := by decide +kernel
theorem dX1_minutesOfDay_32 : decode cX1_minutesOfDay 32 = .ok (.istore 5, 2) := by decide +kernel
theorem dX1_minutesOfDay_34 : decode cX1_minutesOfDay 34 = .ok (.iconst 0, 1) := by decide +kernel
theorem dX1_minutesOfDay_35 : decode cX1_minutesOfDay 35 = .ok (.iload 5, 2) := by decide +kernel
theorem dX1_minutesOfDay_37 : decode cX1_minutesOfDay 37 = .ok (.iload 4, 2) := by decide +kernel
theorem dX1_minutesOfDay_39 : decode cX1_minutesOfDay 39 = .ok (.isub, 1) := by decide +kernel
theorem dX1_minutesOfDay_40 : decode cX1_minutesOfDay 40 = .ok (.invokestatic 28, 3) := by decide +kernel
theorem dX1_minutesOfDay_43 : decode cX1_minutesOfDay 43 = .ok (.ireturn, 1) := by decide +kernel
theorem dX2_init_0 : decode cX2_init 0 = .ok (.aload_n 0, 1) := by decide +kernel
theorem dX2_init_1 : decode cX2_init 1 = .ok (.invokespecial 3, 3) := by decide +kernel
theorem dX2_init_4 : decode cX2_init 4 = .ok (.aload_n 0, 1) := by decide +kernel
theorem dX2_init_5 : decode cX2_init 5 = .ok (.iload_n 1, 1) := by decide +kernel
theorem dX2_init_6 : decode cX2_init 6 = .ok (.putfield 9, 3) := by decide +kernel
theorem dX2_init_9 : decode cX2_init 9 = .ok (.aload_n 0, 1) := by decide +kernel
theorem dX2_init_10 : decode cX2_init 10 = .ok (.iload_n 2, 1) := by decide +kernel
theorem dX2_init_11 : decode cX2_init 11 = .ok (.putfield 15, 3) := by decide +kernel
theorem dX2_init_14 : decode cX2_init 14 = .ok (.aload_n 0, 1) := by decide +kernel
theorem dX2_init_15 : decode cX2_init 15 = .ok (.iload_n 3, 1) := by decide +kernel
theorem dX2_init_16 : decode cX2_init 16 = .ok (.putfield 18, 3) := by decide +kernel
theorem dX2_init_19 : decode cX2_init 19 = .ok (.aload_n 0, 1) := by decide +kernel
theorem dX2_init_20 : decode cX2_init 20 = .ok (.iload 4, 2) := by decide +kernel
theorem dX2_init_22 : decode cX2_init 22 = .ok (.putfield 21, 3) := by decide +kernel
theorem dX2_init_25 : decode cX2_init 25 = .ok (.aload_n 0, 1) := by decide +kernel
theorem dX2_init_26 : decode cX2_init 26 = .ok (.iconst 0, 1) := by decide +kernel
theorem dX2_init_27 : decode cX2_init 27 = .ok (.putfield 24, 3) := by decide +kernel
theorem dX2_init_30 : decode cX2_init 30 = .ok (.aload_n 0, 1) := by decide +kernel
theorem dX2_init_31 : decode cX2_init 31 = .ok (.iconst (-1), 1) := by decide +kernel
theorem dX2_init_32 : decode cX2_init 32 = .ok (.putfield 27, 3) := by decide +kernel
theorem dX2_init_35 : decode cX2_init 35 = .ok (.aload_n 0, 1) := by decide +kernel
theorem dX2_init_36 : decode cX2_init 36 = .ok (.iconst 1, 1) := by decide +kernel
theorem dX2_init_37 : decode cX2_init 37 = .ok (.iload 5, 2) := by decide +kernel
theorem dX2_init_39 : decode cX2_init 39 = .ok (.ishl, 1) := by decide +kernel
theorem dX2_init_40 : decode cX2_init 40 = .ok (.putfield 30, 3) := by decide +kernel
theorem dX2_init_43 : decode cX2_init 43 = .ok (.return_, 1) := by decide +kernel
theorem dX2_isOpen_0 : decode cX2_isOpen 0 = .ok (.aload_n 0, 1) := by decide +kernel
theorem dX2_isOpen_1 : decode cX2_isOpen 1 = .ok (.getfield 24, 3) := by decide +kernel
theorem dX2_isOpen_4 : decode cX2_isOpen 4 = .ok (.ifCond .eq 19, 3) := by decide +kernel
theorem dX2_isOpen_7 : decode cX2_isOpen 7 = .ok (.aload_n 0, 1) := by decide +kernel
theorem dX2_isOpen_8 : decode cX2_isOpen 8 = .ok (.getfield 24, 3) := by decide +kernel
theorem dX2_isOpen_11 : decode cX2_isOpen 11 = .ok (.iconst 1, 1) := by decide +kernel
theorem dX2_isOpen_12 : decode cX2_isOpen 12 = .ok (.if_icmp .eq 11, 3) := by decide +kernel
theorem dX2_isOpen_15 : decode cX2_isOpen 15 = .ok (.aload_n 0, 1) := by decide +kernel
theorem dX2_isOpen_16 : decode cX2_isOpen 16 = .ok (.getfield 24, 3) := by decide +kernel
theorem dX2_isOpen_19 : decode cX2_isOpen 19 = .ok (.iconst 2, 1) := by decide +kernel
theorem dX2_isOpen_20 : decode cX2_isOpen 20 = .ok (.if_icmp .ne 7, 3) := by decide +kernel
theorem dX2_isOpen_23 : decode cX2_isOpen 23 = .ok (.iconst 1, 1) := by decide +kernel
theorem dX2_isOpen_24 : decode cX2_isOpen 24 = .ok (.goto 4, 3) := by decide +kernel
theorem dX2_isOpen_27 : decode cX2_isOpen 27 = .ok (.iconst 0, 1) := by decide +kernel
theorem dX2_isOpen_28 : decode cX2_isOpen 28 = .ok (.ireturn, 1) := by decide +kernel
theorem dX3_init_0 : decode cX3_init 0 = .ok (.aload_n 0, 1) := by decide +kernel
theorem dX3_init_1 : decode cX3_init 1 = .ok (.invokespecial 1, 3) := by decide +kernel
theorem dX3_init_4 : decode cX3_init 4 = .ok (.aload_n 0, 1) := by decide +kernel
theorem dX3_init_5 : decode cX3_init 5 = .ok (.new 7, 3) := by decide +kernel
theorem dX3_init_8 : decode cX3_init 8 = .ok (.dup, 1) := by decide +kernel
theorem dX3_init_9 : decode cX3_init 9 = .ok (.invokespecial 9, 3) := by decide +kernel
theorem dX3_init_12 : decode cX3_init 12 = .ok (.putfield 10, 3) := by decide +kernel
theorem dX3_init_15 : decode cX3_init 15 = .ok (.aload_n 0, 1) := by decide +kernel
theorem dX3_init_16 : decode cX3_init 16 = .ok (.iconst 4, 1) := by decide +kernel
theorem dX3_init_17 : decode cX3_init 17 = .ok (.newarray .int, 2) := by decide +kernel
theorem dX3_init_19 : decode cX3_init 19 = .ok (.dup, 1) := by decide +kernel
theorem dX3_init_20 : decode cX3_init 20 = .ok (.iconst 0, 1) := by decide +kernel
theorem dX3_init_21 : decode cX3_init 21 = .ok (.bipush 60, 2) := by decide +kernel
theorem dX3_init_23 : decode cX3_init 23 = .ok (.iastore, 1) := by decide +kernel
theorem dX3_init_24 : decode cX3_init 24 = .ok (.dup, 1) := by decide +kernel
theorem dX3_init_25 : decode cX3_init 25 = .ok (.iconst 1, 1) := by decide +kernel
theorem dX3_init_26 : decode cX3_init 26 = .ok (.bipush 120, 2) := by decide +kernel
theorem dX3_init_28 : decode cX3_init 28 = .ok (.iastore, 1) := by decide +kernel
theorem dX3_init_29 : decode cX3_init 29 = .ok (.dup, 1) := by decide +kernel
theorem dX3_init_30 : decode cX3_init 30 = .ok (.iconst 2, 1) := by decide +kernel
theorem dX3_init_31 : decode cX3_init 31 = .ok (.sipush 240, 3) := by decide +kernel
theorem dX3_init_34 : decode cX3_init 34 = .ok (.iastore, 1) := by decide +kernel
theorem dX3_init_35 : decode cX3_init 35 = .ok (.dup, 1) := by decide +kernel
theorem dX3_init_36 : decode cX3_init 36 = .ok (.iconst 3, 1) := by decide +kernel
theorem dX3_init_37 : decode cX3_init 37 = .ok (.sipush 480, 3) := by decide +kernel
theorem dX3_init_40 : decode cX3_init 40 = .ok (.iastore, 1) := by decide +kernel
theorem dX3_init_41 : decode cX3_init 41 = .ok (.putfield 16, 3) := by decide +kernel
theorem dX3_init_44 : decode cX3_init 44 = .ok (.aload_n 0, 1) := by decide +kernel
theorem dX3_init_45 : decode cX3_init 45 = .ok (.iconst 4, 1) := by decide +kernel
theorem dX3_init_46 : decode cX3_init 46 = .ok (.newarray .int, 2) := by decide +kernel
theorem dX3_init_48 : decode cX3_init 48 = .ok (.dup, 1) := by decide +kernel
theorem dX3_init_49 : decode cX3_init 49 = .ok (.iconst 0, 1) := by decide +kernel
theorem dX3_init_50 : decode cX3_init 50 = .ok (.sipush 240, 3) := by decide +kernel
theorem dX3_init_53 : decode cX3_init 53 = .ok (.iastore, 1) := by decide +kernel
theorem dX3_init_54 : decode cX3_init 54 = .ok (.dup, 1) := by decide +kernel
theorem dX3_init_55 : decode cX3_init 55 = .ok (.iconst 1, 1) := by decide +kernel
theorem dX3_init_56 : decode cX3_init 56 = .ok (.sipush 480, 3) := by decide +kernel
theorem dX3_init_59 : decode cX3_init 59 = .ok (.iastore, 1) := by decide +kernel
theorem dX3_init_60 : decode cX3_init 60 = .ok (.dup, 1) := by decide +kernel
theorem dX3_init_61 : decode cX3_init 61 = .ok (.iconst 2, 1) := by decide +kernel
theorem dX3_init_62 : decode cX3_init 62 = .ok (.sipush 960, 3) := by decide +kernel
theorem dX3_init_65 : decode cX3_init 65 = .ok (.iastore, 1) := by decide +kernel
theorem dX3_init_66 : decode cX3_init 66 = .ok (.dup, 1) := by decide +kernel
theorem dX3_init_67 : decode cX3_init 67 = .ok (.iconst 3, 1) := by decide +kernel
theorem dX3_init_68 : decode cX3_init 68 = .ok (.sipush 1920, 3) := by decide +kernel
theorem dX3_init_71 : decode cX3_init 71 = .ok (.iastore, 1) := by decide +kernel
theorem dX3_init_72 : decode cX3_init 72 = .ok (.putfield 20, 3) := by decide +kernel
theorem dX3_init_75 : decode cX3_init 75 = .ok (.aload_n 0, 1) := by decide +kernel
theorem dX3_init_76 : decode cX3_init 76 = .ok (.new 23, 3) := by decide +kernel
theorem dX3_init_79 : decode cX3_init 79 = .ok (.dup, 1) := by decide +kernel
theorem dX3_init_80 : decode cX3_init 80 = .ok (.invokespecial 25, 3) := by decide +kernel
theorem dX3_init_83 : decode cX3_init 83 = .ok (.putfield 26, 3) := by decide +kernel
theorem dX3_init_86 : decode cX3_init 86 = .ok (.aload_n 0, 1) := by decide +kernel
theorem dX3_init_87 : decode cX3_init 87 = .ok (.new 23, 3) := by decide +kernel
theorem dX3_init_90 : decode cX3_init 90 = .ok (.dup, 1) := by decide +kernel
theorem dX3_init_91 : decode cX3_init 91 = .ok (.invokespecial 25, 3) := by decide +kernel
theorem dX3_init_94 : decode cX3_init 94 = .ok (.putfield 30, 3) := by decide +kernel
theorem dX3_init_97 : decode cX3_init 97 = .ok (.aload_n 0, 1) := by decide +kernel
theorem dX3_init_98 : decode cX3_init 98 = .ok (.iconst 0, 1) := by decide +kernel
theorem dX3_init_99 : decode cX3_init 99 = .ok (.putfield 33, 3) := by decide +kernel
theorem dX3_init_102 : decode cX3_init 102 = .ok (.return_, 1) := by decide +kernel
theorem dX3_setHours_0 : decode cX3_setHours 0 = .ok (.iload_n 1, 1) := by decide +kernel
theorem dX3_setHours_1 : decode cX3_setHours 1 = .ok (.iload_n 2, 1) := by decide +kernel
theorem dX3_setHours_2 : decode cX3_setHours 2 = .ok (.invokestatic 37, 3) := by decide +kernel
theorem dX3_setHours_5 : decode cX3_setHours 5 = .ok (.ifCond .ne 13, 3) := by decide +kernel
theorem dX3_setHours_8 : decode cX3_setHours 8 = .ok (.new 41, 3) := by decide +kernel
theorem dX3_setHours_11 : decode cX3_setHours 11 = .ok (.dup, 1) := by decide +kernel
theorem dX3_setHours_12 : decode cX3_setHours 12 = .ok (.ldc 43, 2) := by decide +kernel
theorem dX3_setHours_14 : decode cX3_setHours 14 = .ok (.invokespecial 45, 3) := by decide +kernel
theorem dX3_setHours_17 : decode cX3_setHours 17 = .ok (.athrow, 1) := by decide +kernel
theorem dX3_setHours_18 : decode cX3_setHours 18 = .ok (.iload_n 1, 1) := by decide +kernel
theorem dX3_setHours_19 : decode cX3_setHours 19 = .ok (.aload_n 0, 1) := by decide +kernel
theorem dX3_setHours_20 : decode cX3_setHours 20 = .ok (.getfield 10, 3) := by decide +kernel
theorem dX3_setHours_23 : decode cX3_setHours 23 = .ok (.getfield 48, 3) := by decide +kernel
theorem dX3_setHours_26 : decode cX3_setHours 26 = .ok (.if_icmp .ne 14, 3) := by decide +kernel
theorem dX3_setHours_29 : decode cX3_setHours 29 = .ok (.iload_n 2, 1) := by decide +kernel
theorem dX3_setHours_30 : decode cX3_setHours 30 = .ok (.aload_n 0, 1) := by decide +kernel
theorem dX3_setHours_31 : decode cX3_setHours 31 = .ok (.getfield 10, 3) := by decide +kernel
theorem dX3_setHours_34 : decode cX3_setHours 34 = .ok (.getfield 51, 3) := by decide +kernel
theorem dX3_setHours_37 : decode cX3_setHours 37 = .ok (.if_icmp .eq 7, 3) := by decide +kernel
theorem dX3_setHours_40 : decode cX3_setHours 40 = .ok (.iconst 1, 1) := by decide +kernel
theorem dX3_setHours_41 : decode cX3_setHours 41 = .ok (.goto 4, 3) := by decide +kernel
theorem dX3_setHours_44 : decode cX3_setHours 44 = .ok (.iconst 0, 1) := by decide +kernel
theorem dX3_setHours_45 : decode cX3_setHours 45 = .ok (.istore_n 3, 1) := by decide +kernel
theorem dX3_setHours_46 : decode cX3_setHours 46 = .ok (.aload_n 0, 1) := by decide +kernel
theorem dX3_setHours_47 : decode cX3_setHours 47 = .ok (.getfield 10, 3) := by decide +kernel
theorem dX3_setHours_50 : decode cX3_setHours 50 = .ok (.iload_n 1, 1) := by decide +kernel
theorem dX3_setHours_51 : decode cX3_setHours 51 = .ok (.putfield 48, 3) := by decide +kernel
theorem dX3_setHours_54 : decode cX3_setHours 54 = .ok (.aload_n 0, 1) := by decide +kernel
theorem dX3_setHours_55 : decode cX3_setHours 55 = .ok (.getfield 10, 3) := by decide +kernel
theorem dX3_setHours_58 : decode cX3_setHours 58 = .ok (.iload_n 2, 1) := by decide +kernel
theorem dX3_setHours_59 : decode cX3_setHours 59 = .ok (.putfield 51, 3) := by decide +kernel
theorem dX3_setHours_62 : decode cX3_setHours 62 = .ok (.iload_n 3, 1) := by decide +kernel
theorem dX3_setHours_63 : decode cX3_setHours 63 = .ok (.ireturn, 1) := by decide +kernel
theorem dX3_setTargets_0 : decode cX3_setTargets 0 = .ok (.iload_n 1, 1) := by decide +kernel
theorem dX3_setTargets_1 : decode cX3_setTargets 1 = .ok (.invokestatic 54, 3) := by decide +kernel
theorem dX3_setTargets_4 : decode cX3_setTargets 4 = .ok (.ifCond .ne 13, 3) := by decide +kernel
theorem dX3_setTargets_7 : decode cX3_setTargets 7 = .ok (.new 58, 3) := by decide +kernel
theorem dX3_setTargets_10 : decode cX3_setTargets 10 = .ok (.dup, 1) := by decide +kernel
theorem dX3_setTargets_11 : decode cX3_setTargets 11 = .ok (.ldc 60, 2) := by decide +kernel
theorem dX3_setTargets_13 : decode cX3_setTargets 13 = .ok (.invokespecial 62, 3) := by decide +kernel
theorem dX3_setTargets_16 : decode cX3_setTargets 16 = .ok (.athrow, 1) := by decide +kernel
theorem dX3_setTargets_17 : decode cX3_setTargets 17 = .ok (.iload_n 2, 1) := by decide +kernel
theorem dX3_setTargets_18 : decode cX3_setTargets 18 = .ok (.iconst 1, 1) := by decide +kernel
theorem dX3_setTargets_19 : decode cX3_setTargets 19 = .ok (.if_icmp .lt 22, 3) := by decide +kernel
theorem dX3_setTargets_22 : decode cX3_setTargets 22 = .ok (.iload_n 2, 1) := by decide +kernel
theorem dX3_setTargets_23 : decode cX3_setTargets 23 = .ok (.sipush 9999, 3) := by decide +kernel
theorem dX3_setTargets_26 : decode cX3_setTargets 26 = .ok (.if_icmp .gt 15, 3) := by decide +kernel
theorem dX3_setTargets_29 : decode cX3_setTargets 29 = .ok (.iload_n 3, 1) := by decide +kernel
theorem dX3_setTargets_30 : decode cX3_setTargets 30 = .ok (.iload_n 2, 1) := by decide +kernel
theorem dX3_setTargets_31 : decode cX3_setTargets 31 = .ok (.if_icmp .lt 10, 3) := by decide +kernel
theorem dX3_setTargets_34 : decode cX3_setTargets 34 = .ok (.iload_n 3, 1) := by decide +kernel
theorem dX3_setTargets_35 : decode cX3_setTargets 35 = .ok (.sipush 9999, 3) := by decide +kernel
theorem dX3_setTargets_38 : decode cX3_setTargets 38 = .ok (.if_icmp .le 13, 3) := by decide +kernel
theorem dX3_setTargets_41 : decode cX3_setTargets 41 = .ok (.new 41, 3) := by decide +kernel
theorem dX3_setTargets_44 : decode cX3_setTargets 44 = .ok (.dup, 1) := by decide +kernel
theorem dX3_setTargets_45 : decode cX3_setTargets 45 = .ok (.ldc 63, 2) := by decide +kernel
theorem dX3_setTargets_47 : decode cX3_setTargets 47 = .ok (.invokespecial 45, 3) := by decide +kernel
theorem dX3_setTargets_50 : decode cX3_setTargets 50 = .ok (.athrow, 1) := by decide +kernel
theorem dX3_setTargets_51 : decode cX3_setTargets 51 = .ok (.aload_n 0, 1) := by decide +kernel
theorem dX3_setTargets_52 : decode cX3_setTargets 52 = .ok (.getfield 20, 3) := by decide +kernel
theorem dX3_setTargets_55 : decode cX3_setTargets 55 = .ok (.iload_n 1, 1) := by decide +kernel
theorem dX3_setTargets_56 : decode cX3_setTargets 56 = .ok (.iaload, 1) := by decide +kernel
theorem dX3_setTargets_57 : decode cX3_setTargets 57 = .ok (.istore 4, 2) := by decide +kernel
theorem dX3_setTargets_59 : decode cX3_setTargets 59 = .ok (.aload_n 0, 1) := by decide +kernel
theorem dX3_setTargets_60 : decode cX3_setTargets 60 = .ok (.getfield 16, 3) := by decide +kernel
theorem dX3_setTargets_63 : decode cX3_setTargets 63 = .ok (.iload_n 1, 1) := by decide +kernel
theorem dX3_setTargets_64 : decode cX3_setTargets 64 = .ok (.iload_n 2, 1) := by decide +kernel
theorem dX3_setTargets_65 : decode cX3_setTargets 65 = .ok (.iastore, 1) := by decide +kernel
theorem dX3_setTargets_66 : decode cX3_setTargets 66 = .ok (.aload_n 0, 1) := by decide +kernel
theorem dX3_setTargets_67 : decode cX3_setTargets 67 = .ok (.getfield 20, 3) := by decide +kernel
theorem dX3_setTargets_70 : decode cX3_setTargets 70 = .ok (.iload_n 1, 1) := by decide +kernel
theorem dX3_setTargets_71 : decode cX3_setTargets 71 = .ok (.iload_n 3, 1) := by decide +kernel
theorem dX3_setTargets_72 : decode cX3_setTargets 72 = .ok (.iastore, 1) := by decide +kernel
theorem dX3_setTargets_73 : decode cX3_setTargets 73 = .ok (.iload 4, 2) := by decide +kernel
theorem dX3_setTargets_75 : decode cX3_setTargets 75 = .ok (.ireturn, 1) := by decide +kernel
theorem dX3_now_0 : decode cX3_now 0 = .ok (.aload_n 0, 1) := by decide +kernel
theorem dX3_now_1 : decode cX3_now 1 = .ok (.getfield 33, 3) := by decide +kernel
theorem dX3_now_4 : decode cX3_now 4 = .ok (.ireturn, 1) := by decide +kernel
theorem dX3_service_0 : decode cX3_service 0 = .ok (.iload_n 1, 1) := by decide +kernel
theorem dX3_service_1 : decode cX3_service 1 = .ok (.ifCond .lt 14, 3) := by decide +kernel
theorem dX3_service_4 : decode cX3_service 4 = .ok (.iload_n 2, 1) := by decide +kernel
theorem dX3_service_5 : decode cX3_service 5 = .ok (.iload_n 1, 1) := by decide +kernel
theorem dX3_service_6 : decode cX3_service 6 = .ok (.if_icmp .lt 9, 3) := by decide +kernel
theorem dX3_service_9 : decode cX3_service 9 = .ok (.iload_n 2, 1) := by decide +kernel
theorem dX3_service_10 : decode cX3_service 10 = .ok (.ldc 65, 2) := by decide +kernel
theorem dX3_service_12 : decode cX3_service 12 = .ok (.if_icmp .le 13, 3) := by decide +kernel
theorem dX3_service_15 : decode cX3_service 15 = .ok (.new 41, 3) := by decide +kernel
theorem dX3_service_18 : decode cX3_service 18 = .ok (.dup, 1) := by decide +kernel
theorem dX3_service_19 : decode cX3_service 19 = .ok (.ldc 66, 2) := by decide +kernel
theorem dX3_service_21 : decode cX3_service 21 = .ok (.invokespecial 45, 3) := by decide +kernel
theorem dX3_service_24 : decode cX3_service 24 = .ok (.athrow, 1) := by decide +kernel
theorem dX3_service_25 : decode cX3_service 25 = .ok (.aload_n 0, 1) := by decide +kernel
theorem dX3_service_26 : decode cX3_service 26 = .ok (.getfield 10, 3) := by decide +kernel
theorem dX3_service_29 : decode cX3_service 29 = .ok (.iload_n 1, 1) := by decide +kernel
theorem dX3_service_30 : decode cX3_service 30 = .ok (.iload_n 2, 1) := by decide +kernel
theorem dX3_service_31 : decode cX3_service 31 = .ok (.invokevirtual 68, 3) := by decide +kernel
theorem dX3_service_34 : decode cX3_service 34 = .ok (.ireturn, 1) := by decide +kernel
theorem dX3_addAgent_0 : decode cX3_addAgent 0 = .ok (.iload_n 1, 1) := by decide +kernel
theorem dX3_addAgent_1 : decode cX3_addAgent 1 = .ok (.invokestatic 72, 3) := by decide +kernel
theorem dX3_addAgent_4 : decode cX3_addAgent 4 = .ok (.ifCond .eq 23, 3) := by decide +kernel
theorem dX3_addAgent_7 : decode cX3_addAgent 7 = .ok (.iload_n 2, 1) := by decide +kernel
theorem dX3_addAgent_8 : decode cX3_addAgent 8 = .ok (.iconst 1, 1) := by decide +kernel
theorem dX3_addAgent_9 : decode cX3_addAgent 9 = .ok (.if_icmp .lt 18, 3) := by decide +kernel
theorem dX3_addAgent_12 : decode cX3_addAgent 12 = .ok (.iload_n 2, 1) := by decide +kernel
theorem dX3_addAgent_13 : decode cX3_addAgent 13 = .ok (.bipush 127, 2) := by decide +kernel
theorem dX3_addAgent_15 : decode cX3_addAgent 15 = .ok (.if_icmp .gt 12, 3) := by decide +kernel
theorem dX3_addAgent_18 : decode cX3_addAgent 18 = .ok (.iload_n 3, 1) := by decide +kernel
theorem dX3_addAgent_19 : decode cX3_addAgent 19 = .ok (.iload 4, 2) := by decide +kernel
theorem dX3_addAgent_21 : decode cX3_addAgent 21 = .ok (.invokestatic 37, 3) := by decide +kernel
theorem dX3_addAgent_24 : decode cX3_addAgent 24 = .ok (.ifCond .ne 13, 3) := by decide +kernel
theorem dX3_addAgent_27 : decode cX3_addAgent 27 = .ok (.new 41, 3) := by decide +kernel
theorem dX3_addAgent_30 : decode cX3_addAgent 30 = .ok (.dup, 1) := by decide +kernel
theorem dX3_addAgent_31 : decode cX3_addAgent 31 = .ok (.ldc 75, 2) := by decide +kernel
theorem dX3_addAgent_33 : decode cX3_addAgent 33 = .ok (.invokespecial 45, 3) := by decide +kernel
theorem dX3_addAgent_36 : decode cX3_addAgent 36 = .ok (.athrow, 1) := by decide +kernel
theorem dX3_addAgent_37 : decode cX3_addAgent 37 = .ok (.aload_n 0, 1) := by decide +kernel
theorem dX3_addAgent_38 : decode cX3_addAgent 38 = .ok (.getfield 26, 3) := by decide +kernel
theorem dX3_addAgent_41 : decode cX3_addAgent 41 = .ok (.invokevirtual 77, 3) := by decide +kernel
theorem dX3_addAgent_44 : decode cX3_addAgent 44 = .ok (.bipush 6, 2) := by decide +kernel
theorem dX3_addAgent_46 : decode cX3_addAgent 46 = .ok (.if_icmp .lt 13, 3) := by decide +kernel
theorem dX3_addAgent_49 : decode cX3_addAgent 49 = .ok (.new 81, 3) := by decide +kernel
theorem dX3_addAgent_52 : decode cX3_addAgent 52 = .ok (.dup, 1) := by decide +kernel
theorem dX3_addAgent_53 : decode cX3_addAgent 53 = .ok (.ldc 83, 2) := by decide +kernel
theorem dX3_addAgent_55 : decode cX3_addAgent 55 = .ok (.invokespecial 85, 3) := by decide +kernel
theorem dX3_addAgent_58 : decode cX3_addAgent 58 = .ok (.athrow, 1) := by decide +kernel
theorem dX3_addAgent_59 : decode cX3_addAgent 59 = .ok (.new 86, 3) := by decide +kernel
theorem dX3_addAgent_62 : decode cX3_addAgent 62 = .ok (.dup, 1) := by decide +kernel
theorem dX3_addAgent_63 : decode cX3_addAgent 63 = .ok (.aload_n 0, 1) := by decide +kernel
theorem dX3_addAgent_64 : decode cX3_addAgent 64 = .ok (.getfield 26, 3) := by decide +kernel
theorem dX3_addAgent_67 : decode cX3_addAgent 67 = .ok (.invokevirtual 77, 3) := by decide +kernel
theorem dX3_addAgent_70 : decode cX3_addAgent 70 = .ok (.iload_n 1, 1) := by decide +kernel
theorem dX3_addAgent_71 : decode cX3_addAgent 71 = .ok (.iload_n 2, 1) := by decide +kernel
theorem dX3_addAgent_72 : decode cX3_addAgent 72 = .ok (.iload_n 3, 1) := by decide +kernel
theorem dX3_addAgent_73 : decode cX3_addAgent 73 = .ok (.iload 4, 2) := by decide +kernel
theorem dX3_addAgent_75 : decode cX3_addAgent 75 = .ok (.invokespecial 88, 3) := by decide +kernel
theorem dX3_addAgent_78 : decode cX3_addAgent 78 = .ok (.astore 5, 2) := by decide +kernel
theorem dX3_addAgent_80 : decode cX3_addAgent 80 = .ok (.aload_n 0, 1) := by decide +kernel
theorem dX3_addAgent_81 : decode cX3_addAgent 81 = .ok (.getfield 26, 3) := by decide +kernel
theorem dX3_addAgent_84 : decode cX3_addAgent 84 = .ok (.aload 5, 2) := by decide +kernel
theorem dX3_addAgent_86 : decode cX3_addAgent 86 = .ok (.invokevirtual 91, 3) := by decide +kernel
theorem dX3_addAgent_89 : decode cX3_addAgent 89 = .ok (.pop, 1) := by decide +kernel
theorem dX3_addAgent_90 : decode cX3_addAgent 90 = .ok (.aload 5, 2) := by decide +kernel
theorem dX3_addAgent_92 : decode cX3_addAgent 92 = .ok (.getfield 95, 3) := by decide +kernel
theorem dX3_addAgent_95 : decode cX3_addAgent 95 = .ok (.ireturn, 1) := by decide +kernel
theorem dX3_setSkills_0 : decode cX3_setSkills 0 = .ok (.aload_n 0, 1) := by decide +kernel
theorem dX3_setSkills_1 : decode cX3_setSkills 1 = .ok (.iload_n 1, 1) := by decide +kernel
theorem dX3_setSkills_2 : decode cX3_setSkills 2 = .ok (.invokevirtual 98, 3) := by decide +kernel
theorem dX3_setSkills_5 : decode cX3_setSkills 5 = .ok (.astore_n 3, 1) := by decide +kernel
theorem dX3_setSkills_6 : decode cX3_setSkills 6 = .ok (.iload_n 2, 1) := by decide +kernel
theorem dX3_setSkills_7 : decode cX3_setSkills 7 = .ok (.invokestatic 72, 3) := by decide +kernel
theorem dX3_setSkills_10 : decode cX3_setSkills 10 = .ok (.ifCond .ne 13, 3) := by decide +kernel
theorem dX3_setSkills_13 : decode cX3_setSkills 13 = .ok (.new 41, 3) := by decide +kernel
theorem dX3_setSkills_16 : decode cX3_setSkills 16 = .ok (.dup, 1) := by decide +kernel
theorem dX3_setSkills_17 : decode cX3_setSkills 17 = .ok (.ldc 102, 2) := by decide +kernel
theorem dX3_setSkills_19 : decode cX3_setSkills 19 = .ok (.invokespecial 45, 3) := by decide +kernel
theorem dX3_setSkills_22 : decode cX3_setSkills 22 = .ok (.athrow, 1) := by decide +kernel
theorem dX3_setSkills_23 : decode cX3_setSkills 23 = .ok (.aload_n 3, 1) := by decide +kernel
theorem dX3_setSkills_24 : decode cX3_setSkills 24 = .ok (.getfield 104, 3) := by decide +kernel
theorem dX3_setSkills_27 : decode cX3_setSkills 27 = .ok (.istore 4, 2) := by decide +kernel
theorem dX3_setSkills_29 : decode cX3_setSkills 29 = .ok (.aload_n 3, 1) := by decide +kernel
theorem dX3_setSkills_30 : decode cX3_setSkills 30 = .ok (.iload_n 2, 1) := by decide +kernel
theorem dX3_setSkills_31 : decode cX3_setSkills 31 = .ok (.putfield 104, 3) := by decide +kernel
theorem dX3_setSkills_34 : decode cX3_setSkills 34 = .ok (.aload_n 3, 1) := by decide +kernel
theorem dX3_setSkills_35 : decode cX3_setSkills 35 = .ok (.getfield 107, 3) := by decide +kernel
theorem dX3_setSkills_38 : decode cX3_setSkills 38 = .ok (.astore 5, 2) := by decide +kernel
theorem dX3_setSkills_40 : decode cX3_setSkills 40 = .ok (.aload 5, 2) := by decide +kernel
theorem dX3_setSkills_42 : decode cX3_setSkills 42 = .ok (.ifnull 20, 3) := by decide +kernel
theorem dX3_setSkills_45 : decode cX3_setSkills 45 = .ok (.aload_n 3, 1) := by decide +kernel
theorem dX3_setSkills_46 : decode cX3_setSkills 46 = .ok (.aload 5, 2) := by decide +kernel
theorem dX3_setSkills_48 : decode cX3_setSkills 48 = .ok (.getfield 111, 3) := by decide +kernel
theorem dX3_setSkills_51 : decode cX3_setSkills 51 = .ok (.invokevirtual 116, 3) := by decide +kernel
theorem dX3_setSkills_54 : decode cX3_setSkills 54 = .ok (.ifCond .ne 8, 3) := by decide +kernel
theorem dX3_setSkills_57 : decode cX3_setSkills 57 = .ok (.aload 5, 2) := by decide +kernel
theorem dX3_setSkills_59 : decode cX3_setSkills 59 = .ok (.invokestatic 119, 3) := by decide +kernel
theorem dX3_setSkills_62 : decode cX3_setSkills 62 = .ok (.iload 4, 2) := by decide +kernel
theorem dX3_setSkills_64 : decode cX3_setSkills 64 = .ok (.ireturn, 1) := by decide +kernel
theorem dX3_agent_0 : decode cX3_agent 0 = .ok (.aload_n 0, 1) := by decide +kernel
theorem dX3_agent_1 : decode cX3_agent 1 = .ok (.iload_n 1, 1) := by decide +kernel
theorem dX3_agent_2 : decode cX3_agent 2 = .ok (.invokevirtual 98, 3) := by decide +kernel
theorem dX3_agent_5 : decode cX3_agent 5 = .ok (.astore_n 3, 1) := by decide +kernel
theorem dX3_agent_6 : decode cX3_agent 6 = .ok (.iload_n 2, 1) := by decide +kernel
theorem dX3_agent_7 : decode cX3_agent 7 = .ok (.ifCond .lt 8, 3) := by decide +kernel
theorem dX3_agent_10 : decode cX3_agent 10 = .ok (.iload_n 2, 1) := by decide +kernel
theorem dX3_agent_11 : decode cX3_agent 11 = .ok (.iconst 4, 1) := by decide +kernel
theorem dX3_agent_12 : decode cX3_agent 12 = .ok (.if_icmp .lt 13, 3) := by decide +kernel
theorem dX3_agent_15 : decode cX3_agent 15 = .ok (.new 58, 3) := by decide +kernel
theorem dX3_agent_18 : decode cX3_agent 18 = .ok (.dup, 1) := by decide +kernel
theorem dX3_agent_19 : decode cX3_agent 19 = .ok (.ldc 123, 2) := by decide +kernel
theorem dX3_agent_21 : decode cX3_agent 21 = .ok (.invokespecial 62, 3) := by decide +kernel
theorem dX3_agent_24 : decode cX3_agent 24 = .ok (.athrow, 1) := by decide +kernel
theorem dX3_agent_25 : decode cX3_agent 25 = .ok (.aload_n 0, 1) := by decide +kernel
theorem dX3_agent_26 : decode cX3_agent 26 = .ok (.aload_n 3, 1) := by decide +kernel
theorem dX3_agent_27 : decode cX3_agent 27 = .ok (.iload_n 2, 1) := by decide +kernel
theorem dX3_agent_28 : decode cX3_agent 28 = .ok (.invokevirtual 125, 3) := by decide +kernel
theorem dX3_agent_31 : decode cX3_agent 31 = .ok (.ireturn, 1) := by decide +kernel
theorem dX3_next_0 : decode cX3_next 0 = .ok (.aload_n 0, 1) := by decide +kernel
theorem dX3_next_1 : decode cX3_next 1 = .ok (.aload_n 0, 1) := by decide +kernel
theorem dX3_next_2 : decode cX3_next 2 = .ok (.iload_n 1, 1) := by decide +kernel
theorem dX3_next_3 : decode cX3_next 3 = .ok (.invokevirtual 98, 3) := by decide +kernel
theorem dX3_next_6 : decode cX3_next 6 = .ok (.invokevirtual 129, 3) := by decide +kernel
theorem dX3_next_9 : decode cX3_next 9 = .ok (.invokestatic 133, 3) := by decide +kernel
theorem dX3_next_12 : decode cX3_next 12 = .ok (.ireturn, 1) := by decide +kernel
theorem dX3_open_0 : decode cX3_open 0 = .ok (.iload_n 1, 1) := by decide +kernel
theorem dX3_open_1 : decode cX3_open 1 = .ok (.ifCond .lt 40, 3) := by decide +kernel
theorem dX3_open_4 : decode cX3_open 4 = .ok (.iload_n 1, 1) := by decide +kernel
theorem dX3_open_5 : decode cX3_open 5 = .ok (.bipush 8, 2) := by decide +kernel
theorem dX3_open_7 : decode cX3_open 7 = .ok (.if_icmp .ge 34, 3) := by decide +kernel
theorem dX3_open_10 : decode cX3_open 10 = .ok (.iload_n 2, 1) := by decide +kernel
theorem dX3_open_11 : decode cX3_open 11 = .ok (.invokestatic 54, 3) := by decide +kernel
theorem dX3_open_14 : decode cX3_open 14 = .ok (.ifCond .eq 27, 3) := by decide +kernel
theorem dX3_open_17 : decode cX3_open 17 = .ok (.iload_n 3, 1) := by decide +kernel
theorem dX3_open_18 : decode cX3_open 18 = .ok (.iconst 1, 1) := by decide +kernel
theorem dX3_open_19 : decode cX3_open 19 = .ok (.if_icmp .lt 22, 3) := by decide +kernel
theorem dX3_open_22 : decode cX3_open 22 = .ok (.iload_n 3, 1) := by decide +kernel
theorem dX3_open_23 : decode cX3_open 23 = .ok (.sipush 600, 3) := by decide +kernel
theorem dX3_open_26 : decode cX3_open 26 = .ok (.if_icmp .gt 15, 3) := by decide +kernel
theorem dX3_open_29 : decode cX3_open 29 = .ok (.iload 4, 2) := by decide +kernel
theorem dX3_open_31 : decode cX3_open 31 = .ok (.ifCond .lt 10, 3) := by decide +kernel
theorem dX3_open_34 : decode cX3_open 34 = .ok (.iload 4, 2) := by decide +kernel
theorem dX3_open_36 : decode cX3_open 36 = .ok (.bipush 10, 2) := by decide +kernel
theorem dX3_open_38 : decode cX3_open 38 = .ok (.if_icmp .lt 13, 3) := by decide +kernel
theorem dX3_open_41 : decode cX3_open 41 = .ok (.new 41, 3) := by decide +kernel
theorem dX3_open_44 : decode cX3_open 44 = .ok (.dup, 1) := by decide +kernel
theorem dX3_open_45 : decode cX3_open 45 = .ok (.ldc 137, 2) := by decide +kernel
theorem dX3_open_47 : decode cX3_open 47 = .ok (.invokespecial 45, 3) := by decide +kernel
theorem dX3_open_50 : decode cX3_open 50 = .ok (.athrow, 1) := by decide +kernel
theorem dX3_open_51 : decode cX3_open 51 = .ok (.aload_n 0, 1) := by decide +kernel
theorem dX3_open_52 : decode cX3_open 52 = .ok (.getfield 30, 3) := by decide +kernel
theorem dX3_open_55 : decode cX3_open 55 = .ok (.invokevirtual 77, 3) := by decide +kernel
theorem dX3_open_58 : decode cX3_open 58 = .ok (.bipush 20, 2) := by decide +kernel
theorem dX3_open_60 : decode cX3_open 60 = .ok (.if_icmp .lt 13, 3) := by decide +kernel
theorem dX3_open_63 : decode cX3_open 63 = .ok (.new 81, 3) := by decide +kernel
theorem dX3_open_66 : decode cX3_open 66 = .ok (.dup, 1) := by decide +kernel
theorem dX3_open_67 : decode cX3_open 67 = .ok (.ldc 139, 2) := by decide +kernel
theorem dX3_open_69 : decode cX3_open 69 = .ok (.invokespecial 85, 3) := by decide +kernel
theorem dX3_open_72 : decode cX3_open 72 = .ok (.athrow, 1) := by decide +kernel
theorem dX3_open_73 : decode cX3_open 73 = .ok (.new 112, 3) := by decide +kernel
theorem dX3_open_76 : decode cX3_open 76 = .ok (.dup, 1) := by decide +kernel
theorem dX3_open_77 : decode cX3_open 77 = .ok (.aload_n 0, 1) := by decide +kernel
theorem dX3_open_78 : decode cX3_open 78 = .ok (.getfield 30, 3) := by decide +kernel
theorem dX3_open_81 : decode cX3_open 81 = .ok (.invokevirtual 77, 3) := by decide +kernel
theorem dX3_open_84 : decode cX3_open 84 = .ok (.iload_n 1, 1) := by decide +kernel
theorem dX3_open_85 : decode cX3_open 85 = .ok (.iload_n 2, 1) := by decide +kernel
theorem dX3_open_86 : decode cX3_open 86 = .ok (.iload_n 3, 1) := by decide +kernel
theorem dX3_open_87 : decode cX3_open 87 = .ok (.iload 4, 2) := by decide +kernel
theorem dX3_open_89 : decode cX3_open 89 = .ok (.invokespecial 141, 3) := by decide +kernel
theorem dX3_open_92 : decode cX3_open 92 = .ok (.astore 5, 2) := by decide +kernel
theorem dX3_open_94 : decode cX3_open 94 = .ok (.aload_n 0, 1) := by decide +kernel
theorem dX3_open_95 : decode cX3_open 95 = .ok (.getfield 30, 3) := by decide +kernel
theorem dX3_open_98 : decode cX3_open 98 = .ok (.aload 5, 2) := by decide +kernel
theorem dX3_open_100 : decode cX3_open 100 = .ok (.invokevirtual 91, 3) := by decide +kernel
theorem dX3_open_103 : decode cX3_open 103 = .ok (.pop, 1) := by decide +kernel
theorem dX3_open_104 : decode cX3_open 104 = .ok (.aload 5, 2) := by decide +kernel
theorem dX3_open_106 : decode cX3_open 106 = .ok (.getfield 142, 3) := by decide +kernel
theorem dX3_open_109 : decode cX3_open 109 = .ok (.ireturn, 1) := by decide +kernel
theorem dX3_setPriority_0 : decode cX3_setPriority 0 = .ok (.aload_n 0, 1) := by decide +kernel
theorem dX3_setPriority_1 : decode cX3_setPriority 1 = .ok (.iload_n 1, 1) := by decide +kernel
theorem dX3_setPriority_2 : decode cX3_setPriority 2 = .ok (.invokevirtual 143, 3) := by decide +kernel
theorem dX3_setPriority_5 : decode cX3_setPriority 5 = .ok (.astore_n 3, 1) := by decide +kernel
theorem dX3_setPriority_6 : decode cX3_setPriority 6 = .ok (.iload_n 2, 1) := by decide +kernel
theorem dX3_setPriority_7 : decode cX3_setPriority 7 = .ok (.invokestatic 54, 3) := by decide +kernel
theorem dX3_setPriority_10 : decode cX3_setPriority 10 = .ok (.ifCond .ne 13, 3) := by decide +kernel
theorem dX3_setPriority_13 : decode cX3_setPriority 13 = .ok (.new 41, 3) := by decide +kernel
theorem dX3_setPriority_16 : decode cX3_setPriority 16 = .ok (.dup, 1) := by decide +kernel
theorem dX3_setPriority_17 : decode cX3_setPriority 17 = .ok (.ldc 60, 2) := by decide +kernel
theorem dX3_setPriority_19 : decode cX3_setPriority 19 = .ok (.invokespecial 45, 3) := by decide +kernel
theorem dX3_setPriority_22 : decode cX3_setPriority 22 = .ok (.athrow, 1) := by decide +kernel
theorem dX3_setPriority_23 : decode cX3_setPriority 23 = .ok (.aload_n 3, 1) := by decide +kernel
theorem dX3_setPriority_24 : decode cX3_setPriority 24 = .ok (.getfield 147, 3) := by decide +kernel
theorem dX3_setPriority_27 : decode cX3_setPriority 27 = .ok (.iconst 4, 1) := by decide +kernel
theorem dX3_setPriority_28 : decode cX3_setPriority 28 = .ok (.if_icmp .ne 13, 3) := by decide +kernel
theorem dX3_setPriority_31 : decode cX3_setPriority 31 = .ok (.new 81, 3) := by decide +kernel
theorem dX3_setPriority_34 : decode cX3_setPriority 34 = .ok (.dup, 1) := by decide +kernel
theorem dX3_setPriority_35 : decode cX3_setPriority 35 = .ok (.ldc 150, 2) := by decide +kernel
theorem dX3_setPriority_37 : decode cX3_setPriority 37 = .ok (.invokespecial 85, 3) := by decide +kernel
theorem dX3_setPriority_40 : decode cX3_setPriority 40 = .ok (.athrow, 1) := by decide +kernel
theorem dX3_setPriority_41 : decode cX3_setPriority 41 = .ok (.aload_n 3, 1) := by decide +kernel
theorem dX3_setPriority_42 : decode cX3_setPriority 42 = .ok (.getfield 152, 3) := by decide +kernel
theorem dX3_setPriority_45 : decode cX3_setPriority 45 = .ok (.istore 4, 2) := by decide +kernel
theorem dX3_setPriority_47 : decode cX3_setPriority 47 = .ok (.aload_n 3, 1) := by decide +kernel
theorem dX3_setPriority_48 : decode cX3_setPriority 48 = .ok (.iload_n 2, 1) := by decide +kernel
theorem dX3_setPriority_49 : decode cX3_setPriority 49 = .ok (.putfield 152, 3) := by decide +kernel
theorem dX3_setPriority_52 : decode cX3_setPriority 52 = .ok (.iload 4, 2) := by decide +kernel
theorem dX3_setPriority_54 : decode cX3_setPriority 54 = .ok (.ireturn, 1) := by decide +kernel
theorem dX3_pause_0 : decode cX3_pause 0 = .ok (.aload_n 0, 1) := by decide +kernel
theorem dX3_pause_1 : decode cX3_pause 1 = .ok (.iload_n 1, 1) := by decide +kernel
theorem dX3_pause_2 : decode cX3_pause 2 = .ok (.invokevirtual 143, 3) := by decide +kernel
theorem dX3_pause_5 : decode cX3_pause 5 = .ok (.astore_n 2, 1) := by decide +kernel
theorem dX3_pause_6 : decode cX3_pause 6 = .ok (.aload_n 2, 1) := by decide +kernel
theorem dX3_pause_7 : decode cX3_pause 7 = .ok (.getfield 147, 3) := by decide +kernel
theorem dX3_pause_10 : decode cX3_pause 10 = .ok (.ifCond .eq 21, 3) := by decide +kernel
theorem dX3_pause_13 : decode cX3_pause 13 = .ok (.aload_n 2, 1) := by decide +kernel
theorem dX3_pause_14 : decode cX3_pause 14 = .ok (.getfield 147, 3) := by decide +kernel
theorem dX3_pause_17 : decode cX3_pause 17 = .ok (.iconst 1, 1) := by decide +kernel
theorem dX3_pause_18 : decode cX3_pause 18 = .ok (.if_icmp .eq 13, 3) := by decide +kernel
theorem dX3_pause_21 : decode cX3_pause 21 = .ok (.new 81, 3) := by decide +kernel
theorem dX3_pause_24 : decode cX3_pause 24 = .ok (.dup, 1) := by decide +kernel
theorem dX3_pause_25 : decode cX3_pause 25 = .ok (.ldc 155, 2) := by decide +kernel
theorem dX3_pause_27 : decode cX3_pause 27 = .ok (.invokespecial 85, 3) := by decide +kernel
theorem dX3_pause_30 : decode cX3_pause 30 = .ok (.athrow, 1) := by decide +kernel
theorem dX3_pause_31 : decode cX3_pause 31 = .ok (.aload_n 2, 1) := by decide +kernel
theorem dX3_pause_32 : decode cX3_pause 32 = .ok (.invokestatic 157, 3) := by decide +kernel
theorem dX3_pause_35 : decode cX3_pause 35 = .ok (.aload_n 2, 1) := by decide +kernel
theorem dX3_pause_36 : decode cX3_pause 36 = .ok (.iconst 2, 1) := by decide +kernel
theorem dX3_pause_37 : decode cX3_pause 37 = .ok (.putfield 147, 3) := by decide +kernel
theorem dX3_pause_40 : decode cX3_pause 40 = .ok (.aload_n 2, 1) := by decide +kernel
theorem dX3_pause_41 : decode cX3_pause 41 = .ok (.aload_n 0, 1) := by decide +kernel
theorem dX3_pause_42 : decode cX3_pause 42 = .ok (.getfield 33, 3) := by decide +kernel
theorem dX3_pause_45 : decode cX3_pause 45 = .ok (.putfield 160, 3) := by decide +kernel
theorem dX3_pause_48 : decode cX3_pause 48 = .ok (.aload_n 2, 1) := by decide +kernel
theorem dX3_pause_49 : decode cX3_pause 49 = .ok (.getfield 163, 3) := by decide +kernel
theorem dX3_pause_52 : decode cX3_pause 52 = .ok (.aload_n 2, 1) := by decide +kernel
theorem dX3_pause_53 : decode cX3_pause 53 = .ok (.getfield 166, 3) := by decide +kernel
theorem dX3_pause_56 : decode cX3_pause 56 = .ok (.isub, 1) := by decide +kernel
theorem dX3_pause_57 : decode cX3_pause 57 = .ok (.ireturn, 1) := by decide +kernel
theorem dX3_resume_0 : decode cX3_resume 0 = .ok (.aload_n 0, 1) := by decide +kernel
theorem dX3_resume_1 : decode cX3_resume 1 = .ok (.iload_n 1, 1) := by decide +kernel
theorem dX3_resume_2 : decode cX3_resume 2 = .ok (.invokevirtual 143, 3) := by decide +kernel
theorem dX3_resume_5 : decode cX3_resume 5 = .ok (.astore_n 2, 1) := by decide +kernel
theorem dX3_resume_6 : decode cX3_resume 6 = .ok (.aload_n 2, 1) := by decide +kernel
theorem dX3_resume_7 : decode cX3_resume 7 = .ok (.getfield 147, 3) := by decide +kernel
theorem dX3_resume_10 : decode cX3_resume 10 = .ok (.iconst 2, 1) := by decide +kernel
theorem dX3_resume_11 : decode cX3_resume 11 = .ok (.if_icmp .eq 13, 3) := by decide +kernel
theorem dX3_resume_14 : decode cX3_resume 14 = .ok (.new 81, 3) := by decide +kernel
theorem dX3_resume_17 : decode cX3_resume 17 = .ok (.dup, 1) := by decide +kernel
theorem dX3_resume_18 : decode cX3_resume 18 = .ok (.ldc 169, 2) := by decide +kernel
theorem dX3_resume_20 : decode cX3_resume 20 = .ok (.invokespecial 85, 3) := by decide +kernel
theorem dX3_resume_23 : decode cX3_resume 23 = .ok (.athrow, 1) := by decide +kernel
theorem dX3_resume_24 : decode cX3_resume 24 = .ok (.aload_n 2, 1) := by decide +kernel
theorem dX3_resume_25 : decode cX3_resume 25 = .ok (.iconst 0, 1) := by decide +kernel
theorem dX3_resume_26 : decode cX3_resume 26 = .ok (.putfield 147, 3) := by decide +kernel
theorem dX3_resume_29 : decode cX3_resume 29 = .ok (.aload_n 0, 1) := by decide +kernel
theorem dX3_resume_30 : decode cX3_resume 30 = .ok (.getfield 33, 3) := by decide +kernel
theorem dX3_resume_33 : decode cX3_resume 33 = .ok (.aload_n 2, 1) := by decide +kernel
theorem dX3_resume_34 : decode cX3_resume 34 = .ok (.getfield 160, 3) := by decide +kernel
theorem dX3_resume_37 : decode cX3_resume 37 = .ok (.isub, 1) := by decide +kernel
theorem dX3_resume_38 : decode cX3_resume 38 = .ok (.ireturn, 1) := by decide +kernel
theorem dX3_merge_0 : decode cX3_merge 0 = .ok (.aload_n 0, 1) := by decide +kernel
theorem dX3_merge_1 : decode cX3_merge 1 = .ok (.iload_n 1, 1) := by decide +kernel
theorem dX3_merge_2 : decode cX3_merge 2 = .ok (.invokevirtual 143, 3) := by decide +kernel
theorem dX3_merge_5 : decode cX3_merge 5 = .ok (.astore_n 3, 1) := by decide +kernel
theorem dX3_merge_6 : decode cX3_merge 6 = .ok (.aload_n 0, 1) := by decide +kernel
theorem dX3_merge_7 : decode cX3_merge 7 = .ok (.iload_n 2, 1) := by decide +kernel
theorem dX3_merge_8 : decode cX3_merge 8 = .ok (.invokevirtual 143, 3) := by decide +kernel
theorem dX3_merge_11 : decode cX3_merge 11 = .ok (.astore 4, 2) := by decide +kernel
theorem dX3_merge_13 : decode cX3_merge 13 = .ok (.iload_n 1, 1) := by decide +kernel
theorem dX3_merge_14 : decode cX3_merge 14 = .ok (.iload_n 2, 1) := by decide +kernel
theorem dX3_merge_15 : decode cX3_merge 15 = .ok (.if_icmp .ne 13, 3) := by decide +kernel
theorem dX3_merge_18 : decode cX3_merge 18 = .ok (.new 41, 3) := by decide +kernel
theorem dX3_merge_21 : decode cX3_merge 21 = .ok (.dup, 1) := by decide +kernel
theorem dX3_merge_22 : decode cX3_merge 22 = .ok (.ldc 171, 2) := by decide +kernel
theorem dX3_merge_24 : decode cX3_merge 24 = .ok (.invokespecial 45, 3) := by decide +kernel
theorem dX3_merge_27 : decode cX3_merge 27 = .ok (.athrow, 1) := by decide +kernel
theorem dX3_merge_28 : decode cX3_merge 28 = .ok (.aload_n 3, 1) := by decide +kernel
theorem dX3_merge_29 : decode cX3_merge 29 = .ok (.invokevirtual 173, 3) := by decide +kernel
theorem dX3_merge_32 : decode cX3_merge 32 = .ok (.ifCond .eq 11, 3) := by decide +kernel
theorem dX3_merge_35 : decode cX3_merge 35 = .ok (.aload 4, 2) := by decide +kernel
theorem dX3_merge_37 : decode cX3_merge 37 = .ok (.invokevirtual 173, 3) := by decide +kernel
theorem dX3_merge_40 : decode cX3_merge 40 = .ok (.ifCond .ne 13, 3) := by decide +kernel
theorem dX3_merge_43 : decode cX3_merge 43 = .ok (.new 81, 3) := by decide +kernel
theorem dX3_merge_46 : decode cX3_merge 46 = .ok (.dup, 1) := by decide +kernel
theorem dX3_merge_47 : decode cX3_merge 47 = .ok (.ldc 177, 2) := by decide +kernel
theorem dX3_merge_49 : decode cX3_merge 49 = .ok (.invokespecial 85, 3) := by decide +kernel
theorem dX3_merge_52 : decode cX3_merge 52 = .ok (.athrow, 1) := by decide +kernel
theorem dX3_merge_53 : decode cX3_merge 53 = .ok (.aload_n 3, 1) := by decide +kernel
theorem dX3_merge_54 : decode cX3_merge 54 = .ok (.invokestatic 157, 3) := by decide +kernel
theorem dX3_merge_57 : decode cX3_merge 57 = .ok (.aload_n 3, 1) := by decide +kernel
theorem dX3_merge_58 : decode cX3_merge 58 = .ok (.iconst 4, 1) := by decide +kernel
theorem dX3_merge_59 : decode cX3_merge 59 = .ok (.putfield 147, 3) := by decide +kernel
theorem dX3_merge_62 : decode cX3_merge 62 = .ok (.aload_n 3, 1) := by decide +kernel
theorem dX3_merge_63 : decode cX3_merge 63 = .ok (.aload 4, 2) := by decide +kernel
theorem dX3_merge_65 : decode cX3_merge 65 = .ok (.putfield 179, 3) := by decide +kernel
theorem dX3_merge_68 : decode cX3_merge 68 = .ok (.aload 4, 2) := by decide +kernel
theorem dX3_merge_70 : decode cX3_merge 70 = .ok (.aload 4, 2) := by decide +kernel
theorem dX3_merge_72 : decode cX3_merge 72 = .ok (.getfield 152, 3) := by decide +kernel
theorem dX3_merge_75 : decode cX3_merge 75 = .ok (.aload_n 3, 1) := by decide +kernel
theorem dX3_merge_76 : decode cX3_merge 76 = .ok (.getfield 152, 3) := by decide +kernel
theorem dX3_merge_79 : decode cX3_merge 79 = .ok (.invokestatic 182, 3) := by decide +kernel
theorem dX3_merge_82 : decode cX3_merge 82 = .ok (.putfield 152, 3) := by decide +kernel
theorem dX3_merge_85 : decode cX3_merge 85 = .ok (.aload 4, 2) := by decide +kernel
theorem dX3_merge_87 : decode cX3_merge 87 = .ok (.aload 4, 2) := by decide +kernel
theorem dX3_merge_89 : decode cX3_merge 89 = .ok (.getfield 187, 3) := by decide +kernel
theorem dX3_merge_92 : decode cX3_merge 92 = .ok (.aload_n 3, 1) := by decide +kernel
theorem dX3_merge_93 : decode cX3_merge 93 = .ok (.getfield 187, 3) := by decide +kernel
theorem dX3_merge_96 : decode cX3_merge 96 = .ok (.invokestatic 190, 3) := by decide +kernel
theorem dX3_merge_99 : decode cX3_merge 99 = .ok (.putfield 187, 3) := by decide +kernel
theorem dX3_merge_102 : decode cX3_merge 102 = .ok (.aload 4, 2) := by decide +kernel
theorem dX3_merge_104 : decode cX3_merge 104 = .ok (.dup, 1) := by decide +kernel
theorem dX3_merge_105 : decode cX3_merge 105 = .ok (.getfield 193, 3) := by decide +kernel
theorem dX3_merge_108 : decode cX3_merge 108 = .ok (.aload_n 3, 1) := by decide +kernel
theorem dX3_merge_109 : decode cX3_merge 109 = .ok (.getfield 193, 3) := by decide +kernel
theorem dX3_merge_112 : decode cX3_merge 112 = .ok (.ior, 1) := by decide +kernel
theorem dX3_merge_113 : decode cX3_merge 113 = .ok (.putfield 193, 3) := by decide +kernel
theorem dX3_merge_116 : decode cX3_merge 116 = .ok (.aload 4, 2) := by decide +kernel
theorem dX3_merge_118 : decode cX3_merge 118 = .ok (.getfield 193, 3) := by decide +kernel
theorem dX3_merge_121 : decode cX3_merge 121 = .ok (.ireturn, 1) := by decide +kernel
theorem dX3_reopen_0 : decode cX3_reopen 0 = .ok (.aload_n 0, 1) := by decide +kernel
theorem dX3_reopen_1 : decode cX3_reopen 1 = .ok (.iload_n 1, 1) := by decide +kernel
theorem dX3_reopen_2 : decode cX3_reopen 2 = .ok (.invokevirtual 143, 3) := by decide +kernel
theorem dX3_reopen_5 : decode cX3_reopen 5 = .ok (.astore_n 3, 1) := by decide +kernel
theorem dX3_reopen_6 : decode cX3_reopen 6 = .ok (.iload_n 2, 1) := by decide +kernel
theorem dX3_reopen_7 : decode cX3_reopen 7 = .ok (.iconst 1, 1) := by decide +kernel
theorem dX3_reopen_8 : decode cX3_reopen 8 = .ok (.if_icmp .lt 10, 3) := by decide +kernel
theorem dX3_reopen_11 : decode cX3_reopen 11 = .ok (.iload_n 2, 1) := by decide +kernel
theorem dX3_reopen_12 : decode cX3_reopen 12 = .ok (.sipush 300, 3) := by decide +kernel
theorem dX3_reopen_15 : decode cX3_reopen 15 = .ok (.if_icmp .le 13, 3) := by decide +kernel
theorem dX3_reopen_18 : decode cX3_reopen 18 = .ok (.new 41, 3) := by decide +kernel
theorem dX3_reopen_21 : decode cX3_reopen 21 = .ok (.dup, 1) := by decide +kernel
theorem dX3_reopen_22 : decode cX3_reopen 22 = .ok (.ldc 196, 2) := by decide +kernel
theorem dX3_reopen_24 : decode cX3_reopen 24 = .ok (.invokespecial 45, 3) := by decide +kernel
theorem dX3_reopen_27 : decode cX3_reopen 27 = .ok (.athrow, 1) := by decide +kernel
theorem dX3_reopen_28 : decode cX3_reopen 28 = .ok (.aload_n 3, 1) := by decide +kernel
theorem dX3_reopen_29 : decode cX3_reopen 29 = .ok (.getfield 147, 3) := by decide +kernel
theorem dX3_reopen_32 : decode cX3_reopen 32 = .ok (.iconst 3, 1) := by decide +kernel
theorem dX3_reopen_33 : decode cX3_reopen 33 = .ok (.if_icmp .ne 18, 3) := by decide +kernel
theorem dX3_reopen_36 : decode cX3_reopen 36 = .ok (.aload_n 0, 1) := by decide +kernel
theorem dX3_reopen_37 : decode cX3_reopen 37 = .ok (.getfield 33, 3) := by decide +kernel
theorem dX3_reopen_40 : decode cX3_reopen 40 = .ok (.aload_n 3, 1) := by decide +kernel
theorem dX3_reopen_41 : decode cX3_reopen 41 = .ok (.getfield 198, 3) := by decide +kernel
theorem dX3_reopen_44 : decode cX3_reopen 44 = .ok (.isub, 1) := by decide +kernel
theorem dX3_reopen_45 : decode cX3_reopen 45 = .ok (.sipush 7200, 3) := by decide +kernel
theorem dX3_reopen_48 : decode cX3_reopen 48 = .ok (.if_icmp .lt 13, 3) := by decide +kernel
theorem dX3_reopen_51 : decode cX3_reopen 51 = .ok (.new 81, 3) := by decide +kernel
theorem dX3_reopen_54 : decode cX3_reopen 54 = .ok (.dup, 1) := by decide +kernel
theorem dX3_reopen_55 : decode cX3_reopen 55 = .ok (.ldc 201, 2) := by decide +kernel
theorem dX3_reopen_57 : decode cX3_reopen 57 = .ok (.invokespecial 85, 3) := by decide +kernel
theorem dX3_reopen_60 : decode cX3_reopen 60 = .ok (.athrow, 1) := by decide +kernel
theorem dX3_reopen_61 : decode cX3_reopen 61 = .ok (.aload_n 3, 1) := by decide +kernel
theorem dX3_reopen_62 : decode cX3_reopen 62 = .ok (.iconst 0, 1) := by decide +kernel
theorem dX3_reopen_63 : decode cX3_reopen 63 = .ok (.putfield 147, 3) := by decide +kernel
theorem dX3_reopen_66 : decode cX3_reopen 66 = .ok (.aload_n 3, 1) := by decide +kernel
theorem dX3_reopen_67 : decode cX3_reopen 67 = .ok (.dup, 1) := by decide +kernel
theorem dX3_reopen_68 : decode cX3_reopen 68 = .ok (.getfield 163, 3) := by decide +kernel
theorem dX3_reopen_71 : decode cX3_reopen 71 = .ok (.iload_n 2, 1) := by decide +kernel
theorem dX3_reopen_72 : decode cX3_reopen 72 = .ok (.iadd, 1) := by decide +kernel
theorem dX3_reopen_73 : decode cX3_reopen 73 = .ok (.putfield 163, 3) := by decide +kernel
theorem dX3_reopen_76 : decode cX3_reopen 76 = .ok (.aload_n 3, 1) := by decide +kernel
theorem dX3_reopen_77 : decode cX3_reopen 77 = .ok (.dup, 1) := by decide +kernel
theorem dX3_reopen_78 : decode cX3_reopen 78 = .ok (.getfield 203, 3) := by decide +kernel
theorem dX3_reopen_81 : decode cX3_reopen 81 = .ok (.iconst 1, 1) := by decide +kernel
theorem dX3_reopen_82 : decode cX3_reopen 82 = .ok (.iadd, 1) := by decide +kernel
theorem dX3_reopen_83 : decode cX3_reopen 83 = .ok (.putfield 203, 3) := by decide +kernel
theorem dX3_reopen_86 : decode cX3_reopen 86 = .ok (.aload_n 3, 1) := by decide +kernel
theorem dX3_reopen_87 : decode cX3_reopen 87 = .ok (.getfield 163, 3) := by decide +kernel
theorem dX3_reopen_90 : decode cX3_reopen 90 = .ok (.ireturn, 1) := by decide +kernel
theorem dX3_ticketCount_0 : decode cX3_ticketCount 0 = .ok (.aload_n 0, 1) := by decide +kernel
theorem dX3_ticketCount_1 : decode cX3_ticketCount 1 = .ok (.getfield 30, 3) := by decide +kernel
theorem dX3_ticketCount_4 : decode cX3_ticketCount 4 = .ok (.invokevirtual 77, 3) := by decide +kernel
theorem dX3_ticketCount_7 : decode cX3_ticketCount 7 = .ok (.ireturn, 1) := by decide +kernel
theorem dX3_ticket_0 : decode cX3_ticket 0 = .ok (.aload_n 0, 1) := by decide +kernel
theorem dX3_ticket_1 : decode cX3_ticket 1 = .ok (.iload_n 1, 1) := by decide +kernel
theorem dX3_ticket_2 : decode cX3_ticket 2 = .ok (.invokevirtual 143, 3) := by decide +kernel
theorem dX3_ticket_5 : decode cX3_ticket 5 = .ok (.astore_n 3, 1) := by decide +kernel
theorem dX3_ticket_6 : decode cX3_ticket 6 = .ok (.iload_n 2, 1) := by decide +kernel
theorem dX3_ticket_7 : decode cX3_ticket 7 = .ok (.ifCond .lt 9, 3) := by decide +kernel
theorem dX3_ticket_10 : decode cX3_ticket 10 = .ok (.iload_n 2, 1) := by decide +kernel
theorem dX3_ticket_11 : decode cX3_ticket 11 = .ok (.bipush 8, 2) := by decide +kernel
theorem dX3_ticket_13 : decode cX3_ticket 13 = .ok (.if_icmp .lt 13, 3) := by decide +kernel
theorem dX3_ticket_16 : decode cX3_ticket 16 = .ok (.new 58, 3) := by decide +kernel
theorem dX3_ticket_19 : decode cX3_ticket 19 = .ok (.dup, 1) := by decide +kernel
theorem dX3_ticket_20 : decode cX3_ticket 20 = .ok (.ldc 206, 2) := by decide +kernel
theorem dX3_ticket_22 : decode cX3_ticket 22 = .ok (.invokespecial 62, 3) := by decide +kernel
theorem dX3_ticket_25 : decode cX3_ticket 25 = .ok (.athrow, 1) := by decide +kernel
theorem dX3_ticket_26 : decode cX3_ticket 26 = .ok (.aload_n 3, 1) := by decide +kernel
theorem dX3_ticket_27 : decode cX3_ticket 27 = .ok (.iload_n 2, 1) := by decide +kernel
theorem dX3_ticket_28 : decode cX3_ticket 28 = .ok (.invokestatic 208, 3) := by decide +kernel
theorem dX3_ticket_31 : decode cX3_ticket 31 = .ok (.ireturn, 1) := by decide +kernel
theorem dX3_main_0 : decode cX3_main 0 = .ok (.aload_n 0, 1) := by decide +kernel
theorem dX3_main_1 : decode cX3_main 1 = .ok (.iload_n 1, 1) := by decide +kernel
theorem dX3_main_2 : decode cX3_main 2 = .ok (.invokevirtual 143, 3) := by decide +kernel
theorem dX3_main_5 : decode cX3_main 5 = .ok (.invokestatic 212, 3) := by decide +kernel
theorem dX3_main_8 : decode cX3_main 8 = .ok (.getfield 142, 3) := by decide +kernel
theorem dX3_main_11 : decode cX3_main 11 = .ok (.ireturn, 1) := by decide +kernel
theorem dX3_customers_0 : decode cX3_customers 0 = .ok (.aload_n 0, 1) := by decide +kernel
theorem dX3_customers_1 : decode cX3_customers 1 = .ok (.iload_n 1, 1) := by decide +kernel
theorem dX3_customers_2 : decode cX3_customers 2 = .ok (.invokevirtual 143, 3) := by decide +kernel
theorem dX3_customers_5 : decode cX3_customers 5 = .ok (.getfield 193, 3) := by decide +kernel
theorem dX3_customers_8 : decode cX3_customers 8 = .ok (.ireturn, 1) := by decide +kernel
theorem dX3_due_0 : decode cX3_due 0 = .ok (.aload_n 0, 1) := by decide +kernel
theorem dX3_due_1 : decode cX3_due 1 = .ok (.iload_n 1, 1) := by decide +kernel
theorem dX3_due_2 : decode cX3_due 2 = .ok (.invokevirtual 143, 3) := by decide +kernel
theorem dX3_due_5 : decode cX3_due 5 = .ok (.astore_n 2, 1) := by decide +kernel
theorem dX3_due_6 : decode cX3_due 6 = .ok (.aload_n 0, 1) := by decide +kernel
theorem dX3_due_7 : decode cX3_due 7 = .ok (.aload_n 2, 1) := by decide +kernel
theorem dX3_due_8 : decode cX3_due 8 = .ok (.invokevirtual 216, 3) := by decide +kernel
theorem dX3_due_11 : decode cX3_due 11 = .ok (.istore_n 3, 1) := by decide +kernel
theorem dX3_due_12 : decode cX3_due 12 = .ok (.aload_n 2, 1) := by decide +kernel
theorem dX3_due_13 : decode cX3_due 13 = .ok (.getfield 147, 3) := by decide +kernel
theorem dX3_due_16 : decode cX3_due 16 = .ok (.iconst 4, 1) := by decide +kernel
theorem dX3_due_17 : decode cX3_due 17 = .ok (.if_icmp .eq 7, 3) := by decide +kernel
theorem dX3_due_20 : decode cX3_due 20 = .ok (.iload_n 3, 1) := by decide +kernel
theorem dX3_due_21 : decode cX3_due 21 = .ok (.ifCond .ge 5, 3) := by decide +kernel
theorem dX3_due_24 : decode cX3_due 24 = .ok (.iconst (-1), 1) := by decide +kernel
theorem dX3_due_25 : decode cX3_due 25 = .ok (.ireturn, 1) := by decide +kernel
theorem dX3_due_26 : decode cX3_due 26 = .ok (.aload_n 0, 1) := by decide +kernel
theorem dX3_due_27 : decode cX3_due 27 = .ok (.getfield 10, 3) := by decide +kernel
theorem dX3_due_30 : decode cX3_due 30 = .ok (.aload_n 0, 1) := by decide +kernel
theorem dX3_due_31 : decode cX3_due 31 = .ok (.getfield 33, 3) := by decide +kernel
theorem dX3_due_34 : decode cX3_due 34 = .ok (.iload_n 3, 1) := by decide +kernel
theorem dX3_due_35 : decode cX3_due 35 = .ok (.iconst 1, 1) := by decide +kernel
theorem dX3_due_36 : decode cX3_due 36 = .ok (.iadd, 1) := by decide +kernel
theorem dX3_due_37 : decode cX3_due 37 = .ok (.invokevirtual 219, 3) := by decide +kernel
theorem dX3_due_40 : decode cX3_due 40 = .ok (.ireturn, 1) := by decide +kernel
theorem dX3_pass_0 : decode cX3_pass 0 = .ok (.iload_n 1, 1) := by decide +kernel
theorem dX3_pass_1 : decode cX3_pass 1 = .ok (.iconst 1, 1) := by decide +kernel
theorem dX3_pass_2 : decode cX3_pass 2 = .ok (.if_icmp .lt 10, 3) := by decide +kernel
theorem dX3_pass_5 : decode cX3_pass 5 = .ok (.iload_n 1, 1) := by decide +kernel
theorem dX3_pass_6 : decode cX3_pass 6 = .ok (.sipush 600, 3) := by decide +kernel
theorem dX3_pass_9 : decode cX3_pass 9 = .ok (.if_icmp .le 13, 3) := by decide +kernel
theorem dX3_pass_12 : decode cX3_pass 12 = .ok (.new 41, 3) := by decide +kernel
theorem dX3_pass_15 : decode cX3_pass 15 = .ok (.dup, 1) := by decide +kernel
theorem dX3_pass_16 : decode cX3_pass 16 = .ok (.ldc 222, 2) := by decide +kernel
theorem dX3_pass_18 : decode cX3_pass 18 = .ok (.invokespecial 45, 3) := by decide +kernel
theorem dX3_pass_21 : decode cX3_pass 21 = .ok (.athrow, 1) := by decide +kernel
theorem dX3_pass_22 : decode cX3_pass 22 = .ok (.iload_n 1, 1) := by decide +kernel
theorem dX3_pass_23 : decode cX3_pass 23 = .ok (.ldc 65, 2) := by decide +kernel
theorem dX3_pass_25 : decode cX3_pass 25 = .ok (.aload_n 0, 1) := by decide +kernel
theorem dX3_pass_26 : decode cX3_pass 26 = .ok (.getfield 33, 3) := by decide +kernel
theorem dX3_pass_29 : decode cX3_pass 29 = .ok (.isub, 1) := by decide +kernel
theorem dX3_pass_30 : decode cX3_pass 30 = .ok (.if_icmp .le 13, 3) := by decide +kernel
theorem dX3_pass_33 : decode cX3_pass 33 = .ok (.new 81, 3) := by decide +kernel
theorem dX3_pass_36 : decode cX3_pass 36 = .ok (.dup, 1) := by decide +kernel
theorem dX3_pass_37 : decode cX3_pass 37 = .ok (.ldc 224, 2) := by decide +kernel
theorem dX3_pass_39 : decode cX3_pass 39 = .ok (.invokespecial 85, 3) := by decide +kernel
theorem dX3_pass_42 : decode cX3_pass 42 = .ok (.athrow, 1) := by decide +kernel
theorem dX3_pass_43 : decode cX3_pass 43 = .ok (.iconst 0, 1) := by decide +kernel
theorem dX3_pass_44 : decode cX3_pass 44 = .ok (.istore_n 2, 1) := by decide +kernel
theorem dX3_pass_45 : decode cX3_pass 45 = .ok (.iconst 0, 1) := by decide +kernel
theorem dX3_pass_46 : decode cX3_pass 46 = .ok (.istore_n 3, 1) := by decide +kernel
theorem dX3_pass_47 : decode cX3_pass 47 = .ok (.iload_n 3, 1) := by decide +kernel
theorem dX3_pass_48 : decode cX3_pass 48 = .ok (.iload_n 1, 1) := by decide +kernel
theorem dX3_pass_49 : decode cX3_pass 49 = .ok (.if_icmp .ge 16, 3) := by decide +kernel
theorem dX3_pass_52 : decode cX3_pass 52 = .ok (.iload_n 2, 1) := by decide +kernel
theorem dX3_pass_53 : decode cX3_pass 53 = .ok (.aload_n 0, 1) := by decide +kernel
theorem dX3_pass_54 : decode cX3_pass 54 = .ok (.invokevirtual 226, 3) := by decide +kernel
theorem dX3_pass_57 : decode cX3_pass 57 = .ok (.iadd, 1) := by decide +kernel
theorem dX3_pass_58 : decode cX3_pass 58 = .ok (.istore_n 2, 1) := by decide +kernel
theorem dX3_pass_59 : decode cX3_pass 59 = .ok (.iinc 3 1, 3) := by decide +kernel
theorem dX3_pass_62 : decode cX3_pass 62 = .ok (.goto (-15), 3) := by decide +kernel
theorem dX3_pass_65 : decode cX3_pass 65 = .ok (.iload_n 2, 1) := by decide +kernel
theorem dX3_pass_66 : decode cX3_pass 66 = .ok (.ireturn, 1) := by decide +kernel
theorem dX3_all_0 : decode cX3_all 0 = .ok (.iload_n 1, 1) := by decide +kernel
theorem dX3_all_1 : decode cX3_all 1 = .ok (.ifCond .lt 8, 3) := by decide +kernel
theorem dX3_all_4 : decode cX3_all 4 = .ok (.iload_n 1, 1) := by decide +kernel
theorem dX3_all_5 : decode cX3_all 5 = .ok (.iconst 4, 1) := by decide +kernel
theorem dX3_all_6 : decode cX3_all 6 = .ok (.if_icmp .le 13, 3) := by decide +kernel
theorem dX3_all_9 : decode cX3_all 9 = .ok (.new 58, 3) := by decide +kernel
theorem dX3_all_12 : decode cX3_all 12 = .ok (.dup, 1) := by decide +kernel
theorem dX3_all_13 : decode cX3_all 13 = .ok (.ldc 229, 2) := by decide +kernel
theorem dX3_all_15 : decode cX3_all 15 = .ok (.invokespecial 62, 3) := by decide +kernel
theorem dX3_all_18 : decode cX3_all 18 = .ok (.athrow, 1) := by decide +kernel
theorem dX3_all_19 : decode cX3_all 19 = .ok (.iconst 0, 1) := by decide +kernel
theorem dX3_all_20 : decode cX3_all 20 = .ok (.istore_n 2, 1) := by decide +kernel
theorem dX3_all_21 : decode cX3_all 21 = .ok (.iconst 0, 1) := by decide +kernel
theorem dX3_all_22 : decode cX3_all 22 = .ok (.istore_n 3, 1) := by decide +kernel
theorem dX3_all_23 : decode cX3_all 23 = .ok (.iload_n 3, 1) := by decide +kernel
theorem dX3_all_24 : decode cX3_all 24 = .ok (.aload_n 0, 1) := by decide +kernel
theorem dX3_all_25 : decode cX3_all 25 = .ok (.getfield 30, 3) := by decide +kernel
theorem dX3_all_28 : decode cX3_all 28 = .ok (.invokevirtual 77, 3) := by decide +kernel
theorem dX3_all_31 : decode cX3_all 31 = .ok (.if_icmp .ge 33, 3) := by decide +kernel
theorem dX3_all_34 : decode cX3_all 34 = .ok (.aload_n 0, 1) := by decide +kernel
theorem dX3_all_35 : decode cX3_all 35 = .ok (.getfield 30, 3) := by decide +kernel
theorem dX3_all_38 : decode cX3_all 38 = .ok (.iload_n 3, 1) := by decide +kernel
theorem dX3_all_39 : decode cX3_all 39 = .ok (.invokevirtual 231, 3) := by decide +kernel
theorem dX3_all_42 : decode cX3_all 42 = .ok (.checkcast 112, 3) := by decide +kernel
theorem dX3_all_45 : decode cX3_all 45 = .ok (.getfield 147, 3) := by decide +kernel
theorem dX3_all_48 : decode cX3_all 48 = .ok (.iload_n 1, 1) := by decide +kernel
theorem dX3_all_49 : decode cX3_all 49 = .ok (.if_icmp .ne 9, 3) := by decide +kernel
theorem dX3_all_52 : decode cX3_all 52 = .ok (.iload_n 2, 1) := by decide +kernel
theorem dX3_all_53 : decode cX3_all 53 = .ok (.iconst 1, 1) := by decide +kernel
theorem dX3_all_54 : decode cX3_all 54 = .ok (.iload_n 3, 1) := by decide +kernel
theorem dX3_all_55 : decode cX3_all 55 = .ok (.ishl, 1) := by decide +kernel
theorem dX3_all_56 : decode cX3_all 56 = .ok (.ior, 1) := by decide +kernel
theorem dX3_all_57 : decode cX3_all 57 = .ok (.istore_n 2, 1) := by decide +kernel
theorem dX3_all_58 : decode cX3_all 58 = .ok (.iinc 3 1, 3) := by decide +kernel
theorem dX3_all_61 : decode cX3_all 61 = .ok (.goto (-38), 3) := by decide +kernel
theorem dX3_all_64 : decode cX3_all 64 = .ok (.iload_n 2, 1) := by decide +kernel
theorem dX3_all_65 : decode cX3_all 65 = .ok (.ireturn, 1) := by decide +kernel
theorem dX3_broken_0 : decode cX3_broken 0 = .ok (.iconst 0, 1) := by decide +kernel
theorem dX3_broken_1 : decode cX3_broken 1 = .ok (.istore_n 2, 1) := by decide +kernel
theorem dX3_broken_2 : decode cX3_broken 2 = .ok (.iconst 0, 1) := by decide +kernel
theorem dX3_broken_3 : decode cX3_broken 3 = .ok (.istore_n 3, 1) := by decide +kernel
theorem dX3_broken_4 : decode cX3_broken 4 = .ok (.iload_n 3, 1) := by decide +kernel
theorem dX3_broken_5 : decode cX3_broken 5 = .ok (.aload_n 0, 1) := by decide +kernel
theorem dX3_broken_6 : decode cX3_broken 6 = .ok (.getfield 30, 3) := by decide +kernel
theorem dX3_broken_9 : decode cX3_broken 9 = .ok (.invokevirtual 77, 3) := by decide +kernel
theorem dX3_broken_12 : decode cX3_broken 12 = .ok (.if_icmp .ge 53, 3) := by decide +kernel
theorem dX3_broken_15 : decode cX3_broken 15 = .ok (.aload_n 0, 1) := by decide +kernel
theorem dX3_broken_16 : decode cX3_broken 16 = .ok (.getfield 30, 3) := by decide +kernel
theorem dX3_broken_19 : decode cX3_broken 19 = .ok (.iload_n 3, 1) := by decide +kernel
theorem dX3_broken_20 : decode cX3_broken 20 = .ok (.invokevirtual 231, 3) := by decide +kernel
theorem dX3_broken_23 : decode cX3_broken 23 = .ok (.checkcast 112, 3) := by decide +kernel
theorem dX3_broken_26 : decode cX3_broken 26 = .ok (.astore 4, 2) := by decide +kernel
theorem dX3_broken_28 : decode cX3_broken 28 = .ok (.iload_n 1, 1) := by decide +kernel
theorem dX3_broken_29 : decode cX3_broken 29 = .ok (.ifCond .eq 15, 3) := by decide +kernel
theorem dX3_broken_32 : decode cX3_broken 32 = .ok (.aload_n 0, 1) := by decide +kernel
theorem dX3_broken_33 : decode cX3_broken 33 = .ok (.aload 4, 2) := by decide +kernel
theorem dX3_broken_35 : decode cX3_broken 35 = .ok (.invokevirtual 235, 3) := by decide +kernel
theorem dX3_broken_38 : decode cX3_broken 38 = .ok (.ifCond .eq 21, 3) := by decide +kernel
theorem dX3_broken_41 : decode cX3_broken 41 = .ok (.goto 12, 3) := by decide +kernel
theorem dX3_broken_44 : decode cX3_broken 44 = .ok (.aload_n 0, 1) := by decide +kernel
theorem dX3_broken_45 : decode cX3_broken 45 = .ok (.aload 4, 2) := by decide +kernel
theorem dX3_broken_47 : decode cX3_broken 47 = .ok (.invokevirtual 239, 3) := by decide +kernel
theorem dX3_broken_50 : decode cX3_broken 50 = .ok (.ifCond .eq 9, 3) := by decide +kernel
theorem dX3_broken_53 : decode cX3_broken 53 = .ok (.iload_n 2, 1) := by decide +kernel
theorem dX3_broken_54 : decode cX3_broken 54 = .ok (.iconst 1, 1) := by decide +kernel
theorem dX3_broken_55 : decode cX3_broken 55 = .ok (.iload_n 3, 1) := by decide +kernel
theorem dX3_broken_56 : decode cX3_broken 56 = .ok (.ishl, 1) := by decide +kernel
theorem dX3_broken_57 : decode cX3_broken 57 = .ok (.ior, 1) := by decide +kernel
theorem dX3_broken_58 : decode cX3_broken 58 = .ok (.istore_n 2, 1) := by decide +kernel
theorem dX3_broken_59 : decode cX3_broken 59 = .ok (.iinc 3 1, 3) := by decide +kernel
theorem dX3_broken_62 : decode cX3_broken 62 = .ok (.goto (-58), 3) := by decide +kernel
theorem dX3_broken_65 : decode cX3_broken 65 = .ok (.iload_n 2, 1) := by decide +kernel
theorem dX3_broken_66 : decode cX3_broken 66 = .ok (.ireturn, 1) := by decide +kernel
theorem dX3_lacking_0 : decode cX3_lacking 0 = .ok (.iconst 0, 1) := by decide +kernel
theorem dX3_lacking_1 : decode cX3_lacking 1 = .ok (.istore_n 1, 1) := by decide +kernel
theorem dX3_lacking_2 : decode cX3_lacking 2 = .ok (.iconst 0, 1) := by decide +kernel
theorem dX3_lacking_3 : decode cX3_lacking 3 = .ok (.istore_n 2, 1) := by decide +kernel
theorem dX3_lacking_4 : decode cX3_lacking 4 = .ok (.iload_n 2, 1) := by decide +kernel
theorem dX3_lacking_5 : decode cX3_lacking 5 = .ok (.aload_n 0, 1) := by decide +kernel
theorem dX3_lacking_6 : decode cX3_lacking 6 = .ok (.getfield 30, 3) := by decide +kernel
theorem dX3_lacking_9 : decode cX3_lacking 9 = .ok (.invokevirtual 77, 3) := by decide +kernel
theorem dX3_lacking_12 : decode cX3_lacking 12 = .ok (.if_icmp .ge 37, 3) := by decide +kernel
theorem dX3_lacking_15 : decode cX3_lacking 15 = .ok (.aload_n 0, 1) := by decide +kernel
theorem dX3_lacking_16 : decode cX3_lacking 16 = .ok (.getfield 30, 3) := by decide +kernel
theorem dX3_lacking_19 : decode cX3_lacking 19 = .ok (.iload_n 2, 1) := by decide +kernel
theorem dX3_lacking_20 : decode cX3_lacking 20 = .ok (.invokevirtual 231, 3) := by decide +kernel
theorem dX3_lacking_23 : decode cX3_lacking 23 = .ok (.checkcast 112, 3) := by decide +kernel
theorem dX3_lacking_26 : decode cX3_lacking 26 = .ok (.astore_n 3, 1) := by decide +kernel
theorem dX3_lacking_27 : decode cX3_lacking 27 = .ok (.aload_n 3, 1) := by decide +kernel
theorem dX3_lacking_28 : decode cX3_lacking 28 = .ok (.invokevirtual 173, 3) := by decide +kernel
theorem dX3_lacking_31 : decode cX3_lacking 31 = .ok (.ifCond .eq 12, 3) := by decide +kernel
theorem dX3_lacking_34 : decode cX3_lacking 34 = .ok (.iload_n 1, 1) := by decide +kernel
theorem dX3_lacking_35 : decode cX3_lacking 35 = .ok (.iconst 1, 1) := by decide +kernel
theorem dX3_lacking_36 : decode cX3_lacking 36 = .ok (.aload_n 3, 1) := by decide +kernel
theorem dX3_lacking_37 : decode cX3_lacking 37 = .ok (.getfield 111, 3) := by decide +kernel
theorem dX3_lacking_40 : decode cX3_lacking 40 = .ok (.ishl, 1) := by decide +kernel
theorem dX3_lacking_41 : decode cX3_lacking 41 = .ok (.ior, 1) := by decide +kernel
theorem dX3_lacking_42 : decode cX3_lacking 42 = .ok (.istore_n 1, 1) := by decide +kernel
theorem dX3_lacking_43 : decode cX3_lacking 43 = .ok (.iinc 2 1, 3) := by decide +kernel
theorem dX3_lacking_46 : decode cX3_lacking 46 = .ok (.goto (-42), 3) := by decide +kernel
theorem dX3_lacking_49 : decode cX3_lacking 49 = .ok (.iconst 0, 1) := by decide +kernel
theorem dX3_lacking_50 : decode cX3_lacking 50 = .ok (.istore_n 2, 1) := by decide +kernel
theorem dX3_lacking_51 : decode cX3_lacking 51 = .ok (.iconst 0, 1) := by decide +kernel
theorem dX3_lacking_52 : decode cX3_lacking 52 = .ok (.istore_n 3, 1) := by decide +kernel
theorem dX3_lacking_53 : decode cX3_lacking 53 = .ok (.iload_n 3, 1) := by decide +kernel
theorem dX3_lacking_54 : decode cX3_lacking 54 = .ok (.aload_n 0, 1) := by decide +kernel
theorem dX3_lacking_55 : decode cX3_lacking 55 = .ok (.getfield 26, 3) := by decide +kernel
theorem dX3_lacking_58 : decode cX3_lacking 58 = .ok (.invokevirtual 77, 3) := by decide +kernel
theorem dX3_lacking_61 : decode cX3_lacking 61 = .ok (.if_icmp .ge 26, 3) := by decide +kernel
theorem dX3_lacking_64 : decode cX3_lacking 64 = .ok (.iload_n 2, 1) := by decide +kernel
theorem dX3_lacking_65 : decode cX3_lacking 65 = .ok (.aload_n 0, 1) := by decide +kernel
theorem dX3_lacking_66 : decode cX3_lacking 66 = .ok (.getfield 26, 3) := by decide +kernel
theorem dX3_lacking_69 : decode cX3_lacking 69 = .ok (.iload_n 3, 1) := by decide +kernel
theorem dX3_lacking_70 : decode cX3_lacking 70 = .ok (.invokevirtual 231, 3) := by decide +kernel
theorem dX3_lacking_73 : decode cX3_lacking 73 = .ok (.checkcast 86, 3) := by decide +kernel
theorem dX3_lacking_76 : decode cX3_lacking 76 = .ok (.getfield 104, 3) := by decide +kernel
theorem dX3_lacking_79 : decode cX3_lacking 79 = .ok (.ior, 1) := by decide +kernel
theorem dX3_lacking_80 : decode cX3_lacking 80 = .ok (.istore_n 2, 1) := by decide +kernel
theorem dX3_lacking_81 : decode cX3_lacking 81 = .ok (.iinc 3 1, 3) := by decide +kernel
theorem dX3_lacking_84 : decode cX3_lacking 84 = .ok (.goto (-31), 3) := by decide +kernel
theorem dX3_lacking_87 : decode cX3_lacking 87 = .ok (.iload_n 1, 1) := by decide +kernel
theorem dX3_lacking_88 : decode cX3_lacking 88 = .ok (.iload_n 2, 1) := by decide +kernel
theorem dX3_lacking_89 : decode cX3_lacking 89 = .ok (.iconst (-1), 1) := by decide +kernel
theorem dX3_lacking_90 : decode cX3_lacking 90 = .ok (.ixor, 1) := by decide +kernel
theorem dX3_lacking_91 : decode cX3_lacking 91 = .ok (.iand, 1) := by decide +kernel
theorem dX3_lacking_92 : decode cX3_lacking 92 = .ok (.ireturn, 1) := by decide +kernel
theorem dX3_success_0 : decode cX3_success 0 = .ok (.iconst 0, 1) := by decide +kernel
theorem dX3_success_1 : decode cX3_success 1 = .ok (.istore_n 1, 1) := by decide +kernel
theorem dX3_success_2 : decode cX3_success 2 = .ok (.iconst 0, 1) := by decide +kernel
theorem dX3_success_3 : decode cX3_success 3 = .ok (.istore_n 2, 1) := by decide +kernel
theorem dX3_success_4 : decode cX3_success 4 = .ok (.iconst 0, 1) := by decide +kernel
theorem dX3_success_5 : decode cX3_success 5 = .ok (.istore_n 3, 1) := by decide +kernel
theorem dX3_success_6 : decode cX3_success 6 = .ok (.iload_n 3, 1) := by decide +kernel
theorem dX3_success_7 : decode cX3_success 7 = .ok (.aload_n 0, 1) := by decide +kernel
theorem dX3_success_8 : decode cX3_success 8 = .ok (.getfield 30, 3) := by decide +kernel
theorem dX3_success_11 : decode cX3_success 11 = .ok (.invokevirtual 77, 3) := by decide +kernel
theorem dX3_success_14 : decode cX3_success 14 = .ok (.if_icmp .ge 46, 3) := by decide +kernel
theorem dX3_success_17 : decode cX3_success 17 = .ok (.aload_n 0, 1) := by decide +kernel
theorem dX3_success_18 : decode cX3_success 18 = .ok (.getfield 30, 3) := by decide +kernel
theorem dX3_success_21 : decode cX3_success 21 = .ok (.iload_n 3, 1) := by decide +kernel
theorem dX3_success_22 : decode cX3_success 22 = .ok (.invokevirtual 231, 3) := by decide +kernel
theorem dX3_success_25 : decode cX3_success 25 = .ok (.checkcast 112, 3) := by decide +kernel
theorem dX3_success_28 : decode cX3_success 28 = .ok (.astore 4, 2) := by decide +kernel
theorem dX3_success_30 : decode cX3_success 30 = .ok (.aload 4, 2) := by decide +kernel
theorem dX3_success_32 : decode cX3_success 32 = .ok (.getfield 147, 3) := by decide +kernel
theorem dX3_success_35 : decode cX3_success 35 = .ok (.iconst 3, 1) := by decide +kernel
theorem dX3_success_36 : decode cX3_success 36 = .ok (.if_icmp .ne 18, 3) := by decide +kernel
theorem dX3_success_39 : decode cX3_success 39 = .ok (.iinc 1 1, 3) := by decide +kernel
theorem dX3_success_42 : decode cX3_success 42 = .ok (.aload_n 0, 1) := by decide +kernel
theorem dX3_success_43 : decode cX3_success 43 = .ok (.aload 4, 2) := by decide +kernel
theorem dX3_success_45 : decode cX3_success 45 = .ok (.invokevirtual 239, 3) := by decide +kernel
theorem dX3_success_48 : decode cX3_success 48 = .ok (.ifCond .ne 6, 3) := by decide +kernel
theorem dX3_success_51 : decode cX3_success 51 = .ok (.iinc 2 1, 3) := by decide +kernel
theorem dX3_success_54 : decode cX3_success 54 = .ok (.iinc 3 1, 3) := by decide +kernel
theorem dX3_success_57 : decode cX3_success 57 = .ok (.goto (-51), 3) := by decide +kernel
theorem dX3_success_60 : decode cX3_success 60 = .ok (.iload_n 1, 1) := by decide +kernel
theorem dX3_success_61 : decode cX3_success 61 = .ok (.ifCond .ne 7, 3) := by decide +kernel
theorem dX3_success_64 : decode cX3_success 64 = .ok (.dconst 1, 1) := by decide +kernel
theorem dX3_success_65 : decode cX3_success 65 = .ok (.goto 8, 3) := by decide +kernel
theorem dX3_success_68 : decode cX3_success 68 = .ok (.iload_n 2, 1) := by decide +kernel
theorem dX3_success_69 : decode cX3_success 69 = .ok (.i2d, 1) := by decide +kernel
theorem dX3_success_70 : decode cX3_success 70 = .ok (.iload_n 1, 1) := by decide +kernel
theorem dX3_success_71 : decode cX3_success 71 = .ok (.i2d, 1) := by decide +kernel
theorem dX3_success_72 : decode cX3_success 72 = .ok (.ddiv, 1) := by decide +kernel
theorem dX3_success_73 : decode cX3_success 73 = .ok (.dreturn, 1) := by decide +kernel
theorem dX3_digest_0 : decode cX3_digest 0 = .ok (.ldc2_w 242, 3) := by decide +kernel
theorem dX3_digest_3 : decode cX3_digest 3 = .ok (.lstore_n 1, 1) := by decide +kernel
theorem dX3_digest_4 : decode cX3_digest 4 = .ok (.lload_n 1, 1) := by decide +kernel
theorem dX3_digest_5 : decode cX3_digest 5 = .ok (.aload_n 0, 1) := by decide +kernel
theorem dX3_digest_6 : decode cX3_digest 6 = .ok (.getfield 33, 3) := by decide +kernel
theorem dX3_digest_9 : decode cX3_digest 9 = .ok (.invokestatic 244, 3) := by decide +kernel
theorem dX3_digest_12 : decode cX3_digest 12 = .ok (.lstore_n 1, 1) := by decide +kernel
theorem dX3_digest_13 : decode cX3_digest 13 = .ok (.lload_n 1, 1) := by decide +kernel
theorem dX3_digest_14 : decode cX3_digest 14 = .ok (.aload_n 0, 1) := by decide +kernel
theorem dX3_digest_15 : decode cX3_digest 15 = .ok (.getfield 10, 3) := by decide +kernel
theorem dX3_digest_18 : decode cX3_digest 18 = .ok (.getfield 48, 3) := by decide +kernel
theorem dX3_digest_21 : decode cX3_digest 21 = .ok (.invokestatic 244, 3) := by decide +kernel
theorem dX3_digest_24 : decode cX3_digest 24 = .ok (.lstore_n 1, 1) := by decide +kernel
theorem dX3_digest_25 : decode cX3_digest 25 = .ok (.lload_n 1, 1) := by decide +kernel
theorem dX3_digest_26 : decode cX3_digest 26 = .ok (.aload_n 0, 1) := by decide +kernel
theorem dX3_digest_27 : decode cX3_digest 27 = .ok (.getfield 10, 3) := by decide +kernel
theorem dX3_digest_30 : decode cX3_digest 30 = .ok (.getfield 51, 3) := by decide +kernel
theorem dX3_digest_33 : decode cX3_digest 33 = .ok (.invokestatic 244, 3) := by decide +kernel
theorem dX3_digest_36 : decode cX3_digest 36 = .ok (.lstore_n 1, 1) := by decide +kernel
theorem dX3_digest_37 : decode cX3_digest 37 = .ok (.iconst 0, 1) := by decide +kernel
theorem dX3_digest_38 : decode cX3_digest 38 = .ok (.istore_n 3, 1) := by decide +kernel
theorem dX3_digest_39 : decode cX3_digest 39 = .ok (.iload_n 3, 1) := by decide +kernel
theorem dX3_digest_40 : decode cX3_digest 40 = .ok (.iconst 4, 1) := by decide +kernel
theorem dX3_digest_41 : decode cX3_digest 41 = .ok (.if_icmp .ge 31, 3) := by decide +kernel
theorem dX3_digest_44 : decode cX3_digest 44 = .ok (.lload_n 1, 1) := by decide +kernel
theorem dX3_digest_45 : decode cX3_digest 45 = .ok (.aload_n 0, 1) := by decide +kernel
theorem dX3_digest_46 : decode cX3_digest 46 = .ok (.getfield 16, 3) := by decide +kernel
theorem dX3_digest_49 : decode cX3_digest 49 = .ok (.iload_n 3, 1) := by decide +kernel
theorem dX3_digest_50 : decode cX3_digest 50 = .ok (.iaload, 1) := by decide +kernel
theorem dX3_digest_51 : decode cX3_digest 51 = .ok (.invokestatic 244, 3) := by decide +kernel
theorem dX3_digest_54 : decode cX3_digest 54 = .ok (.lstore_n 1, 1) := by decide +kernel
theorem dX3_digest_55 : decode cX3_digest 55 = .ok (.lload_n 1, 1) := by decide +kernel
theorem dX3_digest_56 : decode cX3_digest 56 = .ok (.aload_n 0, 1) := by decide +kernel
theorem dX3_digest_57 : decode cX3_digest 57 = .ok (.getfield 20, 3) := by decide +kernel
theorem dX3_digest_60 : decode cX3_digest 60 = .ok (.iload_n 3, 1) := by decide +kernel
theorem dX3_digest_61 : decode cX3_digest 61 = .ok (.iaload, 1) := by decide +kernel
theorem dX3_digest_62 : decode cX3_digest 62 = .ok (.invokestatic 244, 3) := by decide +kernel
theorem dX3_digest_65 : decode cX3_digest 65 = .ok (.lstore_n 1, 1) := by decide +kernel
theorem dX3_digest_66 : decode cX3_digest 66 = .ok (.iinc 3 1, 3) := by decide +kernel
theorem dX3_digest_69 : decode cX3_digest 69 = .ok (.goto (-30), 3) := by decide +kernel
theorem dX3_digest_72 : decode cX3_digest 72 = .ok (.lload_n 1, 1) := by decide +kernel
theorem dX3_digest_73 : decode cX3_digest 73 = .ok (.aload_n 0, 1) := by decide +kernel
theorem dX3_digest_74 : decode cX3_digest 74 = .ok (.getfield 26, 3) := by decide +kernel
theorem dX3_digest_77 : decode cX3_digest 77 = .ok (.invokevirtual 77, 3) := by decide +kernel
theorem dX3_digest_80 : decode cX3_digest 80 = .ok (.invokestatic 244, 3) := by decide +kernel
theorem dX3_digest_83 : decode cX3_digest 83 = .ok (.lstore_n 1, 1) := by decide +kernel
theorem dX3_digest_84 : decode cX3_digest 84 = .ok (.iconst 0, 1) := by decide +kernel
theorem dX3_digest_85 : decode cX3_digest 85 = .ok (.istore_n 3, 1) := by decide +kernel
theorem dX3_digest_86 : decode cX3_digest 86 = .ok (.iload_n 3, 1) := by decide +kernel
theorem dX3_digest_87 : decode cX3_digest 87 = .ok (.aload_n 0, 1) := by decide +kernel
theorem dX3_digest_88 : decode cX3_digest 88 = .ok (.getfield 26, 3) := by decide +kernel
theorem dX3_digest_91 : decode cX3_digest 91 = .ok (.invokevirtual 77, 3) := by decide +kernel
theorem dX3_digest_94 : decode cX3_digest 94 = .ok (.if_icmp .ge 26, 3) := by decide +kernel
theorem dX3_digest_97 : decode cX3_digest 97 = .ok (.aload_n 0, 1) := by decide +kernel
theorem dX3_digest_98 : decode cX3_digest 98 = .ok (.lload_n 1, 1) := by decide +kernel
theorem dX3_digest_99 : decode cX3_digest 99 = .ok (.aload_n 0, 1) := by decide +kernel
theorem dX3_digest_100 : decode cX3_digest 100 = .ok (.getfield 26, 3) := by decide +kernel
theorem dX3_digest_103 : decode cX3_digest 103 = .ok (.iload_n 3, 1) := by decide +kernel
theorem dX3_digest_104 : decode cX3_digest 104 = .ok (.invokevirtual 231, 3) := by decide +kernel
theorem dX3_digest_107 : decode cX3_digest 107 = .ok (.checkcast 86, 3) := by decide +kernel
theorem dX3_digest_110 : decode cX3_digest 110 = .ok (.invokevirtual 248, 3) := by decide +kernel
theorem dX3_digest_113 : decode cX3_digest 113 = .ok (.lstore_n 1, 1) := by decide +kernel
theorem dX3_digest_114 : decode cX3_digest 114 = .ok (.iinc 3 1, 3) := by decide +kernel
theorem dX3_digest_117 : decode cX3_digest 117 = .ok (.goto (-31), 3) := by decide +kernel
theorem dX3_digest_120 : decode cX3_digest 120 = .ok (.lload_n 1, 1) := by decide +kernel
theorem dX3_digest_121 : decode cX3_digest 121 = .ok (.aload_n 0, 1) := by decide +kernel
theorem dX3_digest_122 : decode cX3_digest 122 = .ok (.getfield 30, 3) := by decide +kernel
theorem dX3_digest_125 : decode cX3_digest 125 = .ok (.invokevirtual 77, 3) := by decide +kernel
theorem dX3_digest_128 : decode cX3_digest 128 = .ok (.invokestatic 244, 3) := by decide +kernel
theorem dX3_digest_131 : decode cX3_digest 131 = .ok (.lstore_n 1, 1) := by decide +kernel
theorem dX3_digest_132 : decode cX3_digest 132 = .ok (.iconst 0, 1) := by decide +kernel
theorem dX3_digest_133 : decode cX3_digest 133 = .ok (.istore_n 3, 1) := by decide +kernel
theorem dX3_digest_134 : decode cX3_digest 134 = .ok (.iload_n 3, 1) := by decide +kernel
theorem dX3_digest_135 : decode cX3_digest 135 = .ok (.aload_n 0, 1) := by decide +kernel
theorem dX3_digest_136 : decode cX3_digest 136 = .ok (.getfield 30, 3) := by decide +kernel
theorem dX3_digest_139 : decode cX3_digest 139 = .ok (.invokevirtual 77, 3) := by decide +kernel
theorem dX3_digest_142 : decode cX3_digest 142 = .ok (.if_icmp .ge 25, 3) := by decide +kernel
theorem dX3_digest_145 : decode cX3_digest 145 = .ok (.lload_n 1, 1) := by decide +kernel
theorem dX3_digest_146 : decode cX3_digest 146 = .ok (.aload_n 0, 1) := by decide +kernel
theorem dX3_digest_147 : decode cX3_digest 147 = .ok (.getfield 30, 3) := by decide +kernel
theorem dX3_digest_150 : decode cX3_digest 150 = .ok (.iload_n 3, 1) := by decide +kernel
theorem dX3_digest_151 : decode cX3_digest 151 = .ok (.invokevirtual 231, 3) := by decide +kernel
theorem dX3_digest_154 : decode cX3_digest 154 = .ok (.checkcast 112, 3) := by decide +kernel
theorem dX3_digest_157 : decode cX3_digest 157 = .ok (.invokestatic 252, 3) := by decide +kernel
theorem dX3_digest_160 : decode cX3_digest 160 = .ok (.lstore_n 1, 1) := by decide +kernel
theorem dX3_digest_161 : decode cX3_digest 161 = .ok (.iinc 3 1, 3) := by decide +kernel
theorem dX3_digest_164 : decode cX3_digest 164 = .ok (.goto (-30), 3) := by decide +kernel
theorem dX3_digest_167 : decode cX3_digest 167 = .ok (.lload_n 1, 1) := by decide +kernel
theorem dX3_digest_168 : decode cX3_digest 168 = .ok (.lreturn, 1) := by decide +kernel
theorem dX3_passMinute_0 : decode cX3_passMinute 0 = .ok (.aload_n 0, 1) := by decide +kernel
theorem dX3_passMinute_1 : decode cX3_passMinute 1 = .ok (.invokevirtual 256, 3) := by decide +kernel
theorem dX3_passMinute_4 : decode cX3_passMinute 4 = .ok (.aload_n 0, 1) := by decide +kernel
theorem dX3_passMinute_5 : decode cX3_passMinute 5 = .ok (.invokevirtual 259, 3) := by decide +kernel
theorem dX3_passMinute_8 : decode cX3_passMinute 8 = .ok (.aload_n 0, 1) := by decide +kernel
theorem dX3_passMinute_9 : decode cX3_passMinute 9 = .ok (.getfield 10, 3) := by decide +kernel
theorem dX3_passMinute_12 : decode cX3_passMinute 12 = .ok (.aload_n 0, 1) := by decide +kernel
theorem dX3_passMinute_13 : decode cX3_passMinute 13 = .ok (.getfield 33, 3) := by decide +kernel
theorem dX3_passMinute_16 : decode cX3_passMinute 16 = .ok (.invokevirtual 262, 3) := by decide +kernel
theorem dX3_passMinute_19 : decode cX3_passMinute 19 = .ok (.ifCond .eq 7, 3) := by decide +kernel
theorem dX3_passMinute_22 : decode cX3_passMinute 22 = .ok (.aload_n 0, 1) := by decide +kernel
theorem dX3_passMinute_23 : decode cX3_passMinute 23 = .ok (.invokevirtual 265, 3) := by decide +kernel
theorem dX3_passMinute_26 : decode cX3_passMinute 26 = .ok (.aload_n 0, 1) := by decide +kernel
theorem dX3_passMinute_27 : decode cX3_passMinute 27 = .ok (.invokevirtual 268, 3) := by decide +kernel
theorem dX3_passMinute_30 : decode cX3_passMinute 30 = .ok (.istore_n 1, 1) := by decide +kernel
theorem dX3_passMinute_31 : decode cX3_passMinute 31 = .ok (.aload_n 0, 1) := by decide +kernel
theorem dX3_passMinute_32 : decode cX3_passMinute 32 = .ok (.dup, 1) := by decide +kernel
theorem dX3_passMinute_33 : decode cX3_passMinute 33 = .ok (.getfield 33, 3) := by decide +kernel
theorem dX3_passMinute_36 : decode cX3_passMinute 36 = .ok (.iconst 1, 1) := by decide +kernel
theorem dX3_passMinute_37 : decode cX3_passMinute 37 = .ok (.iadd, 1) := by decide +kernel
theorem dX3_passMinute_38 : decode cX3_passMinute 38 = .ok (.putfield 33, 3) := by decide +kernel
theorem dX3_passMinute_41 : decode cX3_passMinute 41 = .ok (.iload_n 1, 1) := by decide +kernel
theorem dX3_passMinute_42 : decode cX3_passMinute 42 = .ok (.ireturn, 1) := by decide +kernel
theorem dX3_sendHomeAgents_0 : decode cX3_sendHomeAgents 0 = .ok (.iconst 0, 1) := by decide +kernel
theorem dX3_sendHomeAgents_1 : decode cX3_sendHomeAgents 1 = .ok (.istore_n 1, 1) := by decide +kernel
theorem dX3_sendHomeAgents_2 : decode cX3_sendHomeAgents 2 = .ok (.iload_n 1, 1) := by decide +kernel
theorem dX3_sendHomeAgents_3 : decode cX3_sendHomeAgents 3 = .ok (.aload_n 0, 1) := by decide +kernel
theorem dX3_sendHomeAgents_4 : decode cX3_sendHomeAgents 4 = .ok (.getfield 26, 3) := by decide +kernel
theorem dX3_sendHomeAgents_7 : decode cX3_sendHomeAgents 7 = .ok (.invokevirtual 77, 3) := by decide +kernel
theorem dX3_sendHomeAgents_10 : decode cX3_sendHomeAgents 10 = .ok (.if_icmp .ge 45, 3) := by decide +kernel
theorem dX3_sendHomeAgents_13 : decode cX3_sendHomeAgents 13 = .ok (.aload_n 0, 1) := by decide +kernel
theorem dX3_sendHomeAgents_14 : decode cX3_sendHomeAgents 14 = .ok (.getfield 26, 3) := by decide +kernel
theorem dX3_sendHomeAgents_17 : decode cX3_sendHomeAgents 17 = .ok (.iload_n 1, 1) := by decide +kernel
theorem dX3_sendHomeAgents_18 : decode cX3_sendHomeAgents 18 = .ok (.invokevirtual 231, 3) := by decide +kernel
theorem dX3_sendHomeAgents_21 : decode cX3_sendHomeAgents 21 = .ok (.checkcast 86, 3) := by decide +kernel
theorem dX3_sendHomeAgents_24 : decode cX3_sendHomeAgents 24 = .ok (.astore_n 2, 1) := by decide +kernel
theorem dX3_sendHomeAgents_25 : decode cX3_sendHomeAgents 25 = .ok (.aload_n 2, 1) := by decide +kernel
theorem dX3_sendHomeAgents_26 : decode cX3_sendHomeAgents 26 = .ok (.getfield 107, 3) := by decide +kernel
theorem dX3_sendHomeAgents_29 : decode cX3_sendHomeAgents 29 = .ok (.astore_n 3, 1) := by decide +kernel
theorem dX3_sendHomeAgents_30 : decode cX3_sendHomeAgents 30 = .ok (.aload_n 3, 1) := by decide +kernel
theorem dX3_sendHomeAgents_31 : decode cX3_sendHomeAgents 31 = .ok (.ifnull 18, 3) := by decide +kernel
theorem dX3_sendHomeAgents_34 : decode cX3_sendHomeAgents 34 = .ok (.aload_n 2, 1) := by decide +kernel
theorem dX3_sendHomeAgents_35 : decode cX3_sendHomeAgents 35 = .ok (.aload_n 0, 1) := by decide +kernel
theorem dX3_sendHomeAgents_36 : decode cX3_sendHomeAgents 36 = .ok (.getfield 33, 3) := by decide +kernel
theorem dX3_sendHomeAgents_39 : decode cX3_sendHomeAgents 39 = .ok (.invokevirtual 271, 3) := by decide +kernel
theorem dX3_sendHomeAgents_42 : decode cX3_sendHomeAgents 42 = .ok (.ifCond .ne 7, 3) := by decide +kernel
theorem dX3_sendHomeAgents_45 : decode cX3_sendHomeAgents 45 = .ok (.aload_n 3, 1) := by decide +kernel
theorem dX3_sendHomeAgents_46 : decode cX3_sendHomeAgents 46 = .ok (.invokestatic 119, 3) := by decide +kernel
theorem dX3_sendHomeAgents_49 : decode cX3_sendHomeAgents 49 = .ok (.iinc 1 1, 3) := by decide +kernel
theorem dX3_sendHomeAgents_52 : decode cX3_sendHomeAgents 52 = .ok (.goto (-50), 3) := by decide +kernel
theorem dX3_sendHomeAgents_55 : decode cX3_sendHomeAgents 55 = .ok (.return_, 1) := by decide +kernel
theorem dX3_giveOutTickets_0 : decode cX3_giveOutTickets 0 = .ok (.iconst 0, 1) := by decide +kernel
theorem dX3_giveOutTickets_1 : decode cX3_giveOutTickets 1 = .ok (.istore_n 1, 1) := by decide +kernel
theorem dX3_giveOutTickets_2 : decode cX3_giveOutTickets 2 = .ok (.iload_n 1, 1) := by decide +kernel
theorem dX3_giveOutTickets_3 : decode cX3_giveOutTickets 3 = .ok (.aload_n 0, 1) := by decide +kernel
theorem dX3_giveOutTickets_4 : decode cX3_giveOutTickets 4 = .ok (.getfield 26, 3) := by decide +kernel
theorem dX3_giveOutTickets_7 : decode cX3_giveOutTickets 7 = .ok (.invokevirtual 77, 3) := by decide +kernel
theorem dX3_giveOutTickets_10 : decode cX3_giveOutTickets 10 = .ok (.if_icmp .ge 54, 3) := by decide +kernel
theorem dX3_giveOutTickets_13 : decode cX3_giveOutTickets 13 = .ok (.aload_n 0, 1) := by decide +kernel
theorem dX3_giveOutTickets_14 : decode cX3_giveOutTickets 14 = .ok (.getfield 26, 3) := by decide +kernel
theorem dX3_giveOutTickets_17 : decode cX3_giveOutTickets 17 = .ok (.iload_n 1, 1) := by decide +kernel
theorem dX3_giveOutTickets_18 : decode cX3_giveOutTickets 18 = .ok (.invokevirtual 231, 3) := by decide +kernel
theorem dX3_giveOutTickets_21 : decode cX3_giveOutTickets 21 = .ok (.checkcast 86, 3) := by decide +kernel
theorem dX3_giveOutTickets_24 : decode cX3_giveOutTickets 24 = .ok (.astore_n 2, 1) := by decide +kernel
theorem dX3_giveOutTickets_25 : decode cX3_giveOutTickets 25 = .ok (.aload_n 2, 1) := by decide +kernel
theorem dX3_giveOutTickets_26 : decode cX3_giveOutTickets 26 = .ok (.getfield 107, 3) := by decide +kernel
theorem dX3_giveOutTickets_29 : decode cX3_giveOutTickets 29 = .ok (.ifnonnull 29, 3) := by decide +kernel
theorem dX3_giveOutTickets_32 : decode cX3_giveOutTickets 32 = .ok (.aload_n 2, 1) := by decide +kernel
theorem dX3_giveOutTickets_33 : decode cX3_giveOutTickets 33 = .ok (.aload_n 0, 1) := by decide +kernel
theorem dX3_giveOutTickets_34 : decode cX3_giveOutTickets 34 = .ok (.getfield 33, 3) := by decide +kernel
theorem dX3_giveOutTickets_37 : decode cX3_giveOutTickets 37 = .ok (.invokevirtual 271, 3) := by decide +kernel
theorem dX3_giveOutTickets_40 : decode cX3_giveOutTickets 40 = .ok (.ifCond .eq 18, 3) := by decide +kernel
theorem dX3_giveOutTickets_43 : decode cX3_giveOutTickets 43 = .ok (.aload_n 0, 1) := by decide +kernel
theorem dX3_giveOutTickets_44 : decode cX3_giveOutTickets 44 = .ok (.aload_n 2, 1) := by decide +kernel
theorem dX3_giveOutTickets_45 : decode cX3_giveOutTickets 45 = .ok (.invokevirtual 129, 3) := by decide +kernel
theorem dX3_giveOutTickets_48 : decode cX3_giveOutTickets 48 = .ok (.astore_n 3, 1) := by decide +kernel
theorem dX3_giveOutTickets_49 : decode cX3_giveOutTickets 49 = .ok (.aload_n 3, 1) := by decide +kernel
theorem dX3_giveOutTickets_50 : decode cX3_giveOutTickets 50 = .ok (.ifnull 8, 3) := by decide +kernel
theorem dX3_giveOutTickets_53 : decode cX3_giveOutTickets 53 = .ok (.aload_n 3, 1) := by decide +kernel
theorem dX3_giveOutTickets_54 : decode cX3_giveOutTickets 54 = .ok (.aload_n 2, 1) := by decide +kernel
theorem dX3_giveOutTickets_55 : decode cX3_giveOutTickets 55 = .ok (.invokestatic 274, 3) := by decide +kernel
theorem dX3_giveOutTickets_58 : decode cX3_giveOutTickets 58 = .ok (.iinc 1 1, 3) := by decide +kernel
theorem dX3_giveOutTickets_61 : decode cX3_giveOutTickets 61 = .ok (.goto (-59), 3) := by decide +kernel
theorem dX3_giveOutTickets_64 : decode cX3_giveOutTickets 64 = .ok (.return_, 1) := by decide +kernel
theorem dX3_ageTickets_0 : decode cX3_ageTickets 0 = .ok (.iconst 0, 1) := by decide +kernel
theorem dX3_ageTickets_1 : decode cX3_ageTickets 1 = .ok (.istore_n 1, 1) := by decide +kernel
theorem dX3_ageTickets_2 : decode cX3_ageTickets 2 = .ok (.iload_n 1, 1) := by decide +kernel
theorem dX3_ageTickets_3 : decode cX3_ageTickets 3 = .ok (.aload_n 0, 1) := by decide +kernel
theorem dX3_ageTickets_4 : decode cX3_ageTickets 4 = .ok (.getfield 30, 3) := by decide +kernel
theorem dX3_ageTickets_7 : decode cX3_ageTickets 7 = .ok (.invokevirtual 77, 3) := by decide +kernel
theorem dX3_ageTickets_10 : decode cX3_ageTickets 10 = .ok (.if_icmp .ge 46, 3) := by decide +kernel
theorem dX3_ageTickets_13 : decode cX3_ageTickets 13 = .ok (.aload_n 0, 1) := by decide +kernel
theorem dX3_ageTickets_14 : decode cX3_ageTickets 14 = .ok (.getfield 30, 3) := by decide +kernel
theorem dX3_ageTickets_17 : decode cX3_ageTickets 17 = .ok (.iload_n 1, 1) := by decide +kernel
theorem dX3_ageTickets_18 : decode cX3_ageTickets 18 = .ok (.invokevirtual 231, 3) := by decide +kernel
theorem dX3_ageTickets_21 : decode cX3_ageTickets 21 = .ok (.checkcast 112, 3) := by decide +kernel
theorem dX3_ageTickets_24 : decode cX3_ageTickets 24 = .ok (.astore_n 2, 1) := by decide +kernel
theorem dX3_ageTickets_25 : decode cX3_ageTickets 25 = .ok (.aload_n 2, 1) := by decide +kernel
theorem dX3_ageTickets_26 : decode cX3_ageTickets 26 = .ok (.getfield 147, 3) := by decide +kernel
theorem dX3_ageTickets_29 : decode cX3_ageTickets 29 = .ok (.ifCond .eq 11, 3) := by decide +kernel
theorem dX3_ageTickets_32 : decode cX3_ageTickets 32 = .ok (.aload_n 2, 1) := by decide +kernel
theorem dX3_ageTickets_33 : decode cX3_ageTickets 33 = .ok (.getfield 147, 3) := by decide +kernel
theorem dX3_ageTickets_36 : decode cX3_ageTickets 36 = .ok (.iconst 1, 1) := by decide +kernel
theorem dX3_ageTickets_37 : decode cX3_ageTickets 37 = .ok (.if_icmp .ne 13, 3) := by decide +kernel
theorem dX3_ageTickets_40 : decode cX3_ageTickets 40 = .ok (.aload_n 2, 1) := by decide +kernel
theorem dX3_ageTickets_41 : decode cX3_ageTickets 41 = .ok (.dup, 1) := by decide +kernel
theorem dX3_ageTickets_42 : decode cX3_ageTickets 42 = .ok (.getfield 187, 3) := by decide +kernel
theorem dX3_ageTickets_45 : decode cX3_ageTickets 45 = .ok (.iconst 1, 1) := by decide +kernel
theorem dX3_ageTickets_46 : decode cX3_ageTickets 46 = .ok (.iadd, 1) := by decide +kernel
theorem dX3_ageTickets_47 : decode cX3_ageTickets 47 = .ok (.putfield 187, 3) := by decide +kernel
theorem dX3_ageTickets_50 : decode cX3_ageTickets 50 = .ok (.iinc 1 1, 3) := by decide +kernel
theorem dX3_ageTickets_53 : decode cX3_ageTickets 53 = .ok (.goto (-51), 3) := by decide +kernel
theorem dX3_ageTickets_56 : decode cX3_ageTickets 56 = .ok (.return_, 1) := by decide +kernel
theorem dX3_work_0 : decode cX3_work 0 = .ok (.iconst 0, 1) := by decide +kernel
theorem dX3_work_1 : decode cX3_work 1 = .ok (.istore_n 1, 1) := by decide +kernel
theorem dX3_work_2 : decode cX3_work 2 = .ok (.iconst 0, 1) := by decide +kernel
theorem dX3_work_3 : decode cX3_work 3 = .ok (.istore_n 2, 1) := by decide +kernel
theorem dX3_work_4 : decode cX3_work 4 = .ok (.iload_n 2, 1) := by decide +kernel
theorem dX3_work_5 : decode cX3_work 5 = .ok (.aload_n 0, 1) := by decide +kernel
theorem dX3_work_6 : decode cX3_work 6 = .ok (.getfield 26, 3) := by decide +kernel
theorem dX3_work_9 : decode cX3_work 9 = .ok (.invokevirtual 77, 3) := by decide +kernel
theorem dX3_work_12 : decode cX3_work 12 = .ok (.if_icmp .ge 76, 3) := by decide +kernel
theorem dX3_work_15 : decode cX3_work 15 = .ok (.aload_n 0, 1) := by decide +kernel
theorem dX3_work_16 : decode cX3_work 16 = .ok (.getfield 26, 3) := by decide +kernel
theorem dX3_work_19 : decode cX3_work 19 = .ok (.iload_n 2, 1) := by decide +kernel
theorem dX3_work_20 : decode cX3_work 20 = .ok (.invokevirtual 231, 3) := by decide +kernel
theorem dX3_work_23 : decode cX3_work 23 = .ok (.checkcast 86, 3) := by decide +kernel
theorem dX3_work_26 : decode cX3_work 26 = .ok (.astore_n 3, 1) := by decide +kernel
theorem dX3_work_27 : decode cX3_work 27 = .ok (.aload_n 3, 1) := by decide +kernel
theorem dX3_work_28 : decode cX3_work 28 = .ok (.getfield 107, 3) := by decide +kernel
theorem dX3_work_31 : decode cX3_work 31 = .ok (.astore 4, 2) := by decide +kernel
theorem dX3_work_33 : decode cX3_work 33 = .ok (.aload 4, 2) := by decide +kernel
theorem dX3_work_35 : decode cX3_work 35 = .ok (.ifnull 47, 3) := by decide +kernel
theorem dX3_work_38 : decode cX3_work 38 = .ok (.aload_n 3, 1) := by decide +kernel
theorem dX3_work_39 : decode cX3_work 39 = .ok (.dup, 1) := by decide +kernel
theorem dX3_work_40 : decode cX3_work 40 = .ok (.getfield 278, 3) := by decide +kernel
theorem dX3_work_43 : decode cX3_work 43 = .ok (.iconst 1, 1) := by decide +kernel
theorem dX3_work_44 : decode cX3_work 44 = .ok (.iadd, 1) := by decide +kernel
theorem dX3_work_45 : decode cX3_work 45 = .ok (.putfield 278, 3) := by decide +kernel
theorem dX3_work_48 : decode cX3_work 48 = .ok (.aload 4, 2) := by decide +kernel
theorem dX3_work_50 : decode cX3_work 50 = .ok (.dup, 1) := by decide +kernel
theorem dX3_work_51 : decode cX3_work 51 = .ok (.getfield 166, 3) := by decide +kernel
theorem dX3_work_54 : decode cX3_work 54 = .ok (.iconst 1, 1) := by decide +kernel
theorem dX3_work_55 : decode cX3_work 55 = .ok (.iadd, 1) := by decide +kernel
theorem dX3_work_56 : decode cX3_work 56 = .ok (.putfield 166, 3) := by decide +kernel
theorem dX3_work_59 : decode cX3_work 59 = .ok (.aload 4, 2) := by decide +kernel
theorem dX3_work_61 : decode cX3_work 61 = .ok (.getfield 166, 3) := by decide +kernel
theorem dX3_work_64 : decode cX3_work 64 = .ok (.aload 4, 2) := by decide +kernel
theorem dX3_work_66 : decode cX3_work 66 = .ok (.getfield 163, 3) := by decide +kernel
theorem dX3_work_69 : decode cX3_work 69 = .ok (.if_icmp .ne 13, 3) := by decide +kernel
theorem dX3_work_72 : decode cX3_work 72 = .ok (.aload_n 0, 1) := by decide +kernel
theorem dX3_work_73 : decode cX3_work 73 = .ok (.aload 4, 2) := by decide +kernel
theorem dX3_work_75 : decode cX3_work 75 = .ok (.aload_n 3, 1) := by decide +kernel
theorem dX3_work_76 : decode cX3_work 76 = .ok (.invokevirtual 281, 3) := by decide +kernel
theorem dX3_work_79 : decode cX3_work 79 = .ok (.iinc 1 1, 3) := by decide +kernel
theorem dX3_work_82 : decode cX3_work 82 = .ok (.iinc 2 1, 3) := by decide +kernel
theorem dX3_work_85 : decode cX3_work 85 = .ok (.goto (-81), 3) := by decide +kernel
theorem dX3_work_88 : decode cX3_work 88 = .ok (.iload_n 1, 1) := by decide +kernel
theorem dX3_work_89 : decode cX3_work 89 = .ok (.ireturn, 1) := by decide +kernel
theorem dX3_solve_0 : decode cX3_solve 0 = .ok (.aload_n 1, 1) := by decide +kernel
theorem dX3_solve_1 : decode cX3_solve 1 = .ok (.invokestatic 157, 3) := by decide +kernel
theorem dX3_solve_4 : decode cX3_solve 4 = .ok (.aload_n 1, 1) := by decide +kernel
theorem dX3_solve_5 : decode cX3_solve 5 = .ok (.iconst 3, 1) := by decide +kernel
theorem dX3_solve_6 : decode cX3_solve 6 = .ok (.putfield 147, 3) := by decide +kernel
theorem dX3_solve_9 : decode cX3_solve 9 = .ok (.aload_n 1, 1) := by decide +kernel
theorem dX3_solve_10 : decode cX3_solve 10 = .ok (.aload_n 0, 1) := by decide +kernel
theorem dX3_solve_11 : decode cX3_solve 11 = .ok (.getfield 33, 3) := by decide +kernel
theorem dX3_solve_14 : decode cX3_solve 14 = .ok (.iconst 1, 1) := by decide +kernel
theorem dX3_solve_15 : decode cX3_solve 15 = .ok (.iadd, 1) := by decide +kernel
theorem dX3_solve_16 : decode cX3_solve 16 = .ok (.putfield 198, 3) := by decide +kernel
theorem dX3_solve_19 : decode cX3_solve 19 = .ok (.aload_n 2, 1) := by decide +kernel
theorem dX3_solve_20 : decode cX3_solve 20 = .ok (.dup, 1) := by decide +kernel
theorem dX3_solve_21 : decode cX3_solve 21 = .ok (.getfield 284, 3) := by decide +kernel
theorem dX3_solve_24 : decode cX3_solve 24 = .ok (.iconst 1, 1) := by decide +kernel
theorem dX3_solve_25 : decode cX3_solve 25 = .ok (.iadd, 1) := by decide +kernel
theorem dX3_solve_26 : decode cX3_solve 26 = .ok (.putfield 284, 3) := by decide +kernel
theorem dX3_solve_29 : decode cX3_solve 29 = .ok (.return_, 1) := by decide +kernel
theorem dX3_give_0 : decode cX3_give 0 = .ok (.aload_n 1, 1) := by decide +kernel
theorem dX3_give_1 : decode cX3_give 1 = .ok (.aload_n 0, 1) := by decide +kernel
theorem dX3_give_2 : decode cX3_give 2 = .ok (.putfield 107, 3) := by decide +kernel
theorem dX3_give_5 : decode cX3_give 5 = .ok (.aload_n 0, 1) := by decide +kernel
theorem dX3_give_6 : decode cX3_give 6 = .ok (.aload_n 1, 1) := by decide +kernel
theorem dX3_give_7 : decode cX3_give 7 = .ok (.putfield 287, 3) := by decide +kernel
theorem dX3_give_10 : decode cX3_give 10 = .ok (.aload_n 0, 1) := by decide +kernel
theorem dX3_give_11 : decode cX3_give 11 = .ok (.aload_n 1, 1) := by decide +kernel
theorem dX3_give_12 : decode cX3_give 12 = .ok (.putfield 291, 3) := by decide +kernel
theorem dX3_give_15 : decode cX3_give 15 = .ok (.aload_n 0, 1) := by decide +kernel
theorem dX3_give_16 : decode cX3_give 16 = .ok (.iconst 1, 1) := by decide +kernel
theorem dX3_give_17 : decode cX3_give 17 = .ok (.putfield 147, 3) := by decide +kernel
theorem dX3_give_20 : decode cX3_give 20 = .ok (.aload_n 0, 1) := by decide +kernel
theorem dX3_give_21 : decode cX3_give 21 = .ok (.getfield 294, 3) := by decide +kernel
theorem dX3_give_24 : decode cX3_give 24 = .ok (.ifCond .ge 11, 3) := by decide +kernel
theorem dX3_give_27 : decode cX3_give 27 = .ok (.aload_n 0, 1) := by decide +kernel
theorem dX3_give_28 : decode cX3_give 28 = .ok (.aload_n 0, 1) := by decide +kernel
theorem dX3_give_29 : decode cX3_give 29 = .ok (.getfield 187, 3) := by decide +kernel
theorem dX3_give_32 : decode cX3_give 32 = .ok (.putfield 294, 3) := by decide +kernel
theorem dX3_give_35 : decode cX3_give 35 = .ok (.return_, 1) := by decide +kernel
theorem dX3_handBack_0 : decode cX3_handBack 0 = .ok (.aload_n 0, 1) := by decide +kernel
theorem dX3_handBack_1 : decode cX3_handBack 1 = .ok (.invokestatic 157, 3) := by decide +kernel
theorem dX3_handBack_4 : decode cX3_handBack 4 = .ok (.aload_n 0, 1) := by decide +kernel
theorem dX3_handBack_5 : decode cX3_handBack 5 = .ok (.iconst 0, 1) := by decide +kernel
theorem dX3_handBack_6 : decode cX3_handBack 6 = .ok (.putfield 147, 3) := by decide +kernel
theorem dX3_handBack_9 : decode cX3_handBack 9 = .ok (.return_, 1) := by decide +kernel
theorem dX3_takeFromHolder_0 : decode cX3_takeFromHolder 0 = .ok (.aload_n 0, 1) := by decide +kernel
theorem dX3_takeFromHolder_1 : decode cX3_takeFromHolder 1 = .ok (.getfield 287, 3) := by decide +kernel
theorem dX3_takeFromHolder_4 : decode cX3_takeFromHolder 4 = .ok (.astore_n 1, 1) := by decide +kernel
theorem dX3_takeFromHolder_5 : decode cX3_takeFromHolder 5 = .ok (.aload_n 1, 1) := by decide +kernel
theorem dX3_takeFromHolder_6 : decode cX3_takeFromHolder 6 = .ok (.ifnull 13, 3) := by decide +kernel
theorem dX3_takeFromHolder_9 : decode cX3_takeFromHolder 9 = .ok (.aload_n 1, 1) := by decide +kernel
theorem dX3_takeFromHolder_10 : decode cX3_takeFromHolder 10 = .ok (.aconst_null, 1) := by decide +kernel
theorem dX3_takeFromHolder_11 : decode cX3_takeFromHolder 11 = .ok (.putfield 107, 3) := by decide +kernel
theorem dX3_takeFromHolder_14 : decode cX3_takeFromHolder 14 = .ok (.aload_n 0, 1) := by decide +kernel
theorem dX3_takeFromHolder_15 : decode cX3_takeFromHolder 15 = .ok (.aconst_null, 1) := by decide +kernel
theorem dX3_takeFromHolder_16 : decode cX3_takeFromHolder 16 = .ok (.putfield 287, 3) := by decide +kernel
theorem dX3_takeFromHolder_19 : decode cX3_takeFromHolder 19 = .ok (.return_, 1) := by decide +kernel
theorem dX3_firstByLiking_0 : decode cX3_firstByLiking 0 = .ok (.aconst_null, 1) := by decide +kernel
theorem dX3_firstByLiking_1 : decode cX3_firstByLiking 1 = .ok (.astore_n 2, 1) := by decide +kernel
theorem dX3_firstByLiking_2 : decode cX3_firstByLiking 2 = .ok (.iconst 0, 1) := by decide +kernel
theorem dX3_firstByLiking_3 : decode cX3_firstByLiking 3 = .ok (.istore_n 3, 1) := by decide +kernel
theorem dX3_firstByLiking_4 : decode cX3_firstByLiking 4 = .ok (.iload_n 3, 1) := by decide +kernel
theorem dX3_firstByLiking_5 : decode cX3_firstByLiking 5 = .ok (.aload_n 0, 1) := by decide +kernel
theorem dX3_firstByLiking_6 : decode cX3_firstByLiking 6 = .ok (.getfield 30, 3) := by decide +kernel
theorem dX3_firstByLiking_9 : decode cX3_firstByLiking 9 = .ok (.invokevirtual 77, 3) := by decide +kernel
theorem dX3_firstByLiking_12 : decode cX3_firstByLiking 12 = .ok (.if_icmp .ge 60, 3) := by decide +kernel
theorem dX3_firstByLiking_15 : decode cX3_firstByLiking 15 = .ok (.aload_n 0, 1) := by decide +kernel
theorem dX3_firstByLiking_16 : decode cX3_firstByLiking 16 = .ok (.getfield 30, 3) := by decide +kernel
theorem dX3_firstByLiking_19 : decode cX3_firstByLiking 19 = .ok (.iload_n 3, 1) := by decide +kernel
theorem dX3_firstByLiking_20 : decode cX3_firstByLiking 20 = .ok (.invokevirtual 231, 3) := by decide +kernel
theorem dX3_firstByLiking_23 : decode cX3_firstByLiking 23 = .ok (.checkcast 112, 3) := by decide +kernel
theorem dX3_firstByLiking_26 : decode cX3_firstByLiking 26 = .ok (.astore 4, 2) := by decide +kernel
theorem dX3_firstByLiking_28 : decode cX3_firstByLiking 28 = .ok (.aload 4, 2) := by decide +kernel
theorem dX3_firstByLiking_30 : decode cX3_firstByLiking 30 = .ok (.getfield 147, 3) := by decide +kernel
theorem dX3_firstByLiking_33 : decode cX3_firstByLiking 33 = .ok (.ifCond .ne 33, 3) := by decide +kernel
theorem dX3_firstByLiking_36 : decode cX3_firstByLiking 36 = .ok (.aload_n 1, 1) := by decide +kernel
theorem dX3_firstByLiking_37 : decode cX3_firstByLiking 37 = .ok (.aload 4, 2) := by decide +kernel
theorem dX3_firstByLiking_39 : decode cX3_firstByLiking 39 = .ok (.getfield 111, 3) := by decide +kernel
theorem dX3_firstByLiking_42 : decode cX3_firstByLiking 42 = .ok (.invokevirtual 116, 3) := by decide +kernel
theorem dX3_firstByLiking_45 : decode cX3_firstByLiking 45 = .ok (.ifCond .eq 21, 3) := by decide +kernel
theorem dX3_firstByLiking_48 : decode cX3_firstByLiking 48 = .ok (.aload_n 2, 1) := by decide +kernel
theorem dX3_firstByLiking_49 : decode cX3_firstByLiking 49 = .ok (.ifnull 14, 3) := by decide +kernel
theorem dX3_firstByLiking_52 : decode cX3_firstByLiking 52 = .ok (.aload_n 0, 1) := by decide +kernel
theorem dX3_firstByLiking_53 : decode cX3_firstByLiking 53 = .ok (.aload_n 1, 1) := by decide +kernel
theorem dX3_firstByLiking_54 : decode cX3_firstByLiking 54 = .ok (.aload 4, 2) := by decide +kernel
theorem dX3_firstByLiking_56 : decode cX3_firstByLiking 56 = .ok (.aload_n 2, 1) := by decide +kernel
theorem dX3_firstByLiking_57 : decode cX3_firstByLiking 57 = .ok (.invokevirtual 297, 3) := by decide +kernel
theorem dX3_firstByLiking_60 : decode cX3_firstByLiking 60 = .ok (.ifCond .eq 6, 3) := by decide +kernel
theorem dX3_firstByLiking_63 : decode cX3_firstByLiking 63 = .ok (.aload 4, 2) := by decide +kernel
theorem dX3_firstByLiking_65 : decode cX3_firstByLiking 65 = .ok (.astore_n 2, 1) := by decide +kernel
theorem dX3_firstByLiking_66 : decode cX3_firstByLiking 66 = .ok (.iinc 3 1, 3) := by decide +kernel
theorem dX3_firstByLiking_69 : decode cX3_firstByLiking 69 = .ok (.goto (-65), 3) := by decide +kernel
theorem dX3_firstByLiking_72 : decode cX3_firstByLiking 72 = .ok (.aload_n 2, 1) := by decide +kernel
theorem dX3_firstByLiking_73 : decode cX3_firstByLiking 73 = .ok (.areturn, 1) := by decide +kernel
theorem dX3_isLikedMore_0 : decode cX3_isLikedMore 0 = .ok (.aload_n 2, 1) := by decide +kernel
theorem dX3_isLikedMore_1 : decode cX3_isLikedMore 1 = .ok (.getfield 291, 3) := by decide +kernel
theorem dX3_isLikedMore_4 : decode cX3_isLikedMore 4 = .ok (.aload_n 1, 1) := by decide +kernel
theorem dX3_isLikedMore_5 : decode cX3_isLikedMore 5 = .ok (.if_acmp .ne 7, 3) := by decide +kernel
theorem dX3_isLikedMore_8 : decode cX3_isLikedMore 8 = .ok (.iconst 1, 1) := by decide +kernel
theorem dX3_isLikedMore_9 : decode cX3_isLikedMore 9 = .ok (.goto 4, 3) := by decide +kernel
theorem dX3_isLikedMore_12 : decode cX3_isLikedMore 12 = .ok (.iconst 0, 1) := by decide +kernel
theorem dX3_isLikedMore_13 : decode cX3_isLikedMore 13 = .ok (.istore 4, 2) := by decide +kernel
theorem dX3_isLikedMore_15 : decode cX3_isLikedMore 15 = .ok (.aload_n 3, 1) := by decide +kernel
theorem dX3_isLikedMore_16 : decode cX3_isLikedMore 16 = .ok (.getfield 291, 3) := by decide +kernel
theorem dX3_isLikedMore_19 : decode cX3_isLikedMore 19 = .ok (.aload_n 1, 1) := by decide +kernel
theorem dX3_isLikedMore_20 : decode cX3_isLikedMore 20 = .ok (.if_acmp .ne 7, 3) := by decide +kernel
theorem dX3_isLikedMore_23 : decode cX3_isLikedMore 23 = .ok (.iconst 1, 1) := by decide +kernel
theorem dX3_isLikedMore_24 : decode cX3_isLikedMore 24 = .ok (.goto 4, 3) := by decide +kernel
theorem dX3_isLikedMore_27 : decode cX3_isLikedMore 27 = .ok (.iconst 0, 1) := by decide +kernel
theorem dX3_isLikedMore_28 : decode cX3_isLikedMore 28 = .ok (.istore 5, 2) := by decide +kernel
theorem dX3_isLikedMore_30 : decode cX3_isLikedMore 30 = .ok (.iload 4, 2) := by decide +kernel
theorem dX3_isLikedMore_32 : decode cX3_isLikedMore 32 = .ok (.iload 5, 2) := by decide +kernel
theorem dX3_isLikedMore_34 : decode cX3_isLikedMore 34 = .ok (.if_icmp .eq 6, 3) := by decide +kernel
theorem dX3_isLikedMore_37 : decode cX3_isLikedMore 37 = .ok (.iload 4, 2) := by decide +kernel
theorem dX3_isLikedMore_39 : decode cX3_isLikedMore 39 = .ok (.ireturn, 1) := by decide +kernel
theorem dX3_isLikedMore_40 : decode cX3_isLikedMore 40 = .ok (.aload_n 0, 1) := by decide +kernel
theorem dX3_isLikedMore_41 : decode cX3_isLikedMore 41 = .ok (.aload_n 2, 1) := by decide +kernel
theorem dX3_isLikedMore_42 : decode cX3_isLikedMore 42 = .ok (.invokevirtual 216, 3) := by decide +kernel
theorem dX3_isLikedMore_45 : decode cX3_isLikedMore 45 = .ok (.aload_n 0, 1) := by decide +kernel
theorem dX3_isLikedMore_46 : decode cX3_isLikedMore 46 = .ok (.aload_n 3, 1) := by decide +kernel
theorem dX3_isLikedMore_47 : decode cX3_isLikedMore 47 = .ok (.invokevirtual 216, 3) := by decide +kernel
theorem dX3_isLikedMore_50 : decode cX3_isLikedMore 50 = .ok (.if_icmp .ge 7, 3) := by decide +kernel
theorem dX3_isLikedMore_53 : decode cX3_isLikedMore 53 = .ok (.iconst 1, 1) := by decide +kernel
theorem dX3_isLikedMore_54 : decode cX3_isLikedMore 54 = .ok (.goto 4, 3) := by decide +kernel
theorem dX3_isLikedMore_57 : decode cX3_isLikedMore 57 = .ok (.iconst 0, 1) := by decide +kernel
theorem dX3_isLikedMore_58 : decode cX3_isLikedMore 58 = .ok (.ireturn, 1) := by decide +kernel
theorem dX3_slackOf_0 : decode cX3_slackOf 0 = .ok (.aload_n 0, 1) := by decide +kernel
theorem dX3_slackOf_1 : decode cX3_slackOf 1 = .ok (.getfield 20, 3) := by decide +kernel
theorem dX3_slackOf_4 : decode cX3_slackOf 4 = .ok (.aload_n 1, 1) := by decide +kernel
theorem dX3_slackOf_5 : decode cX3_slackOf 5 = .ok (.getfield 152, 3) := by decide +kernel
theorem dX3_slackOf_8 : decode cX3_slackOf 8 = .ok (.iaload, 1) := by decide +kernel
theorem dX3_slackOf_9 : decode cX3_slackOf 9 = .ok (.aload_n 1, 1) := by decide +kernel
theorem dX3_slackOf_10 : decode cX3_slackOf 10 = .ok (.getfield 187, 3) := by decide +kernel
theorem dX3_slackOf_13 : decode cX3_slackOf 13 = .ok (.isub, 1) := by decide +kernel
theorem dX3_slackOf_14 : decode cX3_slackOf 14 = .ok (.ireturn, 1) := by decide +kernel
theorem dX3_breaksAnswer_0 : decode cX3_breaksAnswer 0 = .ok (.aload_n 1, 1) := by decide +kernel
theorem dX3_breaksAnswer_1 : decode cX3_breaksAnswer 1 = .ok (.getfield 294, 3) := by decide +kernel
theorem dX3_breaksAnswer_4 : decode cX3_breaksAnswer 4 = .ok (.ifCond .ge 10, 3) := by decide +kernel
theorem dX3_breaksAnswer_7 : decode cX3_breaksAnswer 7 = .ok (.aload_n 1, 1) := by decide +kernel
theorem dX3_breaksAnswer_8 : decode cX3_breaksAnswer 8 = .ok (.getfield 187, 3) := by decide +kernel
theorem dX3_breaksAnswer_11 : decode cX3_breaksAnswer 11 = .ok (.goto 7, 3) := by decide +kernel
theorem dX3_breaksAnswer_14 : decode cX3_breaksAnswer 14 = .ok (.aload_n 1, 1) := by decide +kernel
theorem dX3_breaksAnswer_15 : decode cX3_breaksAnswer 15 = .ok (.getfield 294, 3) := by decide +kernel
theorem dX3_breaksAnswer_18 : decode cX3_breaksAnswer 18 = .ok (.istore_n 2, 1) := by decide +kernel
theorem dX3_breaksAnswer_19 : decode cX3_breaksAnswer 19 = .ok (.aload_n 1, 1) := by decide +kernel
theorem dX3_breaksAnswer_20 : decode cX3_breaksAnswer 20 = .ok (.getfield 147, 3) := by decide +kernel
theorem dX3_breaksAnswer_23 : decode cX3_breaksAnswer 23 = .ok (.iconst 4, 1) := by decide +kernel
theorem dX3_breaksAnswer_24 : decode cX3_breaksAnswer 24 = .ok (.if_icmp .eq 20, 3) := by decide +kernel
theorem dX3_breaksAnswer_27 : decode cX3_breaksAnswer 27 = .ok (.iload_n 2, 1) := by decide +kernel
theorem dX3_breaksAnswer_28 : decode cX3_breaksAnswer 28 = .ok (.aload_n 0, 1) := by decide +kernel
theorem dX3_breaksAnswer_29 : decode cX3_breaksAnswer 29 = .ok (.getfield 16, 3) := by decide +kernel
theorem dX3_breaksAnswer_32 : decode cX3_breaksAnswer 32 = .ok (.aload_n 1, 1) := by decide +kernel
theorem dX3_breaksAnswer_33 : decode cX3_breaksAnswer 33 = .ok (.getfield 152, 3) := by decide +kernel
theorem dX3_breaksAnswer_36 : decode cX3_breaksAnswer 36 = .ok (.iaload, 1) := by decide +kernel
theorem dX3_breaksAnswer_37 : decode cX3_breaksAnswer 37 = .ok (.if_icmp .le 7, 3) := by decide +kernel
theorem dX3_breaksAnswer_40 : decode cX3_breaksAnswer 40 = .ok (.iconst 1, 1) := by decide +kernel
theorem dX3_breaksAnswer_41 : decode cX3_breaksAnswer 41 = .ok (.goto 4, 3) := by decide +kernel
theorem dX3_breaksAnswer_44 : decode cX3_breaksAnswer 44 = .ok (.iconst 0, 1) := by decide +kernel
theorem dX3_breaksAnswer_45 : decode cX3_breaksAnswer 45 = .ok (.ireturn, 1) := by decide +kernel
theorem dX3_breaksSolution_0 : decode cX3_breaksSolution 0 = .ok (.aload_n 1, 1) := by decide +kernel
theorem dX3_breaksSolution_1 : decode cX3_breaksSolution 1 = .ok (.getfield 147, 3) := by decide +kernel
theorem dX3_breaksSolution_4 : decode cX3_breaksSolution 4 = .ok (.iconst 4, 1) := by decide +kernel
theorem dX3_breaksSolution_5 : decode cX3_breaksSolution 5 = .ok (.if_icmp .eq 15, 3) := by decide +kernel
theorem dX3_breaksSolution_8 : decode cX3_breaksSolution 8 = .ok (.aload_n 0, 1) := by decide +kernel
theorem dX3_breaksSolution_9 : decode cX3_breaksSolution 9 = .ok (.aload_n 1, 1) := by decide +kernel
theorem dX3_breaksSolution_10 : decode cX3_breaksSolution 10 = .ok (.invokevirtual 216, 3) := by decide +kernel
theorem dX3_breaksSolution_13 : decode cX3_breaksSolution 13 = .ok (.ifCond .ge 7, 3) := by decide +kernel
theorem dX3_breaksSolution_16 : decode cX3_breaksSolution 16 = .ok (.iconst 1, 1) := by decide +kernel
theorem dX3_breaksSolution_17 : decode cX3_breaksSolution 17 = .ok (.goto 4, 3) := by decide +kernel
theorem dX3_breaksSolution_20 : decode cX3_breaksSolution 20 = .ok (.iconst 0, 1) := by decide +kernel
theorem dX3_breaksSolution_21 : decode cX3_breaksSolution 21 = .ok (.ireturn, 1) := by decide +kernel
theorem dX3_toldOfAgent_0 : decode cX3_toldOfAgent 0 = .ok (.iload_n 2, 1) := by decide +kernel
theorem dX3_toldOfAgent_1 : decode cX3_toldOfAgent 1 = .ok (.tableswitch 45 0 2 #[27, 35, 40], 27) := by decide +kernel
theorem dX3_toldOfAgent_28 : decode cX3_toldOfAgent 28 = .ok (.aload_n 1, 1) := by decide +kernel
theorem dX3_toldOfAgent_29 : decode cX3_toldOfAgent 29 = .ok (.getfield 107, 3) := by decide +kernel
theorem dX3_toldOfAgent_32 : decode cX3_toldOfAgent 32 = .ok (.invokestatic 133, 3) := by decide +kernel
theorem dX3_toldOfAgent_35 : decode cX3_toldOfAgent 35 = .ok (.ireturn, 1) := by decide +kernel
theorem dX3_toldOfAgent_36 : decode cX3_toldOfAgent 36 = .ok (.aload_n 1, 1) := by decide +kernel
theorem dX3_toldOfAgent_37 : decode cX3_toldOfAgent 37 = .ok (.getfield 278, 3) := by decide +kernel
theorem dX3_toldOfAgent_40 : decode cX3_toldOfAgent 40 = .ok (.ireturn, 1) := by decide +kernel
theorem dX3_toldOfAgent_41 : decode cX3_toldOfAgent 41 = .ok (.aload_n 1, 1) := by decide +kernel
theorem dX3_toldOfAgent_42 : decode cX3_toldOfAgent 42 = .ok (.getfield 284, 3) := by decide +kernel
theorem dX3_toldOfAgent_45 : decode cX3_toldOfAgent 45 = .ok (.ireturn, 1) := by decide +kernel
theorem dX3_toldOfAgent_46 : decode cX3_toldOfAgent 46 = .ok (.aload_n 1, 1) := by decide +kernel
theorem dX3_toldOfAgent_47 : decode cX3_toldOfAgent 47 = .ok (.aload_n 0, 1) := by decide +kernel
theorem dX3_toldOfAgent_48 : decode cX3_toldOfAgent 48 = .ok (.getfield 33, 3) := by decide +kernel
theorem dX3_toldOfAgent_51 : decode cX3_toldOfAgent 51 = .ok (.invokevirtual 271, 3) := by decide +kernel
theorem dX3_toldOfAgent_54 : decode cX3_toldOfAgent 54 = .ok (.ifCond .eq 7, 3) := by decide +kernel
theorem dX3_toldOfAgent_57 : decode cX3_toldOfAgent 57 = .ok (.iconst 1, 1) := by decide +kernel
theorem dX3_toldOfAgent_58 : decode cX3_toldOfAgent 58 = .ok (.goto 4, 3) := by decide +kernel
theorem dX3_toldOfAgent_61 : decode cX3_toldOfAgent 61 = .ok (.iconst 0, 1) := by decide +kernel
theorem dX3_toldOfAgent_62 : decode cX3_toldOfAgent 62 = .ok (.ireturn, 1) := by decide +kernel
theorem dX3_toldOfTicket_0 : decode cX3_toldOfTicket 0 = .ok (.iload_n 1, 1) := by decide +kernel
theorem dX3_toldOfTicket_1 : decode cX3_toldOfTicket 1 = .ok (.tableswitch 81 0 6 #[43, 48, 56, 61, 66, 71, 76], 43) := by decide +kernel
theorem dX3_toldOfTicket_44 : decode cX3_toldOfTicket 44 = .ok (.aload_n 0, 1) := by decide +kernel
theorem dX3_toldOfTicket_45 : decode cX3_toldOfTicket 45 = .ok (.getfield 147, 3) := by decide +kernel
theorem dX3_toldOfTicket_48 : decode cX3_toldOfTicket 48 = .ok (.ireturn, 1) := by decide +kernel
theorem dX3_toldOfTicket_49 : decode cX3_toldOfTicket 49 = .ok (.aload_n 0, 1) := by decide +kernel
theorem dX3_toldOfTicket_50 : decode cX3_toldOfTicket 50 = .ok (.getfield 287, 3) := by decide +kernel
theorem dX3_toldOfTicket_53 : decode cX3_toldOfTicket 53 = .ok (.invokestatic 301, 3) := by decide +kernel
theorem dX3_toldOfTicket_56 : decode cX3_toldOfTicket 56 = .ok (.ireturn, 1) := by decide +kernel
theorem dX3_toldOfTicket_57 : decode cX3_toldOfTicket 57 = .ok (.aload_n 0, 1) := by decide +kernel
theorem dX3_toldOfTicket_58 : decode cX3_toldOfTicket 58 = .ok (.getfield 152, 3) := by decide +kernel
theorem dX3_toldOfTicket_61 : decode cX3_toldOfTicket 61 = .ok (.ireturn, 1) := by decide +kernel
theorem dX3_toldOfTicket_62 : decode cX3_toldOfTicket 62 = .ok (.aload_n 0, 1) := by decide +kernel
theorem dX3_toldOfTicket_63 : decode cX3_toldOfTicket 63 = .ok (.getfield 187, 3) := by decide +kernel
theorem dX3_toldOfTicket_66 : decode cX3_toldOfTicket 66 = .ok (.ireturn, 1) := by decide +kernel
theorem dX3_toldOfTicket_67 : decode cX3_toldOfTicket 67 = .ok (.aload_n 0, 1) := by decide +kernel
theorem dX3_toldOfTicket_68 : decode cX3_toldOfTicket 68 = .ok (.getfield 166, 3) := by decide +kernel
theorem dX3_toldOfTicket_71 : decode cX3_toldOfTicket 71 = .ok (.ireturn, 1) := by decide +kernel
theorem dX3_toldOfTicket_72 : decode cX3_toldOfTicket 72 = .ok (.aload_n 0, 1) := by decide +kernel
theorem dX3_toldOfTicket_73 : decode cX3_toldOfTicket 73 = .ok (.getfield 163, 3) := by decide +kernel
theorem dX3_toldOfTicket_76 : decode cX3_toldOfTicket 76 = .ok (.ireturn, 1) := by decide +kernel
theorem dX3_toldOfTicket_77 : decode cX3_toldOfTicket 77 = .ok (.aload_n 0, 1) := by decide +kernel
theorem dX3_toldOfTicket_78 : decode cX3_toldOfTicket 78 = .ok (.getfield 294, 3) := by decide +kernel
theorem dX3_toldOfTicket_81 : decode cX3_toldOfTicket 81 = .ok (.ireturn, 1) := by decide +kernel
theorem dX3_toldOfTicket_82 : decode cX3_toldOfTicket 82 = .ok (.aload_n 0, 1) := by decide +kernel
theorem dX3_toldOfTicket_83 : decode cX3_toldOfTicket 83 = .ok (.getfield 203, 3) := by decide +kernel
theorem dX3_toldOfTicket_86 : decode cX3_toldOfTicket 86 = .ok (.ireturn, 1) := by decide +kernel
theorem dX3_numberOfAgent_0 : decode cX3_numberOfAgent 0 = .ok (.aload_n 0, 1) := by decide +kernel
theorem dX3_numberOfAgent_1 : decode cX3_numberOfAgent 1 = .ok (.ifnonnull 7, 3) := by decide +kernel
theorem dX3_numberOfAgent_4 : decode cX3_numberOfAgent 4 = .ok (.iconst (-1), 1) := by decide +kernel
theorem dX3_numberOfAgent_5 : decode cX3_numberOfAgent 5 = .ok (.goto 7, 3) := by decide +kernel
theorem dX3_numberOfAgent_8 : decode cX3_numberOfAgent 8 = .ok (.aload_n 0, 1) := by decide +kernel
theorem dX3_numberOfAgent_9 : decode cX3_numberOfAgent 9 = .ok (.getfield 95, 3) := by decide +kernel
theorem dX3_numberOfAgent_12 : decode cX3_numberOfAgent 12 = .ok (.ireturn, 1) := by decide +kernel
theorem dX3_numberOfTicket_0 : decode cX3_numberOfTicket 0 = .ok (.aload_n 0, 1) := by decide +kernel
theorem dX3_numberOfTicket_1 : decode cX3_numberOfTicket 1 = .ok (.ifnonnull 7, 3) := by decide +kernel
theorem dX3_numberOfTicket_4 : decode cX3_numberOfTicket 4 = .ok (.iconst (-1), 1) := by decide +kernel
theorem dX3_numberOfTicket_5 : decode cX3_numberOfTicket 5 = .ok (.goto 7, 3) := by decide +kernel
theorem dX3_numberOfTicket_8 : decode cX3_numberOfTicket 8 = .ok (.aload_n 0, 1) := by decide +kernel
theorem dX3_numberOfTicket_9 : decode cX3_numberOfTicket 9 = .ok (.getfield 142, 3) := by decide +kernel
theorem dX3_numberOfTicket_12 : decode cX3_numberOfTicket 12 = .ok (.ireturn, 1) := by decide +kernel
theorem dX3_mainOf_0 : decode cX3_mainOf 0 = .ok (.aload_n 0, 1) := by decide +kernel
theorem dX3_mainOf_1 : decode cX3_mainOf 1 = .ok (.astore_n 1, 1) := by decide +kernel
theorem dX3_mainOf_2 : decode cX3_mainOf 2 = .ok (.aload_n 1, 1) := by decide +kernel
theorem dX3_mainOf_3 : decode cX3_mainOf 3 = .ok (.getfield 179, 3) := by decide +kernel
theorem dX3_mainOf_6 : decode cX3_mainOf 6 = .ok (.astore_n 2, 1) := by decide +kernel
theorem dX3_mainOf_7 : decode cX3_mainOf 7 = .ok (.iconst 0, 1) := by decide +kernel
theorem dX3_mainOf_8 : decode cX3_mainOf 8 = .ok (.istore_n 3, 1) := by decide +kernel
theorem dX3_mainOf_9 : decode cX3_mainOf 9 = .ok (.iload_n 3, 1) := by decide +kernel
theorem dX3_mainOf_10 : decode cX3_mainOf 10 = .ok (.bipush 20, 2) := by decide +kernel
theorem dX3_mainOf_12 : decode cX3_mainOf 12 = .ok (.if_icmp .ge 20, 3) := by decide +kernel
theorem dX3_mainOf_15 : decode cX3_mainOf 15 = .ok (.aload_n 2, 1) := by decide +kernel
theorem dX3_mainOf_16 : decode cX3_mainOf 16 = .ok (.ifnull 16, 3) := by decide +kernel
theorem dX3_mainOf_19 : decode cX3_mainOf 19 = .ok (.aload_n 2, 1) := by decide +kernel
theorem dX3_mainOf_20 : decode cX3_mainOf 20 = .ok (.astore_n 1, 1) := by decide +kernel
theorem dX3_mainOf_21 : decode cX3_mainOf 21 = .ok (.aload_n 1, 1) := by decide +kernel
theorem dX3_mainOf_22 : decode cX3_mainOf 22 = .ok (.getfield 179, 3) := by decide +kernel
theorem dX3_mainOf_25 : decode cX3_mainOf 25 = .ok (.astore_n 2, 1) := by decide +kernel
theorem dX3_mainOf_26 : decode cX3_mainOf 26 = .ok (.iinc 3 1, 3) := by decide +kernel
theorem dX3_mainOf_29 : decode cX3_mainOf 29 = .ok (.goto (-20), 3) := by decide +kernel
theorem dX3_mainOf_32 : decode cX3_mainOf 32 = .ok (.aload_n 1, 1) := by decide +kernel
theorem dX3_mainOf_33 : decode cX3_mainOf 33 = .ok (.areturn, 1) := by decide +kernel
theorem dX3_digested_0 : decode cX3_digested 0 = .ok (.lload_n 0, 1) := by decide +kernel
theorem dX3_digested_1 : decode cX3_digested 1 = .ok (.ldc2_w 305, 3) := by decide +kernel
theorem dX3_digested_4 : decode cX3_digested 4 = .ok (.lmul, 1) := by decide +kernel
theorem dX3_digested_5 : decode cX3_digested 5 = .ok (.iload_n 2, 1) := by decide +kernel
theorem dX3_digested_6 : decode cX3_digested 6 = .ok (.i2l, 1) := by decide +kernel
theorem dX3_digested_7 : decode cX3_digested 7 = .ok (.ladd, 1) := by decide +kernel
theorem dX3_digested_8 : decode cX3_digested 8 = .ok (.lreturn, 1) := by decide +kernel
theorem dX3_digestedAgent_0 : decode cX3_digestedAgent 0 = .ok (.lload_n 1, 1) := by decide +kernel
theorem dX3_digestedAgent_1 : decode cX3_digestedAgent 1 = .ok (.aload_n 3, 1) := by decide +kernel
theorem dX3_digestedAgent_2 : decode cX3_digestedAgent 2 = .ok (.getfield 104, 3) := by decide +kernel
theorem dX3_digestedAgent_5 : decode cX3_digestedAgent 5 = .ok (.invokestatic 244, 3) := by decide +kernel
theorem dX3_digestedAgent_8 : decode cX3_digestedAgent 8 = .ok (.lstore 4, 2) := by decide +kernel
theorem dX3_digestedAgent_10 : decode cX3_digestedAgent 10 = .ok (.iconst 0, 1) := by decide +kernel
theorem dX3_digestedAgent_11 : decode cX3_digestedAgent 11 = .ok (.istore 6, 2) := by decide +kernel
theorem dX3_digestedAgent_13 : decode cX3_digestedAgent 13 = .ok (.iload 6, 2) := by decide +kernel
theorem dX3_digestedAgent_15 : decode cX3_digestedAgent 15 = .ok (.iconst 4, 1) := by decide +kernel
theorem dX3_digestedAgent_16 : decode cX3_digestedAgent 16 = .ok (.if_icmp .ge 23, 3) := by decide +kernel
theorem dX3_digestedAgent_19 : decode cX3_digestedAgent 19 = .ok (.lload 4, 2) := by decide +kernel
theorem dX3_digestedAgent_21 : decode cX3_digestedAgent 21 = .ok (.aload_n 0, 1) := by decide +kernel
theorem dX3_digestedAgent_22 : decode cX3_digestedAgent 22 = .ok (.aload_n 3, 1) := by decide +kernel
theorem dX3_digestedAgent_23 : decode cX3_digestedAgent 23 = .ok (.iload 6, 2) := by decide +kernel
theorem dX3_digestedAgent_25 : decode cX3_digestedAgent 25 = .ok (.invokevirtual 125, 3) := by decide +kernel
theorem dX3_digestedAgent_28 : decode cX3_digestedAgent 28 = .ok (.invokestatic 244, 3) := by decide +kernel
theorem dX3_digestedAgent_31 : decode cX3_digestedAgent 31 = .ok (.lstore 4, 2) := by decide +kernel
theorem dX3_digestedAgent_33 : decode cX3_digestedAgent 33 = .ok (.iinc 6 1, 3) := by decide +kernel
theorem dX3_digestedAgent_36 : decode cX3_digestedAgent 36 = .ok (.goto (-23), 3) := by decide +kernel
theorem dX3_digestedAgent_39 : decode cX3_digestedAgent 39 = .ok (.lload 4, 2) := by decide +kernel
theorem dX3_digestedAgent_41 : decode cX3_digestedAgent 41 = .ok (.lreturn, 1) := by decide +kernel
theorem dX3_digestedTicket_0 : decode cX3_digestedTicket 0 = .ok (.lload_n 0, 1) := by decide +kernel
theorem dX3_digestedTicket_1 : decode cX3_digestedTicket 1 = .ok (.aload_n 2, 1) := by decide +kernel
theorem dX3_digestedTicket_2 : decode cX3_digestedTicket 2 = .ok (.getfield 111, 3) := by decide +kernel
theorem dX3_digestedTicket_5 : decode cX3_digestedTicket 5 = .ok (.invokestatic 244, 3) := by decide +kernel
theorem dX3_digestedTicket_8 : decode cX3_digestedTicket 8 = .ok (.lstore_n 3, 1) := by decide +kernel
theorem dX3_digestedTicket_9 : decode cX3_digestedTicket 9 = .ok (.iconst 0, 1) := by decide +kernel
theorem dX3_digestedTicket_10 : decode cX3_digestedTicket 10 = .ok (.istore 5, 2) := by decide +kernel
theorem dX3_digestedTicket_12 : decode cX3_digestedTicket 12 = .ok (.iload 5, 2) := by decide +kernel
theorem dX3_digestedTicket_14 : decode cX3_digestedTicket 14 = .ok (.bipush 8, 2) := by decide +kernel
theorem dX3_digestedTicket_16 : decode cX3_digestedTicket 16 = .ok (.if_icmp .ge 20, 3) := by decide +kernel
theorem dX3_digestedTicket_19 : decode cX3_digestedTicket 19 = .ok (.lload_n 3, 1) := by decide +kernel
theorem dX3_digestedTicket_20 : decode cX3_digestedTicket 20 = .ok (.aload_n 2, 1) := by decide +kernel
theorem dX3_digestedTicket_21 : decode cX3_digestedTicket 21 = .ok (.iload 5, 2) := by decide +kernel
theorem dX3_digestedTicket_23 : decode cX3_digestedTicket 23 = .ok (.invokestatic 208, 3) := by decide +kernel
theorem dX3_digestedTicket_26 : decode cX3_digestedTicket 26 = .ok (.invokestatic 244, 3) := by decide +kernel
theorem dX3_digestedTicket_29 : decode cX3_digestedTicket 29 = .ok (.lstore_n 3, 1) := by decide +kernel
theorem dX3_digestedTicket_30 : decode cX3_digestedTicket 30 = .ok (.iinc 5 1, 3) := by decide +kernel
theorem dX3_digestedTicket_33 : decode cX3_digestedTicket 33 = .ok (.goto (-21), 3) := by decide +kernel
theorem dX3_digestedTicket_36 : decode cX3_digestedTicket 36 = .ok (.lload_n 3, 1) := by decide +kernel
theorem dX3_digestedTicket_37 : decode cX3_digestedTicket 37 = .ok (.aload_n 2, 1) := by decide +kernel
theorem dX3_digestedTicket_38 : decode cX3_digestedTicket 38 = .ok (.invokestatic 212, 3) := by decide +kernel
theorem dX3_digestedTicket_41 : decode cX3_digestedTicket 41 = .ok (.getfield 142, 3) := by decide +kernel
theorem dX3_digestedTicket_44 : decode cX3_digestedTicket 44 = .ok (.invokestatic 244, 3) := by decide +kernel
theorem dX3_digestedTicket_47 : decode cX3_digestedTicket 47 = .ok (.lstore_n 3, 1) := by decide +kernel
theorem dX3_digestedTicket_48 : decode cX3_digestedTicket 48 = .ok (.lload_n 3, 1) := by decide +kernel
theorem dX3_digestedTicket_49 : decode cX3_digestedTicket 49 = .ok (.aload_n 2, 1) := by decide +kernel
theorem dX3_digestedTicket_50 : decode cX3_digestedTicket 50 = .ok (.getfield 193, 3) := by decide +kernel
theorem dX3_digestedTicket_53 : decode cX3_digestedTicket 53 = .ok (.invokestatic 244, 3) := by decide +kernel
theorem dX3_digestedTicket_56 : decode cX3_digestedTicket 56 = .ok (.lreturn, 1) := by decide +kernel
theorem dX3_agentAt_0 : decode cX3_agentAt 0 = .ok (.iload_n 1, 1) := by decide +kernel
theorem dX3_agentAt_1 : decode cX3_agentAt 1 = .ok (.ifCond .lt 14, 3) := by decide +kernel
theorem dX3_agentAt_4 : decode cX3_agentAt 4 = .ok (.iload_n 1, 1) := by decide +kernel
theorem dX3_agentAt_5 : decode cX3_agentAt 5 = .ok (.aload_n 0, 1) := by decide +kernel
theorem dX3_agentAt_6 : decode cX3_agentAt 6 = .ok (.getfield 26, 3) := by decide +kernel
theorem dX3_agentAt_9 : decode cX3_agentAt 9 = .ok (.invokevirtual 77, 3) := by decide +kernel
theorem dX3_agentAt_12 : decode cX3_agentAt 12 = .ok (.if_icmp .lt 14, 3) := by decide +kernel
theorem dX3_agentAt_15 : decode cX3_agentAt 15 = .ok (.new 58, 3) := by decide +kernel
theorem dX3_agentAt_18 : decode cX3_agentAt 18 = .ok (.dup, 1) := by decide +kernel
theorem dX3_agentAt_19 : decode cX3_agentAt 19 = .ok (.ldc_w 307, 3) := by decide +kernel
theorem dX3_agentAt_22 : decode cX3_agentAt 22 = .ok (.invokespecial 62, 3) := by decide +kernel
theorem dX3_agentAt_25 : decode cX3_agentAt 25 = .ok (.athrow, 1) := by decide +kernel
theorem dX3_agentAt_26 : decode cX3_agentAt 26 = .ok (.aload_n 0, 1) := by decide +kernel
theorem dX3_agentAt_27 : decode cX3_agentAt 27 = .ok (.getfield 26, 3) := by decide +kernel
theorem dX3_agentAt_30 : decode cX3_agentAt 30 = .ok (.iload_n 1, 1) := by decide +kernel
theorem dX3_agentAt_31 : decode cX3_agentAt 31 = .ok (.invokevirtual 231, 3) := by decide +kernel
theorem dX3_agentAt_34 : decode cX3_agentAt 34 = .ok (.checkcast 86, 3) := by decide +kernel
theorem dX3_agentAt_37 : decode cX3_agentAt 37 = .ok (.areturn, 1) := by decide +kernel
theorem dX3_ticketAt_0 : decode cX3_ticketAt 0 = .ok (.iload_n 1, 1) := by decide +kernel
theorem dX3_ticketAt_1 : decode cX3_ticketAt 1 = .ok (.ifCond .lt 14, 3) := by decide +kernel
theorem dX3_ticketAt_4 : decode cX3_ticketAt 4 = .ok (.iload_n 1, 1) := by decide +kernel
theorem dX3_ticketAt_5 : decode cX3_ticketAt 5 = .ok (.aload_n 0, 1) := by decide +kernel
theorem dX3_ticketAt_6 : decode cX3_ticketAt 6 = .ok (.getfield 30, 3) := by decide +kernel
theorem dX3_ticketAt_9 : decode cX3_ticketAt 9 = .ok (.invokevirtual 77, 3) := by decide +kernel
theorem dX3_ticketAt_12 : decode cX3_ticketAt 12 = .ok (.if_icmp .lt 14, 3) := by decide +kernel
theorem dX3_ticketAt_15 : decode cX3_ticketAt 15 = .ok (.new 58, 3) := by decide +kernel
theorem dX3_ticketAt_18 : decode cX3_ticketAt 18 = .ok (.dup, 1) := by decide +kernel
theorem dX3_ticketAt_19 : decode cX3_ticketAt 19 = .ok (.ldc_w 309, 3) := by decide +kernel
theorem dX3_ticketAt_22 : decode cX3_ticketAt 22 = .ok (.invokespecial 62, 3) := by decide +kernel
theorem dX3_ticketAt_25 : decode cX3_ticketAt 25 = .ok (.athrow, 1) := by decide +kernel
theorem dX3_ticketAt_26 : decode cX3_ticketAt 26 = .ok (.aload_n 0, 1) := by decide +kernel
theorem dX3_ticketAt_27 : decode cX3_ticketAt 27 = .ok (.getfield 30, 3) := by decide +kernel
theorem dX3_ticketAt_30 : decode cX3_ticketAt 30 = .ok (.iload_n 1, 1) := by decide +kernel
theorem dX3_ticketAt_31 : decode cX3_ticketAt 31 = .ok (.invokevirtual 231, 3) := by decide +kernel
theorem dX3_ticketAt_34 : decode cX3_ticketAt 34 = .ok (.checkcast 112, 3) := by decide +kernel
theorem dX3_ticketAt_37 : decode cX3_ticketAt 37 = .ok (.areturn, 1) := by decide +kernel
theorem dX3_isPriority_0 : decode cX3_isPriority 0 = .ok (.iload_n 0, 1) := by decide +kernel
theorem dX3_isPriority_1 : decode cX3_isPriority 1 = .ok (.ifCond .lt 12, 3) := by decide +kernel
theorem dX3_isPriority_4 : decode cX3_isPriority 4 = .ok (.iload_n 0, 1) := by decide +kernel
theorem dX3_isPriority_5 : decode cX3_isPriority 5 = .ok (.iconst 4, 1) := by decide +kernel
theorem dX3_isPriority_6 : decode cX3_isPriority 6 = .ok (.if_icmp .ge 7, 3) := by decide +kernel
theorem dX3_isPriority_9 : decode cX3_isPriority 9 = .ok (.iconst 1, 1) := by decide +kernel
theorem dX3_isPriority_10 : decode cX3_isPriority 10 = .ok (.goto 4, 3) := by decide +kernel
theorem dX3_isPriority_13 : decode cX3_isPriority 13 = .ok (.iconst 0, 1) := by decide +kernel
theorem dX3_isPriority_14 : decode cX3_isPriority 14 = .ok (.ireturn, 1) := by decide +kernel
theorem dX3_isSetOfSkills_0 : decode cX3_isSetOfSkills 0 = .ok (.iload_n 0, 1) := by decide +kernel
theorem dX3_isSetOfSkills_1 : decode cX3_isSetOfSkills 1 = .ok (.ifCond .lt 14, 3) := by decide +kernel
theorem dX3_isSetOfSkills_4 : decode cX3_isSetOfSkills 4 = .ok (.iload_n 0, 1) := by decide +kernel
theorem dX3_isSetOfSkills_5 : decode cX3_isSetOfSkills 5 = .ok (.sipush 255, 3) := by decide +kernel
theorem dX3_isSetOfSkills_8 : decode cX3_isSetOfSkills 8 = .ok (.if_icmp .gt 7, 3) := by decide +kernel
theorem dX3_isSetOfSkills_11 : decode cX3_isSetOfSkills 11 = .ok (.iconst 1, 1) := by decide +kernel
theorem dX3_isSetOfSkills_12 : decode cX3_isSetOfSkills 12 = .ok (.goto 4, 3) := by decide +kernel
theorem dX3_isSetOfSkills_15 : decode cX3_isSetOfSkills 15 = .ok (.iconst 0, 1) := by decide +kernel
theorem dX3_isSetOfSkills_16 : decode cX3_isSetOfSkills 16 = .ok (.ireturn, 1) := by decide +kernel
theorem dX3_isSpanOfDay_0 : decode cX3_isSpanOfDay 0 = .ok (.iload_n 0, 1) := by decide +kernel
theorem dX3_isSpanOfDay_1 : decode cX3_isSpanOfDay 1 = .ok (.ifCond .lt 26, 3) := by decide +kernel
theorem dX3_isSpanOfDay_4 : decode cX3_isSpanOfDay 4 = .ok (.iload_n 0, 1) := by decide +kernel
theorem dX3_isSpanOfDay_5 : decode cX3_isSpanOfDay 5 = .ok (.sipush 1440, 3) := by decide +kernel
theorem dX3_isSpanOfDay_8 : decode cX3_isSpanOfDay 8 = .ok (.if_icmp .ge 19, 3) := by decide +kernel
theorem dX3_isSpanOfDay_11 : decode cX3_isSpanOfDay 11 = .ok (.iload_n 1, 1) := by decide +kernel
theorem dX3_isSpanOfDay_12 : decode cX3_isSpanOfDay 12 = .ok (.iload_n 0, 1) := by decide +kernel
theorem dX3_isSpanOfDay_13 : decode cX3_isSpanOfDay 13 = .ok (.if_icmp .le 14, 3) := by decide +kernel
theorem dX3_isSpanOfDay_16 : decode cX3_isSpanOfDay 16 = .ok (.iload_n 1, 1) := by decide +kernel
theorem dX3_isSpanOfDay_17 : decode cX3_isSpanOfDay 17 = .ok (.sipush 1440, 3) := by decide +kernel
theorem dX3_isSpanOfDay_20 : decode cX3_isSpanOfDay 20 = .ok (.if_icmp .gt 7, 3) := by decide +kernel
theorem dX3_isSpanOfDay_23 : decode cX3_isSpanOfDay 23 = .ok (.iconst 1, 1) := by decide +kernel
theorem dX3_isSpanOfDay_24 : decode cX3_isSpanOfDay 24 = .ok (.goto 4, 3) := by decide +kernel
theorem dX3_isSpanOfDay_27 : decode cX3_isSpanOfDay 27 = .ok (.iconst 0, 1) := by decide +kernel
theorem dX3_isSpanOfDay_28 : decode cX3_isSpanOfDay 28 = .ok (.ireturn, 1) := by decide +kernel
theorem dX3_dayOfWeek_0 : decode cX3_dayOfWeek 0 = .ok (.iload_n 0, 1) := by decide +kernel
theorem dX3_dayOfWeek_1 : decode cX3_dayOfWeek 1 = .ok (.sipush 1440, 3) := by decide +kernel
theorem dX3_dayOfWeek_4 : decode cX3_dayOfWeek 4 = .ok (.idiv, 1) := by decide +kernel
theorem dX3_dayOfWeek_5 : decode cX3_dayOfWeek 5 = .ok (.bipush 7, 2) := by decide +kernel
theorem dX3_dayOfWeek_7 : decode cX3_dayOfWeek 7 = .ok (.irem, 1) := by decide +kernel
theorem dX3_dayOfWeek_8 : decode cX3_dayOfWeek 8 = .ok (.ireturn, 1) := by decide +kernel
theorem dJ9_max_7cf53_0 : decode cJ9_max_7cf53 0 = .ok (.iload_n 0, 1) := by decide +kernel
theorem dJ9_max_7cf53_1 : decode cJ9_max_7cf53 1 = .ok (.iload_n 1, 1) := by decide +kernel
theorem dJ9_max_7cf53_2 : decode cJ9_max_7cf53 2 = .ok (.if_icmp .lt 7, 3) := by decide +kernel
theorem dJ9_max_7cf53_5 : decode cJ9_max_7cf53 5 = .ok (.iload_n 0, 1) := by decide +kernel
theorem dJ9_max_7cf53_6 : decode cJ9_max_7cf53 6 = .ok (.goto 4, 3) := by decide +kernel
theorem dJ9_max_7cf53_9 : decode cJ9_max_7cf53 9 = .ok (.iload_n 1, 1) := by decide +kernel
theorem dJ9_max_7cf53_10 : decode cJ9_max_7cf53 10 = .ok (.ireturn, 1) := by decide +kernel
theorem dJ9_min_7cf53_0 : decode cJ9_min_7cf53 0 = .ok (.iload_n 0, 1) := by decide +kernel
theorem dJ9_min_7cf53_1 : decode cJ9_min_7cf53 1 = .ok (.iload_n 1, 1) := by decide +kernel
theorem dJ9_min_7cf53_2 : decode cJ9_min_7cf53 2 = .ok (.if_icmp .gt 7, 3) := by decide +kernel
theorem dJ9_min_7cf53_5 : decode cJ9_min_7cf53 5 = .ok (.iload_n 0, 1) := by decide +kernel
theorem dJ9_min_7cf53_6 : decode cJ9_min_7cf53 6 = .ok (.goto 4, 3) := by decide +kernel
theorem dJ9_min_7cf53_9 : decode cJ9_min_7cf53 9 = .ok (.iload_n 1, 1) := by decide +kernel
theorem dJ9_min_7cf53_10 : decode cJ9_min_7cf53 10 = .ok (.ireturn, 1) := by decide +kernel
theorem dJxa1e45_init_da8c8_0 : decode cJxa1e45_init_da8c8 0 = .ok (.aload_n 0, 1) := by decide +kernel
theorem dJxa1e45_init_da8c8_1 : decode cJxa1e45_init_da8c8 1 = .ok (.invokespecial 1, 3) := by decide +kernel
theorem dJxa1e45_init_da8c8_4 : decode cJxa1e45_init_da8c8 4 = .ok (.return_, 1) := by decide +kernel
theorem dJxc12de_init_da8c8_0 : decode cJxc12de_init_da8c8 0 = .ok (.aload_n 0, 1) := by decide +kernel
theorem dJxc12de_init_da8c8_1 : decode cJxc12de_init_da8c8 1 = .ok (.invokespecial 1, 3) := by decide +kernel
theorem dJxc12de_init_da8c8_4 : decode cJxc12de_init_da8c8 4 = .ok (.aload_n 0, 1) := by decide +kernel
theorem dJxc12de_init_da8c8_5 : decode cJxc12de_init_da8c8 5 = .ok (.iconst 0, 1) := by decide +kernel
theorem dJxc12de_init_da8c8_6 : decode cJxc12de_init_da8c8 6 = .ok (.putfield 7, 3) := by decide +kernel
theorem dJxc12de_init_da8c8_9 : decode cJxc12de_init_da8c8 9 = .ok (.return_, 1) := by decide +kernel
theorem dJx4a65c_init_da8c8_0 : decode cJx4a65c_init_da8c8 0 = .ok (.aload_n 0, 1) := by decide +kernel
theorem dJx4a65c_init_da8c8_1 : decode cJx4a65c_init_da8c8 1 = .ok (.invokespecial 1, 3) := by decide +kernel
theorem dJx4a65c_init_da8c8_4 : decode cJx4a65c_init_da8c8 4 = .ok (.aload_n 0, 1) := by decide +kernel
theorem dJx4a65c_init_da8c8_5 : decode cJx4a65c_init_da8c8 5 = .ok (.getstatic 39, 3) := by decide +kernel
theorem dJx4a65c_init_da8c8_8 : decode cJx4a65c_init_da8c8 8 = .ok (.putfield 9, 3) := by decide +kernel
theorem dJx4a65c_init_da8c8_11 : decode cJx4a65c_init_da8c8 11 = .ok (.return_, 1) := by decide +kernel
theorem dJx4a65c_grow_92f84_0 : decode cJx4a65c_grow_92f84 0 = .ok (.aload_n 0, 1) := by decide +kernel
theorem dJx4a65c_grow_92f84_1 : decode cJx4a65c_grow_92f84 1 = .ok (.getfield 9, 3) := by decide +kernel
theorem dJx4a65c_grow_92f84_4 : decode cJx4a65c_grow_92f84 4 = .ok (.arraylength, 1) := by decide +kernel
theorem dJx4a65c_grow_92f84_5 : decode cJx4a65c_grow_92f84 5 = .ok (.istore_n 2, 1) := by decide +kernel
theorem dJx4a65c_grow_92f84_6 : decode cJx4a65c_grow_92f84 6 = .ok (.iload_n 2, 1) := by decide +kernel
theorem dJx4a65c_grow_92f84_7 : decode cJx4a65c_grow_92f84 7 = .ok (.ifCond .gt 13, 3) := by decide +kernel
theorem dJx4a65c_grow_92f84_10 : decode cJx4a65c_grow_92f84 10 = .ok (.aload_n 0, 1) := by decide +kernel
theorem dJx4a65c_grow_92f84_11 : decode cJx4a65c_grow_92f84 11 = .ok (.getfield 9, 3) := by decide +kernel
theorem dJx4a65c_grow_92f84_14 : decode cJx4a65c_grow_92f84 14 = .ok (.getstatic 39, 3) := by decide +kernel
theorem dJx4a65c_grow_92f84_17 : decode cJx4a65c_grow_92f84 17 = .ok (.if_acmp .eq 28, 3) := by decide +kernel
theorem dJx4a65c_grow_92f84_20 : decode cJx4a65c_grow_92f84 20 = .ok (.iload_n 2, 1) := by decide +kernel
theorem dJx4a65c_grow_92f84_21 : decode cJx4a65c_grow_92f84 21 = .ok (.iload_n 1, 1) := by decide +kernel
theorem dJx4a65c_grow_92f84_22 : decode cJx4a65c_grow_92f84 22 = .ok (.iload_n 2, 1) := by decide +kernel
theorem dJx4a65c_grow_92f84_23 : decode cJx4a65c_grow_92f84 23 = .ok (.isub, 1) := by decide +kernel
theorem dJx4a65c_grow_92f84_24 : decode cJx4a65c_grow_92f84 24 = .ok (.iload_n 2, 1) := by decide +kernel
theorem dJx4a65c_grow_92f84_25 : decode cJx4a65c_grow_92f84 25 = .ok (.iconst 1, 1) := by decide +kernel
theorem dJx4a65c_grow_92f84_26 : decode cJx4a65c_grow_92f84 26 = .ok (.ishr, 1) := by decide +kernel
theorem dJx4a65c_grow_92f84_27 : decode cJx4a65c_grow_92f84 27 = .ok (.invokestatic 73, 3) := by decide +kernel
theorem dJx4a65c_grow_92f84_30 : decode cJx4a65c_grow_92f84 30 = .ok (.istore_n 3, 1) := by decide +kernel
theorem dJx4a65c_grow_92f84_31 : decode cJx4a65c_grow_92f84 31 = .ok (.aload_n 0, 1) := by decide +kernel
theorem dJx4a65c_grow_92f84_32 : decode cJx4a65c_grow_92f84 32 = .ok (.aload_n 0, 1) := by decide +kernel
theorem dJx4a65c_grow_92f84_33 : decode cJx4a65c_grow_92f84 33 = .ok (.getfield 9, 3) := by decide +kernel
theorem dJx4a65c_grow_92f84_36 : decode cJx4a65c_grow_92f84 36 = .ok (.iload_n 3, 1) := by decide +kernel
theorem dJx4a65c_grow_92f84_37 : decode cJx4a65c_grow_92f84 37 = .ok (.invokestatic 66, 3) := by decide +kernel
theorem dJx4a65c_grow_92f84_40 : decode cJx4a65c_grow_92f84 40 = .ok (.dup_x1, 1) := by decide +kernel
theorem dJx4a65c_grow_92f84_41 : decode cJx4a65c_grow_92f84 41 = .ok (.putfield 9, 3) := by decide +kernel
theorem dJx4a65c_grow_92f84_44 : decode cJx4a65c_grow_92f84 44 = .ok (.areturn, 1) := by decide +kernel
theorem dJx4a65c_grow_92f84_45 : decode cJx4a65c_grow_92f84 45 = .ok (.aload_n 0, 1) := by decide +kernel
theorem dJx4a65c_grow_92f84_46 : decode cJx4a65c_grow_92f84 46 = .ok (.bipush 10, 2) := by decide +kernel
theorem dJx4a65c_grow_92f84_48 : decode cJx4a65c_grow_92f84 48 = .ok (.iload_n 1, 1) := by decide +kernel
theorem dJx4a65c_grow_92f84_49 : decode cJx4a65c_grow_92f84 49 = .ok (.invokestatic 79, 3) := by decide +kernel
theorem dJx4a65c_grow_92f84_52 : decode cJx4a65c_grow_92f84 52 = .ok (.anewarray 7, 3) := by decide +kernel
theorem dJx4a65c_grow_92f84_55 : decode cJx4a65c_grow_92f84 55 = .ok (.dup_x1, 1) := by decide +kernel
theorem dJx4a65c_grow_92f84_56 : decode cJx4a65c_grow_92f84 56 = .ok (.putfield 9, 3) := by decide +kernel
theorem dJx4a65c_grow_92f84_59 : decode cJx4a65c_grow_92f84 59 = .ok (.areturn, 1) := by decide +kernel
theorem dJx4a65c_grow_d5877_0 : decode cJx4a65c_grow_d5877 0 = .ok (.aload_n 0, 1) := by decide +kernel
theorem dJx4a65c_grow_d5877_1 : decode cJx4a65c_grow_d5877 1 = .ok (.aload_n 0, 1) := by decide +kernel
theorem dJx4a65c_grow_d5877_2 : decode cJx4a65c_grow_d5877 2 = .ok (.getfield 48, 3) := by decide +kernel
theorem dJx4a65c_grow_d5877_5 : decode cJx4a65c_grow_d5877 5 = .ok (.iconst 1, 1) := by decide +kernel
theorem dJx4a65c_grow_d5877_6 : decode cJx4a65c_grow_d5877 6 = .ok (.iadd, 1) := by decide +kernel
theorem dJx4a65c_grow_d5877_7 : decode cJx4a65c_grow_d5877 7 = .ok (.invokevirtual 69, 3) := by decide +kernel
theorem dJx4a65c_grow_d5877_10 : decode cJx4a65c_grow_d5877 10 = .ok (.areturn, 1) := by decide +kernel
theorem dJx4a65c_size_8abf5_0 : decode cJx4a65c_size_8abf5 0 = .ok (.aload_n 0, 1) := by decide +kernel
theorem dJx4a65c_size_8abf5_1 : decode cJx4a65c_size_8abf5 1 = .ok (.getfield 48, 3) := by decide +kernel
theorem dJx4a65c_size_8abf5_4 : decode cJx4a65c_size_8abf5 4 = .ok (.ireturn, 1) := by decide +kernel
theorem dJx4a65c_elementData_915e3_0 : decode cJx4a65c_elementData_915e3 0 = .ok (.aload_n 0, 1) := by decide +kernel
theorem dJx4a65c_elementData_915e3_1 : decode cJx4a65c_elementData_915e3 1 = .ok (.getfield 9, 3) := by decide +kernel
theorem dJx4a65c_elementData_915e3_4 : decode cJx4a65c_elementData_915e3 4 = .ok (.iload_n 1, 1) := by decide +kernel
theorem dJx4a65c_elementData_915e3_5 : decode cJx4a65c_elementData_915e3 5 = .ok (.aaload, 1) := by decide +kernel
theorem dJx4a65c_elementData_915e3_6 : decode cJx4a65c_elementData_915e3 6 = .ok (.areturn, 1) := by decide +kernel
theorem dJx4a65c_get_915e3_0 : decode cJx4a65c_get_915e3 0 = .ok (.iload_n 1, 1) := by decide +kernel
theorem dJx4a65c_get_915e3_1 : decode cJx4a65c_get_915e3 1 = .ok (.aload_n 0, 1) := by decide +kernel
theorem dJx4a65c_get_915e3_2 : decode cJx4a65c_get_915e3 2 = .ok (.getfield 48, 3) := by decide +kernel
theorem dJx4a65c_get_915e3_5 : decode cJx4a65c_get_915e3 5 = .ok (.invokestatic 118, 3) := by decide +kernel
theorem dJx4a65c_get_915e3_8 : decode cJx4a65c_get_915e3 8 = .ok (.pop, 1) := by decide +kernel
theorem dJx4a65c_get_915e3_9 : decode cJx4a65c_get_915e3 9 = .ok (.aload_n 0, 1) := by decide +kernel
theorem dJx4a65c_get_915e3_10 : decode cJx4a65c_get_915e3 10 = .ok (.iload_n 1, 1) := by decide +kernel
theorem dJx4a65c_get_915e3_11 : decode cJx4a65c_get_915e3 11 = .ok (.invokevirtual 123, 3) := by decide +kernel
theorem dJx4a65c_get_915e3_14 : decode cJx4a65c_get_915e3 14 = .ok (.areturn, 1) := by decide +kernel
theorem dJx4a65c_add_72be8_0 : decode cJx4a65c_add_72be8 0 = .ok (.iload_n 3, 1) := by decide +kernel
theorem dJx4a65c_add_72be8_1 : decode cJx4a65c_add_72be8 1 = .ok (.aload_n 2, 1) := by decide +kernel
theorem dJx4a65c_add_72be8_2 : decode cJx4a65c_add_72be8 2 = .ok (.arraylength, 1) := by decide +kernel
theorem dJx4a65c_add_72be8_3 : decode cJx4a65c_add_72be8 3 = .ok (.if_icmp .ne 8, 3) := by decide +kernel
theorem dJx4a65c_add_72be8_6 : decode cJx4a65c_add_72be8 6 = .ok (.aload_n 0, 1) := by decide +kernel
theorem dJx4a65c_add_72be8_7 : decode cJx4a65c_add_72be8 7 = .ok (.invokevirtual 129, 3) := by decide +kernel
theorem dJx4a65c_add_72be8_10 : decode cJx4a65c_add_72be8 10 = .ok (.astore_n 2, 1) := by decide +kernel
theorem dJx4a65c_add_72be8_11 : decode cJx4a65c_add_72be8 11 = .ok (.aload_n 2, 1) := by decide +kernel
theorem dJx4a65c_add_72be8_12 : decode cJx4a65c_add_72be8 12 = .ok (.iload_n 3, 1) := by decide +kernel
theorem dJx4a65c_add_72be8_13 : decode cJx4a65c_add_72be8 13 = .ok (.aload_n 1, 1) := by decide +kernel
theorem dJx4a65c_add_72be8_14 : decode cJx4a65c_add_72be8 14 = .ok (.aastore, 1) := by decide +kernel
theorem dJx4a65c_add_72be8_15 : decode cJx4a65c_add_72be8 15 = .ok (.aload_n 0, 1) := by decide +kernel
theorem dJx4a65c_add_72be8_16 : decode cJx4a65c_add_72be8 16 = .ok (.iload_n 3, 1) := by decide +kernel
theorem dJx4a65c_add_72be8_17 : decode cJx4a65c_add_72be8 17 = .ok (.iconst 1, 1) := by decide +kernel
theorem dJx4a65c_add_72be8_18 : decode cJx4a65c_add_72be8 18 = .ok (.iadd, 1) := by decide +kernel
theorem dJx4a65c_add_72be8_19 : decode cJx4a65c_add_72be8 19 = .ok (.putfield 48, 3) := by decide +kernel
theorem dJx4a65c_add_72be8_22 : decode cJx4a65c_add_72be8 22 = .ok (.return_, 1) := by decide +kernel
theorem dJx4a65c_add_9ea2d_0 : decode cJx4a65c_add_9ea2d 0 = .ok (.aload_n 0, 1) := by decide +kernel
theorem dJx4a65c_add_9ea2d_1 : decode cJx4a65c_add_9ea2d 1 = .ok (.dup, 1) := by decide +kernel
theorem dJx4a65c_add_9ea2d_2 : decode cJx4a65c_add_9ea2d 2 = .ok (.getfield 63, 3) := by decide +kernel
theorem dJx4a65c_add_9ea2d_5 : decode cJx4a65c_add_9ea2d 5 = .ok (.iconst 1, 1) := by decide +kernel
theorem dJx4a65c_add_9ea2d_6 : decode cJx4a65c_add_9ea2d 6 = .ok (.iadd, 1) := by decide +kernel
theorem dJx4a65c_add_9ea2d_7 : decode cJx4a65c_add_9ea2d 7 = .ok (.putfield 63, 3) := by decide +kernel
theorem dJx4a65c_add_9ea2d_10 : decode cJx4a65c_add_9ea2d 10 = .ok (.aload_n 0, 1) := by decide +kernel
theorem dJx4a65c_add_9ea2d_11 : decode cJx4a65c_add_9ea2d 11 = .ok (.aload_n 1, 1) := by decide +kernel
theorem dJx4a65c_add_9ea2d_12 : decode cJx4a65c_add_9ea2d 12 = .ok (.aload_n 0, 1) := by decide +kernel
theorem dJx4a65c_add_9ea2d_13 : decode cJx4a65c_add_9ea2d 13 = .ok (.getfield 9, 3) := by decide +kernel
theorem dJx4a65c_add_9ea2d_16 : decode cJx4a65c_add_9ea2d 16 = .ok (.aload_n 0, 1) := by decide +kernel
theorem dJx4a65c_add_9ea2d_17 : decode cJx4a65c_add_9ea2d 17 = .ok (.getfield 48, 3) := by decide +kernel
theorem dJx4a65c_add_9ea2d_20 : decode cJx4a65c_add_9ea2d 20 = .ok (.invokevirtual 131, 3) := by decide +kernel
theorem dJx4a65c_add_9ea2d_23 : decode cJx4a65c_add_9ea2d 23 = .ok (.iconst 1, 1) := by decide +kernel
theorem dJx4a65c_add_9ea2d_24 : decode cJx4a65c_add_9ea2d 24 = .ok (.ireturn, 1) := by decide +kernel
theorem dJ7_copyOf_1904c_0 : decode cJ7_copyOf_1904c 0 = .ok (.aload_n 0, 1) := by decide +kernel
theorem dJ7_copyOf_1904c_1 : decode cJ7_copyOf_1904c 1 = .ok (.iload_n 1, 1) := by decide +kernel
theorem dJ7_copyOf_1904c_2 : decode cJ7_copyOf_1904c 2 = .ok (.aload_n 0, 1) := by decide +kernel
theorem dJ7_copyOf_1904c_3 : decode cJ7_copyOf_1904c 3 = .ok (.invokevirtual 86, 3) := by decide +kernel
theorem dJ7_copyOf_1904c_6 : decode cJ7_copyOf_1904c 6 = .ok (.invokestatic 300, 3) := by decide +kernel
theorem dJ7_copyOf_1904c_9 : decode cJ7_copyOf_1904c 9 = .ok (.areturn, 1) := by decide +kernel
theorem dJ7_copyOf_6403c_0 : decode cJ7_copyOf_6403c 0 = .ok (.aload_n 2, 1) := by decide +kernel
theorem dJ7_copyOf_6403c_1 : decode cJ7_copyOf_6403c 1 = .ok (.ldc 110, 2) := by decide +kernel
theorem dJ7_copyOf_6403c_3 : decode cJ7_copyOf_6403c 3 = .ok (.if_acmp .ne 10, 3) := by decide +kernel
theorem dJ7_copyOf_6403c_6 : decode cJ7_copyOf_6403c 6 = .ok (.iload_n 1, 1) := by decide +kernel
theorem dJ7_copyOf_6403c_7 : decode cJ7_copyOf_6403c 7 = .ok (.anewarray 2, 3) := by decide +kernel
theorem dJ7_copyOf_6403c_10 : decode cJ7_copyOf_6403c 10 = .ok (.goto 14, 3) := by decide +kernel
theorem dJ7_copyOf_6403c_13 : decode cJ7_copyOf_6403c 13 = .ok (.aload_n 2, 1) := by decide +kernel
theorem dJ7_copyOf_6403c_14 : decode cJ7_copyOf_6403c 14 = .ok (.invokevirtual 90, 3) := by decide +kernel
theorem dJ7_copyOf_6403c_17 : decode cJ7_copyOf_6403c 17 = .ok (.iload_n 1, 1) := by decide +kernel
theorem dJ7_copyOf_6403c_18 : decode cJ7_copyOf_6403c 18 = .ok (.invokestatic 95, 3) := by decide +kernel
theorem dJ7_copyOf_6403c_21 : decode cJ7_copyOf_6403c 21 = .ok (.checkcast 110, 3) := by decide +kernel
theorem dJ7_copyOf_6403c_24 : decode cJ7_copyOf_6403c 24 = .ok (.astore_n 3, 1) := by decide +kernel
theorem dJ7_copyOf_6403c_25 : decode cJ7_copyOf_6403c 25 = .ok (.aload_n 0, 1) := by decide +kernel
theorem dJ7_copyOf_6403c_26 : decode cJ7_copyOf_6403c 26 = .ok (.iconst 0, 1) := by decide +kernel
theorem dJ7_copyOf_6403c_27 : decode cJ7_copyOf_6403c 27 = .ok (.aload_n 3, 1) := by decide +kernel
theorem dJ7_copyOf_6403c_28 : decode cJ7_copyOf_6403c 28 = .ok (.iconst 0, 1) := by decide +kernel
theorem dJ7_copyOf_6403c_29 : decode cJ7_copyOf_6403c 29 = .ok (.aload_n 0, 1) := by decide +kernel
theorem dJ7_copyOf_6403c_30 : decode cJ7_copyOf_6403c 30 = .ok (.arraylength, 1) := by decide +kernel
theorem dJ7_copyOf_6403c_31 : decode cJ7_copyOf_6403c 31 = .ok (.iload_n 1, 1) := by decide +kernel
theorem dJ7_copyOf_6403c_32 : decode cJ7_copyOf_6403c 32 = .ok (.invokestatic 304, 3) := by decide +kernel
theorem dJ7_copyOf_6403c_35 : decode cJ7_copyOf_6403c 35 = .ok (.invokestatic 150, 3) := by decide +kernel
theorem dJ7_copyOf_6403c_38 : decode cJ7_copyOf_6403c 38 = .ok (.aload_n 3, 1) := by decide +kernel
theorem dJ7_copyOf_6403c_39 : decode cJ7_copyOf_6403c 39 = .ok (.areturn, 1) := by decide +kernel
theorem dJ15_checkIndex_7cf53_0 : decode cJ15_checkIndex_7cf53 0 = .ok (.iload_n 0, 1) := by decide +kernel
theorem dJ15_checkIndex_7cf53_1 : decode cJ15_checkIndex_7cf53 1 = .ok (.iload_n 1, 1) := by decide +kernel
theorem dJ15_checkIndex_7cf53_2 : decode cJ15_checkIndex_7cf53 2 = .ok (.aconst_null, 1) := by decide +kernel
theorem dJ15_checkIndex_7cf53_3 : decode cJ15_checkIndex_7cf53 3 = .ok (.invokestatic 105, 3) := by decide +kernel
theorem dJ15_checkIndex_7cf53_6 : decode cJ15_checkIndex_7cf53 6 = .ok (.ireturn, 1) := by decide +kernel
theorem dJ8_newLength_cabcc_0 : decode cJ8_newLength_cabcc 0 = .ok (.iload_n 0, 1) := by decide +kernel
theorem dJ8_newLength_cabcc_1 : decode cJ8_newLength_cabcc 1 = .ok (.iload_n 1, 1) := by decide +kernel
theorem dJ8_newLength_cabcc_2 : decode cJ8_newLength_cabcc 2 = .ok (.iload_n 2, 1) := by decide +kernel
theorem dJ8_newLength_cabcc_3 : decode cJ8_newLength_cabcc 3 = .ok (.invokestatic 194, 3) := by decide +kernel
theorem dJ8_newLength_cabcc_6 : decode cJ8_newLength_cabcc 6 = .ok (.iadd, 1) := by decide +kernel
theorem dJ8_newLength_cabcc_7 : decode cJ8_newLength_cabcc 7 = .ok (.istore_n 3, 1) := by decide +kernel
theorem dJ8_newLength_cabcc_8 : decode cJ8_newLength_cabcc 8 = .ok (.iconst 0, 1) := by decide +kernel
theorem dJ8_newLength_cabcc_9 : decode cJ8_newLength_cabcc 9 = .ok (.iload_n 3, 1) := by decide +kernel
theorem dJ8_newLength_cabcc_10 : decode cJ8_newLength_cabcc 10 = .ok (.if_icmp .ge 11, 3) := by decide +kernel
theorem dJ8_newLength_cabcc_13 : decode cJ8_newLength_cabcc 13 = .ok (.iload_n 3, 1) := by decide +kernel
theorem dJ8_newLength_cabcc_14 : decode cJ8_newLength_cabcc 14 = .ok (.ldc 200, 2) := by decide +kernel
theorem dJ8_newLength_cabcc_16 : decode cJ8_newLength_cabcc 16 = .ok (.if_icmp .gt 5, 3) := by decide +kernel
theorem dJ8_newLength_cabcc_19 : decode cJ8_newLength_cabcc 19 = .ok (.iload_n 3, 1) := by decide +kernel
theorem dJ8_newLength_cabcc_20 : decode cJ8_newLength_cabcc 20 = .ok (.ireturn, 1) := by decide +kernel
theorem dJ8_newLength_cabcc_21 : decode cJ8_newLength_cabcc 21 = .ok (.iload_n 0, 1) := by decide +kernel
theorem dJ8_newLength_cabcc_22 : decode cJ8_newLength_cabcc 22 = .ok (.iload_n 1, 1) := by decide +kernel
theorem dJ8_newLength_cabcc_23 : decode cJ8_newLength_cabcc 23 = .ok (.invokestatic 201, 3) := by decide +kernel
theorem dJ8_newLength_cabcc_26 : decode cJ8_newLength_cabcc 26 = .ok (.ireturn, 1) := by decide +kernel
theorem dJ8_hugeLength_7cf53_0 : decode cJ8_hugeLength_7cf53 0 = .ok (.iload_n 0, 1) := by decide +kernel
theorem dJ8_hugeLength_7cf53_1 : decode cJ8_hugeLength_7cf53 1 = .ok (.iload_n 1, 1) := by decide +kernel
theorem dJ8_hugeLength_7cf53_2 : decode cJ8_hugeLength_7cf53 2 = .ok (.iadd, 1) := by decide +kernel
theorem dJ8_hugeLength_7cf53_3 : decode cJ8_hugeLength_7cf53 3 = .ok (.istore_n 2, 1) := by decide +kernel
theorem dJ8_hugeLength_7cf53_4 : decode cJ8_hugeLength_7cf53 4 = .ok (.iload_n 2, 1) := by decide +kernel
theorem dJ8_hugeLength_7cf53_5 : decode cJ8_hugeLength_7cf53 5 = .ok (.ifCond .ge 44, 3) := by decide +kernel
theorem dJ8_hugeLength_7cf53_8 : decode cJ8_hugeLength_7cf53 8 = .ok (.new 204, 3) := by decide +kernel
theorem dJ8_hugeLength_7cf53_11 : decode cJ8_hugeLength_7cf53 11 = .ok (.dup, 1) := by decide +kernel
theorem dJ8_hugeLength_7cf53_12 : decode cJ8_hugeLength_7cf53 12 = .ok (.new 89, 3) := by decide +kernel
theorem dJ8_hugeLength_7cf53_15 : decode cJ8_hugeLength_7cf53 15 = .ok (.dup, 1) := by decide +kernel
theorem dJ8_hugeLength_7cf53_16 : decode cJ8_hugeLength_7cf53 16 = .ok (.invokespecial 91, 3) := by decide +kernel
theorem dJ8_hugeLength_7cf53_19 : decode cJ8_hugeLength_7cf53 19 = .ok (.ldc 206, 2) := by decide +kernel
theorem dJ8_hugeLength_7cf53_21 : decode cJ8_hugeLength_7cf53 21 = .ok (.invokevirtual 94, 3) := by decide +kernel
theorem dJ8_hugeLength_7cf53_24 : decode cJ8_hugeLength_7cf53 24 = .ok (.iload_n 0, 1) := by decide +kernel
theorem dJ8_hugeLength_7cf53_25 : decode cJ8_hugeLength_7cf53 25 = .ok (.invokevirtual 98, 3) := by decide +kernel
theorem dJ8_hugeLength_7cf53_28 : decode cJ8_hugeLength_7cf53 28 = .ok (.ldc 208, 2) := by decide +kernel
theorem dJ8_hugeLength_7cf53_30 : decode cJ8_hugeLength_7cf53 30 = .ok (.invokevirtual 94, 3) := by decide +kernel
theorem dJ8_hugeLength_7cf53_33 : decode cJ8_hugeLength_7cf53 33 = .ok (.iload_n 1, 1) := by decide +kernel
theorem dJ8_hugeLength_7cf53_34 : decode cJ8_hugeLength_7cf53 34 = .ok (.invokevirtual 98, 3) := by decide +kernel
theorem dJ8_hugeLength_7cf53_37 : decode cJ8_hugeLength_7cf53 37 = .ok (.ldc 210, 2) := by decide +kernel
theorem dJ8_hugeLength_7cf53_39 : decode cJ8_hugeLength_7cf53 39 = .ok (.invokevirtual 94, 3) := by decide +kernel
theorem dJ8_hugeLength_7cf53_42 : decode cJ8_hugeLength_7cf53 42 = .ok (.invokevirtual 101, 3) := by decide +kernel
theorem dJ8_hugeLength_7cf53_45 : decode cJ8_hugeLength_7cf53 45 = .ok (.invokespecial 212, 3) := by decide +kernel
theorem dJ8_hugeLength_7cf53_48 : decode cJ8_hugeLength_7cf53 48 = .ok (.athrow, 1) := by decide +kernel
theorem dJ8_hugeLength_7cf53_49 : decode cJ8_hugeLength_7cf53 49 = .ok (.iload_n 2, 1) := by decide +kernel
theorem dJ8_hugeLength_7cf53_50 : decode cJ8_hugeLength_7cf53 50 = .ok (.ldc 200, 2) := by decide +kernel
theorem dJ8_hugeLength_7cf53_52 : decode cJ8_hugeLength_7cf53 52 = .ok (.if_icmp .gt 6, 3) := by decide +kernel
theorem dJ8_hugeLength_7cf53_55 : decode cJ8_hugeLength_7cf53 55 = .ok (.ldc 200, 2) := by decide +kernel
theorem dJ8_hugeLength_7cf53_57 : decode cJ8_hugeLength_7cf53 57 = .ok (.ireturn, 1) := by decide +kernel
theorem dJ8_hugeLength_7cf53_58 : decode cJ8_hugeLength_7cf53 58 = .ok (.iload_n 2, 1) := by decide +kernel
theorem dJ8_hugeLength_7cf53_59 : decode cJ8_hugeLength_7cf53 59 = .ok (.ireturn, 1) := by decide +kernel
theorem dJ3_checkIndex_8e157_0 : decode cJ3_checkIndex_8e157 0 = .ok (.iload_n 0, 1) := by decide +kernel
theorem dJ3_checkIndex_8e157_1 : decode cJ3_checkIndex_8e157 1 = .ok (.ifCond .lt 8, 3) := by decide +kernel
theorem dJ3_checkIndex_8e157_4 : decode cJ3_checkIndex_8e157 4 = .ok (.iload_n 0, 1) := by decide +kernel
theorem dJ3_checkIndex_8e157_5 : decode cJ3_checkIndex_8e157 5 = .ok (.iload_n 1, 1) := by decide +kernel
theorem dJ3_checkIndex_8e157_6 : decode cJ3_checkIndex_8e157 6 = .ok (.if_icmp .lt 10, 3) := by decide +kernel
theorem dJ3_checkIndex_8e157_9 : decode cJ3_checkIndex_8e157 9 = .ok (.aload_n 2, 1) := by decide +kernel
theorem dJ3_checkIndex_8e157_10 : decode cJ3_checkIndex_8e157 10 = .ok (.iload_n 0, 1) := by decide +kernel
theorem dJ3_checkIndex_8e157_11 : decode cJ3_checkIndex_8e157 11 = .ok (.iload_n 1, 1) := by decide +kernel
theorem dJ3_checkIndex_8e157_12 : decode cJ3_checkIndex_8e157 12 = .ok (.invokestatic 95, 3) := by decide +kernel
theorem dJ3_checkIndex_8e157_15 : decode cJ3_checkIndex_8e157 15 = .ok (.athrow, 1) := by decide +kernel
theorem dJ3_checkIndex_8e157_16 : decode cJ3_checkIndex_8e157 16 = .ok (.iload_n 0, 1) := by decide +kernel
theorem dJ3_checkIndex_8e157_17 : decode cJ3_checkIndex_8e157 17 = .ok (.ireturn, 1) := by decide +kernel
end
section
theorem dX4_init_0 : decode cX4_init 0 = .ok (.aload_n 0, 1) := by decide +kernel
theorem dX4_init_1 : decode cX4_init 1 = .ok (.invokespecial 1, 3) := by decide +kernel
theorem dX4_init_4 : decode cX4_init 4 = .ok (.aload_n 0, 1) := by decide +kernel
theorem dX4_init_5 : decode cX4_init 5 = .ok (.sipush 540, 3) := by decide +kernel
theorem dX4_init_8 : decode cX4_init 8 = .ok (.putfield 7, 3) := by decide +kernel
theorem dX4_init_11 : decode cX4_init 11 = .ok (.aload_n 0, 1) := by decide +kernel
theorem dX4_init_12 : decode cX4_init 12 = .ok (.sipush 1020, 3) := by decide +kernel
theorem dX4_init_15 : decode cX4_init 15 = .ok (.putfield 13, 3) := by decide +kernel
theorem dX4_init_18 : decode cX4_init 18 = .ok (.aload_n 0, 1) := by decide +kernel
theorem dX4_init_19 : decode cX4_init 19 = .ok (.iconst 4, 1) := by decide +kernel
theorem dX4_init_20 : decode cX4_init 20 = .ok (.newarray .int, 2) := by decide +kernel
theorem dX4_init_22 : decode cX4_init 22 = .ok (.dup, 1) := by decide +kernel
theorem dX4_init_23 : decode cX4_init 23 = .ok (.iconst 0, 1) := by decide +kernel
theorem dX4_init_24 : decode cX4_init 24 = .ok (.bipush 60, 2) := by decide +kernel
theorem dX4_init_26 : decode cX4_init 26 = .ok (.iastore, 1) := by decide +kernel
theorem dX4_init_27 : decode cX4_init 27 = .ok (.dup, 1) := by decide +kernel
theorem dX4_init_28 : decode cX4_init 28 = .ok (.iconst 1, 1) := by decide +kernel
theorem dX4_init_29 : decode cX4_init 29 = .ok (.bipush 120, 2) := by decide +kernel
theorem dX4_init_31 : decode cX4_init 31 = .ok (.iastore, 1) := by decide +kernel
theorem dX4_init_32 : decode cX4_init 32 = .ok (.dup, 1) := by decide +kernel
theorem dX4_init_33 : decode cX4_init 33 = .ok (.iconst 2, 1) := by decide +kernel
theorem dX4_init_34 : decode cX4_init 34 = .ok (.sipush 240, 3) := by decide +kernel
theorem dX4_init_37 : decode cX4_init 37 = .ok (.iastore, 1) := by decide +kernel
theorem dX4_init_38 : decode cX4_init 38 = .ok (.dup, 1) := by decide +kernel
theorem dX4_init_39 : decode cX4_init 39 = .ok (.iconst 3, 1) := by decide +kernel
theorem dX4_init_40 : decode cX4_init 40 = .ok (.sipush 480, 3) := by decide +kernel
theorem dX4_init_43 : decode cX4_init 43 = .ok (.iastore, 1) := by decide +kernel
theorem dX4_init_44 : decode cX4_init 44 = .ok (.putfield 16, 3) := by decide +kernel
theorem dX4_init_47 : decode cX4_init 47 = .ok (.aload_n 0, 1) := by decide +kernel
theorem dX4_init_48 : decode cX4_init 48 = .ok (.iconst 4, 1) := by decide +kernel
theorem dX4_init_49 : decode cX4_init 49 = .ok (.newarray .int, 2) := by decide +kernel
theorem dX4_init_51 : decode cX4_init 51 = .ok (.dup, 1) := by decide +kernel
theorem dX4_init_52 : decode cX4_init 52 = .ok (.iconst 0, 1) := by decide +kernel
theorem dX4_init_53 : decode cX4_init 53 = .ok (.sipush 240, 3) := by decide +kernel
theorem dX4_init_56 : decode cX4_init 56 = .ok (.iastore, 1) := by decide +kernel
theorem dX4_init_57 : decode cX4_init 57 = .ok (.dup, 1) := by decide +kernel
theorem dX4_init_58 : decode cX4_init 58 = .ok (.iconst 1, 1) := by decide +kernel
theorem dX4_init_59 : decode cX4_init 59 = .ok (.sipush 480, 3) := by decide +kernel
theorem dX4_init_62 : decode cX4_init 62 = .ok (.iastore, 1) := by decide +kernel
theorem dX4_init_63 : decode cX4_init 63 = .ok (.dup, 1) := by decide +kernel
theorem dX4_init_64 : decode cX4_init 64 = .ok (.iconst 2, 1) := by decide +kernel
theorem dX4_init_65 : decode cX4_init 65 = .ok (.sipush 960, 3) := by decide +kernel
theorem dX4_init_68 : decode cX4_init 68 = .ok (.iastore, 1) := by decide +kernel
theorem dX4_init_69 : decode cX4_init 69 = .ok (.dup, 1) := by decide +kernel
theorem dX4_init_70 : decode cX4_init 70 = .ok (.iconst 3, 1) := by decide +kernel
theorem dX4_init_71 : decode cX4_init 71 = .ok (.sipush 1920, 3) := by decide +kernel
theorem dX4_init_74 : decode cX4_init 74 = .ok (.iastore, 1) := by decide +kernel
theorem dX4_init_75 : decode cX4_init 75 = .ok (.putfield 20, 3) := by decide +kernel
theorem dX4_init_78 : decode cX4_init 78 = .ok (.aload_n 0, 1) := by decide +kernel
theorem dX4_init_79 : decode cX4_init 79 = .ok (.bipush 6, 2) := by decide +kernel
theorem dX4_init_81 : decode cX4_init 81 = .ok (.newarray .int, 2) := by decide +kernel
theorem dX4_init_83 : decode cX4_init 83 = .ok (.putfield 23, 3) := by decide +kernel
theorem dX4_init_86 : decode cX4_init 86 = .ok (.aload_n 0, 1) := by decide +kernel
theorem dX4_init_87 : decode cX4_init 87 = .ok (.bipush 6, 2) := by decide +kernel
theorem dX4_init_89 : decode cX4_init 89 = .ok (.newarray .int, 2) := by decide +kernel
theorem dX4_init_91 : decode cX4_init 91 = .ok (.putfield 26, 3) := by decide +kernel
theorem dX4_init_94 : decode cX4_init 94 = .ok (.aload_n 0, 1) := by decide +kernel
theorem dX4_init_95 : decode cX4_init 95 = .ok (.bipush 6, 2) := by decide +kernel
theorem dX4_init_97 : decode cX4_init 97 = .ok (.newarray .int, 2) := by decide +kernel
theorem dX4_init_99 : decode cX4_init 99 = .ok (.putfield 29, 3) := by decide +kernel
theorem dX4_init_102 : decode cX4_init 102 = .ok (.aload_n 0, 1) := by decide +kernel
theorem dX4_init_103 : decode cX4_init 103 = .ok (.bipush 6, 2) := by decide +kernel
theorem dX4_init_105 : decode cX4_init 105 = .ok (.newarray .int, 2) := by decide +kernel
theorem dX4_init_107 : decode cX4_init 107 = .ok (.putfield 32, 3) := by decide +kernel
theorem dX4_init_110 : decode cX4_init 110 = .ok (.aload_n 0, 1) := by decide +kernel
theorem dX4_init_111 : decode cX4_init 111 = .ok (.bipush 6, 2) := by decide +kernel
theorem dX4_init_113 : decode cX4_init 113 = .ok (.newarray .int, 2) := by decide +kernel
theorem dX4_init_115 : decode cX4_init 115 = .ok (.putfield 35, 3) := by decide +kernel
theorem dX4_init_118 : decode cX4_init 118 = .ok (.aload_n 0, 1) := by decide +kernel
theorem dX4_init_119 : decode cX4_init 119 = .ok (.bipush 6, 2) := by decide +kernel
theorem dX4_init_121 : decode cX4_init 121 = .ok (.newarray .int, 2) := by decide +kernel
theorem dX4_init_123 : decode cX4_init 123 = .ok (.putfield 38, 3) := by decide +kernel
theorem dX4_init_126 : decode cX4_init 126 = .ok (.aload_n 0, 1) := by decide +kernel
theorem dX4_init_127 : decode cX4_init 127 = .ok (.bipush 6, 2) := by decide +kernel
theorem dX4_init_129 : decode cX4_init 129 = .ok (.newarray .int, 2) := by decide +kernel
theorem dX4_init_131 : decode cX4_init 131 = .ok (.putfield 41, 3) := by decide +kernel
theorem dX4_init_134 : decode cX4_init 134 = .ok (.aload_n 0, 1) := by decide +kernel
theorem dX4_init_135 : decode cX4_init 135 = .ok (.bipush 20, 2) := by decide +kernel
theorem dX4_init_137 : decode cX4_init 137 = .ok (.newarray .int, 2) := by decide +kernel
theorem dX4_init_139 : decode cX4_init 139 = .ok (.putfield 44, 3) := by decide +kernel
theorem dX4_init_142 : decode cX4_init 142 = .ok (.aload_n 0, 1) := by decide +kernel
theorem dX4_init_143 : decode cX4_init 143 = .ok (.bipush 20, 2) := by decide +kernel
theorem dX4_init_145 : decode cX4_init 145 = .ok (.newarray .int, 2) := by decide +kernel
theorem dX4_init_147 : decode cX4_init 147 = .ok (.putfield 47, 3) := by decide +kernel
theorem dX4_init_150 : decode cX4_init 150 = .ok (.aload_n 0, 1) := by decide +kernel
theorem dX4_init_151 : decode cX4_init 151 = .ok (.bipush 20, 2) := by decide +kernel
theorem dX4_init_153 : decode cX4_init 153 = .ok (.newarray .int, 2) := by decide +kernel
theorem dX4_init_155 : decode cX4_init 155 = .ok (.putfield 50, 3) := by decide +kernel
theorem dX4_init_158 : decode cX4_init 158 = .ok (.aload_n 0, 1) := by decide +kernel
theorem dX4_init_159 : decode cX4_init 159 = .ok (.bipush 20, 2) := by decide +kernel
theorem dX4_init_161 : decode cX4_init 161 = .ok (.newarray .int, 2) := by decide +kernel
theorem dX4_init_163 : decode cX4_init 163 = .ok (.putfield 53, 3) := by decide +kernel
theorem dX4_init_166 : decode cX4_init 166 = .ok (.aload_n 0, 1) := by decide +kernel
theorem dX4_init_167 : decode cX4_init 167 = .ok (.bipush 20, 2) := by decide +kernel
theorem dX4_init_169 : decode cX4_init 169 = .ok (.newarray .int, 2) := by decide +kernel
theorem dX4_init_171 : decode cX4_init 171 = .ok (.putfield 56, 3) := by decide +kernel
theorem dX4_init_174 : decode cX4_init 174 = .ok (.aload_n 0, 1) := by decide +kernel
theorem dX4_init_175 : decode cX4_init 175 = .ok (.bipush 20, 2) := by decide +kernel
theorem dX4_init_177 : decode cX4_init 177 = .ok (.newarray .int, 2) := by decide +kernel
theorem dX4_init_179 : decode cX4_init 179 = .ok (.putfield 59, 3) := by decide +kernel
theorem dX4_init_182 : decode cX4_init 182 = .ok (.aload_n 0, 1) := by decide +kernel
theorem dX4_init_183 : decode cX4_init 183 = .ok (.bipush 20, 2) := by decide +kernel
theorem dX4_init_185 : decode cX4_init 185 = .ok (.newarray .int, 2) := by decide +kernel
theorem dX4_init_187 : decode cX4_init 187 = .ok (.putfield 62, 3) := by decide +kernel
theorem dX4_init_190 : decode cX4_init 190 = .ok (.aload_n 0, 1) := by decide +kernel
theorem dX4_init_191 : decode cX4_init 191 = .ok (.bipush 20, 2) := by decide +kernel
theorem dX4_init_193 : decode cX4_init 193 = .ok (.newarray .int, 2) := by decide +kernel
theorem dX4_init_195 : decode cX4_init 195 = .ok (.putfield 65, 3) := by decide +kernel
theorem dX4_init_198 : decode cX4_init 198 = .ok (.aload_n 0, 1) := by decide +kernel
theorem dX4_init_199 : decode cX4_init 199 = .ok (.bipush 20, 2) := by decide +kernel
theorem dX4_init_201 : decode cX4_init 201 = .ok (.newarray .int, 2) := by decide +kernel
theorem dX4_init_203 : decode cX4_init 203 = .ok (.putfield 68, 3) := by decide +kernel
theorem dX4_init_206 : decode cX4_init 206 = .ok (.aload_n 0, 1) := by decide +kernel
theorem dX4_init_207 : decode cX4_init 207 = .ok (.bipush 20, 2) := by decide +kernel
theorem dX4_init_209 : decode cX4_init 209 = .ok (.newarray .int, 2) := by decide +kernel
theorem dX4_init_211 : decode cX4_init 211 = .ok (.putfield 71, 3) := by decide +kernel
theorem dX4_init_214 : decode cX4_init 214 = .ok (.aload_n 0, 1) := by decide +kernel
theorem dX4_init_215 : decode cX4_init 215 = .ok (.bipush 20, 2) := by decide +kernel
theorem dX4_init_217 : decode cX4_init 217 = .ok (.newarray .int, 2) := by decide +kernel
theorem dX4_init_219 : decode cX4_init 219 = .ok (.putfield 74, 3) := by decide +kernel
theorem dX4_init_222 : decode cX4_init 222 = .ok (.return_, 1) := by decide +kernel
theorem dX4_thrown_0 : decode cX4_thrown 0 = .ok (.aload_n 0, 1) := by decide +kernel
theorem dX4_thrown_1 : decode cX4_thrown 1 = .ok (.getfield 77, 3) := by decide +kernel
theorem dX4_thrown_4 : decode cX4_thrown 4 = .ok (.ireturn, 1) := by decide +kernel
theorem dX4_no_0 : decode cX4_no 0 = .ok (.aload_n 0, 1) := by decide +kernel
theorem dX4_no_1 : decode cX4_no 1 = .ok (.iload_n 1, 1) := by decide +kernel
theorem dX4_no_2 : decode cX4_no 2 = .ok (.putfield 77, 3) := by decide +kernel
theorem dX4_no_5 : decode cX4_no 5 = .ok (.iconst 0, 1) := by decide +kernel
theorem dX4_no_6 : decode cX4_no 6 = .ok (.ireturn, 1) := by decide +kernel
theorem dX4_isIn_0 : decode cX4_isIn 0 = .ok (.iload_n 0, 1) := by decide +kernel
theorem dX4_isIn_1 : decode cX4_isIn 1 = .ok (.iload_n 1, 1) := by decide +kernel
theorem dX4_isIn_2 : decode cX4_isIn 2 = .ok (.if_icmp .lt 12, 3) := by decide +kernel
theorem dX4_isIn_5 : decode cX4_isIn 5 = .ok (.iload_n 0, 1) := by decide +kernel
theorem dX4_isIn_6 : decode cX4_isIn 6 = .ok (.iload_n 2, 1) := by decide +kernel
theorem dX4_isIn_7 : decode cX4_isIn 7 = .ok (.if_icmp .gt 7, 3) := by decide +kernel
theorem dX4_isIn_10 : decode cX4_isIn 10 = .ok (.iconst 1, 1) := by decide +kernel
theorem dX4_isIn_11 : decode cX4_isIn 11 = .ok (.goto 4, 3) := by decide +kernel
theorem dX4_isIn_14 : decode cX4_isIn 14 = .ok (.iconst 0, 1) := by decide +kernel
theorem dX4_isIn_15 : decode cX4_isIn 15 = .ok (.ireturn, 1) := by decide +kernel
theorem dX4_has_0 : decode cX4_has 0 = .ok (.iload_n 0, 1) := by decide +kernel
theorem dX4_has_1 : decode cX4_has 1 = .ok (.iload_n 1, 1) := by decide +kernel
theorem dX4_has_2 : decode cX4_has 2 = .ok (.ishr, 1) := by decide +kernel
theorem dX4_has_3 : decode cX4_has 3 = .ok (.iconst 1, 1) := by decide +kernel
theorem dX4_has_4 : decode cX4_has 4 = .ok (.iand, 1) := by decide +kernel
theorem dX4_has_5 : decode cX4_has 5 = .ok (.iconst 1, 1) := by decide +kernel
theorem dX4_has_6 : decode cX4_has 6 = .ok (.if_icmp .ne 7, 3) := by decide +kernel
theorem dX4_has_9 : decode cX4_has 9 = .ok (.iconst 1, 1) := by decide +kernel
theorem dX4_has_10 : decode cX4_has 10 = .ok (.goto 4, 3) := by decide +kernel
theorem dX4_has_13 : decode cX4_has 13 = .ok (.iconst 0, 1) := by decide +kernel
theorem dX4_has_14 : decode cX4_has 14 = .ok (.ireturn, 1) := by decide +kernel
theorem dX4_isAgent_0 : decode cX4_isAgent 0 = .ok (.iload_n 1, 1) := by decide +kernel
theorem dX4_isAgent_1 : decode cX4_isAgent 1 = .ok (.iconst 0, 1) := by decide +kernel
theorem dX4_isAgent_2 : decode cX4_isAgent 2 = .ok (.aload_n 0, 1) := by decide +kernel
theorem dX4_isAgent_3 : decode cX4_isAgent 3 = .ok (.getfield 80, 3) := by decide +kernel
theorem dX4_isAgent_6 : decode cX4_isAgent 6 = .ok (.iconst 1, 1) := by decide +kernel
theorem dX4_isAgent_7 : decode cX4_isAgent 7 = .ok (.isub, 1) := by decide +kernel
theorem dX4_isAgent_8 : decode cX4_isAgent 8 = .ok (.invokestatic 83, 3) := by decide +kernel
theorem dX4_isAgent_11 : decode cX4_isAgent 11 = .ok (.ireturn, 1) := by decide +kernel
theorem dX4_isTicket_0 : decode cX4_isTicket 0 = .ok (.iload_n 1, 1) := by decide +kernel
theorem dX4_isTicket_1 : decode cX4_isTicket 1 = .ok (.iconst 0, 1) := by decide +kernel
theorem dX4_isTicket_2 : decode cX4_isTicket 2 = .ok (.aload_n 0, 1) := by decide +kernel
theorem dX4_isTicket_3 : decode cX4_isTicket 3 = .ok (.getfield 87, 3) := by decide +kernel
theorem dX4_isTicket_6 : decode cX4_isTicket 6 = .ok (.iconst 1, 1) := by decide +kernel
theorem dX4_isTicket_7 : decode cX4_isTicket 7 = .ok (.isub, 1) := by decide +kernel
theorem dX4_isTicket_8 : decode cX4_isTicket 8 = .ok (.invokestatic 83, 3) := by decide +kernel
theorem dX4_isTicket_11 : decode cX4_isTicket 11 = .ok (.ireturn, 1) := by decide +kernel
theorem dX4_isOpen_0 : decode cX4_isOpen 0 = .ok (.aload_n 0, 1) := by decide +kernel
theorem dX4_isOpen_1 : decode cX4_isOpen 1 = .ok (.getfield 56, 3) := by decide +kernel
theorem dX4_isOpen_4 : decode cX4_isOpen 4 = .ok (.iload_n 1, 1) := by decide +kernel
theorem dX4_isOpen_5 : decode cX4_isOpen 5 = .ok (.iaload, 1) := by decide +kernel
theorem dX4_isOpen_6 : decode cX4_isOpen 6 = .ok (.iconst 3, 1) := by decide +kernel
theorem dX4_isOpen_7 : decode cX4_isOpen 7 = .ok (.if_icmp .ge 7, 3) := by decide +kernel
theorem dX4_isOpen_10 : decode cX4_isOpen 10 = .ok (.iconst 1, 1) := by decide +kernel
theorem dX4_isOpen_11 : decode cX4_isOpen 11 = .ok (.goto 4, 3) := by decide +kernel
theorem dX4_isOpen_14 : decode cX4_isOpen 14 = .ok (.iconst 0, 1) := by decide +kernel
theorem dX4_isOpen_15 : decode cX4_isOpen 15 = .ok (.ireturn, 1) := by decide +kernel
theorem dX4_setHours_0 : decode cX4_setHours 0 = .ok (.aload_n 0, 1) := by decide +kernel
theorem dX4_setHours_1 : decode cX4_setHours 1 = .ok (.iload_n 1, 1) := by decide +kernel
theorem dX4_setHours_2 : decode cX4_setHours 2 = .ok (.iconst 0, 1) := by decide +kernel
theorem dX4_setHours_3 : decode cX4_setHours 3 = .ok (.sipush 1439, 3) := by decide +kernel
theorem dX4_setHours_6 : decode cX4_setHours 6 = .ok (.invokestatic 83, 3) := by decide +kernel
theorem dX4_setHours_9 : decode cX4_setHours 9 = .ok (.ifCond .eq 20, 3) := by decide +kernel
theorem dX4_setHours_12 : decode cX4_setHours 12 = .ok (.iload_n 2, 1) := by decide +kernel
theorem dX4_setHours_13 : decode cX4_setHours 13 = .ok (.iload_n 1, 1) := by decide +kernel
theorem dX4_setHours_14 : decode cX4_setHours 14 = .ok (.iconst 1, 1) := by decide +kernel
theorem dX4_setHours_15 : decode cX4_setHours 15 = .ok (.iadd, 1) := by decide +kernel
theorem dX4_setHours_16 : decode cX4_setHours 16 = .ok (.sipush 1440, 3) := by decide +kernel
theorem dX4_setHours_19 : decode cX4_setHours 19 = .ok (.invokestatic 83, 3) := by decide +kernel
theorem dX4_setHours_22 : decode cX4_setHours 22 = .ok (.ifCond .eq 7, 3) := by decide +kernel
theorem dX4_setHours_25 : decode cX4_setHours 25 = .ok (.iconst 0, 1) := by decide +kernel
theorem dX4_setHours_26 : decode cX4_setHours 26 = .ok (.goto 4, 3) := by decide +kernel
theorem dX4_setHours_29 : decode cX4_setHours 29 = .ok (.iconst 1, 1) := by decide +kernel
theorem dX4_setHours_30 : decode cX4_setHours 30 = .ok (.putfield 77, 3) := by decide +kernel
theorem dX4_setHours_33 : decode cX4_setHours 33 = .ok (.aload_n 0, 1) := by decide +kernel
theorem dX4_setHours_34 : decode cX4_setHours 34 = .ok (.getfield 77, 3) := by decide +kernel
theorem dX4_setHours_37 : decode cX4_setHours 37 = .ok (.ifCond .eq 5, 3) := by decide +kernel
theorem dX4_setHours_40 : decode cX4_setHours 40 = .ok (.iconst 0, 1) := by decide +kernel
theorem dX4_setHours_41 : decode cX4_setHours 41 = .ok (.ireturn, 1) := by decide +kernel
theorem dX4_setHours_42 : decode cX4_setHours 42 = .ok (.aload_n 0, 1) := by decide +kernel
theorem dX4_setHours_43 : decode cX4_setHours 43 = .ok (.getfield 7, 3) := by decide +kernel
theorem dX4_setHours_46 : decode cX4_setHours 46 = .ok (.iload_n 1, 1) := by decide +kernel
theorem dX4_setHours_47 : decode cX4_setHours 47 = .ok (.if_icmp .ne 11, 3) := by decide +kernel
theorem dX4_setHours_50 : decode cX4_setHours 50 = .ok (.aload_n 0, 1) := by decide +kernel
theorem dX4_setHours_51 : decode cX4_setHours 51 = .ok (.getfield 13, 3) := by decide +kernel
theorem dX4_setHours_54 : decode cX4_setHours 54 = .ok (.iload_n 2, 1) := by decide +kernel
theorem dX4_setHours_55 : decode cX4_setHours 55 = .ok (.if_icmp .eq 7, 3) := by decide +kernel
theorem dX4_setHours_58 : decode cX4_setHours 58 = .ok (.iconst 1, 1) := by decide +kernel
theorem dX4_setHours_59 : decode cX4_setHours 59 = .ok (.goto 4, 3) := by decide +kernel
theorem dX4_setHours_62 : decode cX4_setHours 62 = .ok (.iconst 0, 1) := by decide +kernel
theorem dX4_setHours_63 : decode cX4_setHours 63 = .ok (.istore_n 3, 1) := by decide +kernel
theorem dX4_setHours_64 : decode cX4_setHours 64 = .ok (.aload_n 0, 1) := by decide +kernel
theorem dX4_setHours_65 : decode cX4_setHours 65 = .ok (.iload_n 1, 1) := by decide +kernel
theorem dX4_setHours_66 : decode cX4_setHours 66 = .ok (.putfield 7, 3) := by decide +kernel
theorem dX4_setHours_69 : decode cX4_setHours 69 = .ok (.aload_n 0, 1) := by decide +kernel
theorem dX4_setHours_70 : decode cX4_setHours 70 = .ok (.iload_n 2, 1) := by decide +kernel
theorem dX4_setHours_71 : decode cX4_setHours 71 = .ok (.putfield 13, 3) := by decide +kernel
theorem dX4_setHours_74 : decode cX4_setHours 74 = .ok (.iload_n 3, 1) := by decide +kernel
theorem dX4_setHours_75 : decode cX4_setHours 75 = .ok (.ireturn, 1) := by decide +kernel
theorem dX4_setTargets_0 : decode cX4_setTargets 0 = .ok (.aload_n 0, 1) := by decide +kernel
theorem dX4_setTargets_1 : decode cX4_setTargets 1 = .ok (.iconst 0, 1) := by decide +kernel
theorem dX4_setTargets_2 : decode cX4_setTargets 2 = .ok (.putfield 77, 3) := by decide +kernel
theorem dX4_setTargets_5 : decode cX4_setTargets 5 = .ok (.iload_n 1, 1) := by decide +kernel
theorem dX4_setTargets_6 : decode cX4_setTargets 6 = .ok (.iconst 0, 1) := by decide +kernel
theorem dX4_setTargets_7 : decode cX4_setTargets 7 = .ok (.iconst 3, 1) := by decide +kernel
theorem dX4_setTargets_8 : decode cX4_setTargets 8 = .ok (.invokestatic 83, 3) := by decide +kernel
theorem dX4_setTargets_11 : decode cX4_setTargets 11 = .ok (.ifCond .ne 9, 3) := by decide +kernel
theorem dX4_setTargets_14 : decode cX4_setTargets 14 = .ok (.aload_n 0, 1) := by decide +kernel
theorem dX4_setTargets_15 : decode cX4_setTargets 15 = .ok (.iconst 1, 1) := by decide +kernel
theorem dX4_setTargets_16 : decode cX4_setTargets 16 = .ok (.invokevirtual 90, 3) := by decide +kernel
theorem dX4_setTargets_19 : decode cX4_setTargets 19 = .ok (.ireturn, 1) := by decide +kernel
theorem dX4_setTargets_20 : decode cX4_setTargets 20 = .ok (.iload_n 2, 1) := by decide +kernel
theorem dX4_setTargets_21 : decode cX4_setTargets 21 = .ok (.iconst 1, 1) := by decide +kernel
theorem dX4_setTargets_22 : decode cX4_setTargets 22 = .ok (.sipush 9999, 3) := by decide +kernel
theorem dX4_setTargets_25 : decode cX4_setTargets 25 = .ok (.invokestatic 83, 3) := by decide +kernel
theorem dX4_setTargets_28 : decode cX4_setTargets 28 = .ok (.ifCond .eq 14, 3) := by decide +kernel
theorem dX4_setTargets_31 : decode cX4_setTargets 31 = .ok (.iload_n 3, 1) := by decide +kernel
theorem dX4_setTargets_32 : decode cX4_setTargets 32 = .ok (.iload_n 2, 1) := by decide +kernel
theorem dX4_setTargets_33 : decode cX4_setTargets 33 = .ok (.sipush 9999, 3) := by decide +kernel
theorem dX4_setTargets_36 : decode cX4_setTargets 36 = .ok (.invokestatic 83, 3) := by decide +kernel
theorem dX4_setTargets_39 : decode cX4_setTargets 39 = .ok (.ifCond .ne 9, 3) := by decide +kernel
theorem dX4_setTargets_42 : decode cX4_setTargets 42 = .ok (.aload_n 0, 1) := by decide +kernel
theorem dX4_setTargets_43 : decode cX4_setTargets 43 = .ok (.iconst 2, 1) := by decide +kernel
theorem dX4_setTargets_44 : decode cX4_setTargets 44 = .ok (.invokevirtual 90, 3) := by decide +kernel
theorem dX4_setTargets_47 : decode cX4_setTargets 47 = .ok (.ireturn, 1) := by decide +kernel
theorem dX4_setTargets_48 : decode cX4_setTargets 48 = .ok (.aload_n 0, 1) := by decide +kernel
theorem dX4_setTargets_49 : decode cX4_setTargets 49 = .ok (.getfield 20, 3) := by decide +kernel
theorem dX4_setTargets_52 : decode cX4_setTargets 52 = .ok (.iload_n 1, 1) := by decide +kernel
theorem dX4_setTargets_53 : decode cX4_setTargets 53 = .ok (.iaload, 1) := by decide +kernel
theorem dX4_setTargets_54 : decode cX4_setTargets 54 = .ok (.istore 4, 2) := by decide +kernel
theorem dX4_setTargets_56 : decode cX4_setTargets 56 = .ok (.aload_n 0, 1) := by decide +kernel
theorem dX4_setTargets_57 : decode cX4_setTargets 57 = .ok (.getfield 16, 3) := by decide +kernel
theorem dX4_setTargets_60 : decode cX4_setTargets 60 = .ok (.iload_n 1, 1) := by decide +kernel
theorem dX4_setTargets_61 : decode cX4_setTargets 61 = .ok (.iload_n 2, 1) := by decide +kernel
theorem dX4_setTargets_62 : decode cX4_setTargets 62 = .ok (.iastore, 1) := by decide +kernel
theorem dX4_setTargets_63 : decode cX4_setTargets 63 = .ok (.aload_n 0, 1) := by decide +kernel
theorem dX4_setTargets_64 : decode cX4_setTargets 64 = .ok (.getfield 20, 3) := by decide +kernel
theorem dX4_setTargets_67 : decode cX4_setTargets 67 = .ok (.iload_n 1, 1) := by decide +kernel
theorem dX4_setTargets_68 : decode cX4_setTargets 68 = .ok (.iload_n 3, 1) := by decide +kernel
theorem dX4_setTargets_69 : decode cX4_setTargets 69 = .ok (.iastore, 1) := by decide +kernel
theorem dX4_setTargets_70 : decode cX4_setTargets 70 = .ok (.iload 4, 2) := by decide +kernel
theorem dX4_setTargets_72 : decode cX4_setTargets 72 = .ok (.ireturn, 1) := by decide +kernel
theorem dX4_now_0 : decode cX4_now 0 = .ok (.aload_n 0, 1) := by decide +kernel
theorem dX4_now_1 : decode cX4_now 1 = .ok (.iconst 0, 1) := by decide +kernel
theorem dX4_now_2 : decode cX4_now 2 = .ok (.putfield 77, 3) := by decide +kernel
theorem dX4_now_5 : decode cX4_now 5 = .ok (.aload_n 0, 1) := by decide +kernel
theorem dX4_now_6 : decode cX4_now 6 = .ok (.getfield 94, 3) := by decide +kernel
theorem dX4_now_9 : decode cX4_now 9 = .ok (.ireturn, 1) := by decide +kernel
theorem dX4_isService_0 : decode cX4_isService 0 = .ok (.iload_n 1, 1) := by decide +kernel
theorem dX4_isService_1 : decode cX4_isService 1 = .ok (.sipush 1440, 3) := by decide +kernel
theorem dX4_isService_4 : decode cX4_isService 4 = .ok (.idiv, 1) := by decide +kernel
theorem dX4_isService_5 : decode cX4_isService 5 = .ok (.bipush 7, 2) := by decide +kernel
theorem dX4_isService_7 : decode cX4_isService 7 = .ok (.irem, 1) := by decide +kernel
theorem dX4_isService_8 : decode cX4_isService 8 = .ok (.iconst 5, 1) := by decide +kernel
theorem dX4_isService_9 : decode cX4_isService 9 = .ok (.if_icmp .ge 28, 3) := by decide +kernel
theorem dX4_isService_12 : decode cX4_isService 12 = .ok (.iload_n 1, 1) := by decide +kernel
theorem dX4_isService_13 : decode cX4_isService 13 = .ok (.sipush 1440, 3) := by decide +kernel
theorem dX4_isService_16 : decode cX4_isService 16 = .ok (.irem, 1) := by decide +kernel
theorem dX4_isService_17 : decode cX4_isService 17 = .ok (.aload_n 0, 1) := by decide +kernel
theorem dX4_isService_18 : decode cX4_isService 18 = .ok (.getfield 7, 3) := by decide +kernel
theorem dX4_isService_21 : decode cX4_isService 21 = .ok (.aload_n 0, 1) := by decide +kernel
theorem dX4_isService_22 : decode cX4_isService 22 = .ok (.getfield 13, 3) := by decide +kernel
theorem dX4_isService_25 : decode cX4_isService 25 = .ok (.iconst 1, 1) := by decide +kernel
theorem dX4_isService_26 : decode cX4_isService 26 = .ok (.isub, 1) := by decide +kernel
theorem dX4_isService_27 : decode cX4_isService 27 = .ok (.invokestatic 83, 3) := by decide +kernel
theorem dX4_isService_30 : decode cX4_isService 30 = .ok (.ifCond .eq 7, 3) := by decide +kernel
theorem dX4_isService_33 : decode cX4_isService 33 = .ok (.iconst 1, 1) := by decide +kernel
theorem dX4_isService_34 : decode cX4_isService 34 = .ok (.goto 4, 3) := by decide +kernel
theorem dX4_isService_37 : decode cX4_isService 37 = .ok (.iconst 0, 1) := by decide +kernel
theorem dX4_isService_38 : decode cX4_isService 38 = .ok (.ireturn, 1) := by decide +kernel
theorem dX4_serviceAhead_0 : decode cX4_serviceAhead 0 = .ok (.iload_n 1, 1) := by decide +kernel
theorem dX4_serviceAhead_1 : decode cX4_serviceAhead 1 = .ok (.sipush 1440, 3) := by decide +kernel
theorem dX4_serviceAhead_4 : decode cX4_serviceAhead 4 = .ok (.idiv, 1) := by decide +kernel
theorem dX4_serviceAhead_5 : decode cX4_serviceAhead 5 = .ok (.istore_n 2, 1) := by decide +kernel
theorem dX4_serviceAhead_6 : decode cX4_serviceAhead 6 = .ok (.iload_n 2, 1) := by decide +kernel
theorem dX4_serviceAhead_7 : decode cX4_serviceAhead 7 = .ok (.bipush 7, 2) := by decide +kernel
theorem dX4_serviceAhead_9 : decode cX4_serviceAhead 9 = .ok (.idiv, 1) := by decide +kernel
theorem dX4_serviceAhead_10 : decode cX4_serviceAhead 10 = .ok (.iconst 5, 1) := by decide +kernel
theorem dX4_serviceAhead_11 : decode cX4_serviceAhead 11 = .ok (.imul, 1) := by decide +kernel
theorem dX4_serviceAhead_12 : decode cX4_serviceAhead 12 = .ok (.iconst 5, 1) := by decide +kernel
theorem dX4_serviceAhead_13 : decode cX4_serviceAhead 13 = .ok (.iload_n 2, 1) := by decide +kernel
theorem dX4_serviceAhead_14 : decode cX4_serviceAhead 14 = .ok (.bipush 7, 2) := by decide +kernel
theorem dX4_serviceAhead_16 : decode cX4_serviceAhead 16 = .ok (.irem, 1) := by decide +kernel
theorem dX4_serviceAhead_17 : decode cX4_serviceAhead 17 = .ok (.invokestatic 97, 3) := by decide +kernel
theorem dX4_serviceAhead_20 : decode cX4_serviceAhead 20 = .ok (.iadd, 1) := by decide +kernel
theorem dX4_serviceAhead_21 : decode cX4_serviceAhead 21 = .ok (.istore_n 3, 1) := by decide +kernel
theorem dX4_serviceAhead_22 : decode cX4_serviceAhead 22 = .ok (.iload_n 2, 1) := by decide +kernel
theorem dX4_serviceAhead_23 : decode cX4_serviceAhead 23 = .ok (.bipush 7, 2) := by decide +kernel
theorem dX4_serviceAhead_25 : decode cX4_serviceAhead 25 = .ok (.irem, 1) := by decide +kernel
theorem dX4_serviceAhead_26 : decode cX4_serviceAhead 26 = .ok (.iconst 5, 1) := by decide +kernel
theorem dX4_serviceAhead_27 : decode cX4_serviceAhead 27 = .ok (.if_icmp .ge 27, 3) := by decide +kernel
theorem dX4_serviceAhead_30 : decode cX4_serviceAhead 30 = .ok (.iconst 0, 1) := by decide +kernel
theorem dX4_serviceAhead_31 : decode cX4_serviceAhead 31 = .ok (.iload_n 1, 1) := by decide +kernel
theorem dX4_serviceAhead_32 : decode cX4_serviceAhead 32 = .ok (.sipush 1440, 3) := by decide +kernel
theorem dX4_serviceAhead_35 : decode cX4_serviceAhead 35 = .ok (.irem, 1) := by decide +kernel
theorem dX4_serviceAhead_36 : decode cX4_serviceAhead 36 = .ok (.aload_n 0, 1) := by decide +kernel
theorem dX4_serviceAhead_37 : decode cX4_serviceAhead 37 = .ok (.getfield 13, 3) := by decide +kernel
theorem dX4_serviceAhead_40 : decode cX4_serviceAhead 40 = .ok (.invokestatic 97, 3) := by decide +kernel
theorem dX4_serviceAhead_43 : decode cX4_serviceAhead 43 = .ok (.aload_n 0, 1) := by decide +kernel
theorem dX4_serviceAhead_44 : decode cX4_serviceAhead 44 = .ok (.getfield 7, 3) := by decide +kernel
theorem dX4_serviceAhead_47 : decode cX4_serviceAhead 47 = .ok (.isub, 1) := by decide +kernel
theorem dX4_serviceAhead_48 : decode cX4_serviceAhead 48 = .ok (.invokestatic 103, 3) := by decide +kernel
theorem dX4_serviceAhead_51 : decode cX4_serviceAhead 51 = .ok (.goto 4, 3) := by decide +kernel
theorem dX4_serviceAhead_54 : decode cX4_serviceAhead 54 = .ok (.iconst 0, 1) := by decide +kernel
theorem dX4_serviceAhead_55 : decode cX4_serviceAhead 55 = .ok (.istore 4, 2) := by decide +kernel
theorem dX4_serviceAhead_57 : decode cX4_serviceAhead 57 = .ok (.iload_n 3, 1) := by decide +kernel
theorem dX4_serviceAhead_58 : decode cX4_serviceAhead 58 = .ok (.aload_n 0, 1) := by decide +kernel
theorem dX4_serviceAhead_59 : decode cX4_serviceAhead 59 = .ok (.getfield 13, 3) := by decide +kernel
theorem dX4_serviceAhead_62 : decode cX4_serviceAhead 62 = .ok (.aload_n 0, 1) := by decide +kernel
theorem dX4_serviceAhead_63 : decode cX4_serviceAhead 63 = .ok (.getfield 7, 3) := by decide +kernel
theorem dX4_serviceAhead_66 : decode cX4_serviceAhead 66 = .ok (.isub, 1) := by decide +kernel
theorem dX4_serviceAhead_67 : decode cX4_serviceAhead 67 = .ok (.imul, 1) := by decide +kernel
theorem dX4_serviceAhead_68 : decode cX4_serviceAhead 68 = .ok (.iload 4, 2) := by decide +kernel
theorem dX4_serviceAhead_70 : decode cX4_serviceAhead 70 = .ok (.iadd, 1) := by decide +kernel
theorem dX4_serviceAhead_71 : decode cX4_serviceAhead 71 = .ok (.ireturn, 1) := by decide +kernel
theorem dX4_service_0 : decode cX4_service 0 = .ok (.aload_n 0, 1) := by decide +kernel
theorem dX4_service_1 : decode cX4_service 1 = .ok (.iconst 0, 1) := by decide +kernel
theorem dX4_service_2 : decode cX4_service 2 = .ok (.putfield 77, 3) := by decide +kernel
theorem dX4_service_5 : decode cX4_service 5 = .ok (.iload_n 1, 1) := by decide +kernel
theorem dX4_service_6 : decode cX4_service 6 = .ok (.ifCond .lt 28, 3) := by decide +kernel
theorem dX4_service_9 : decode cX4_service 9 = .ok (.iload_n 2, 1) := by decide +kernel
theorem dX4_service_10 : decode cX4_service 10 = .ok (.iload_n 1, 1) := by decide +kernel
theorem dX4_service_11 : decode cX4_service 11 = .ok (.if_icmp .lt 23, 3) := by decide +kernel
theorem dX4_service_14 : decode cX4_service 14 = .ok (.iload_n 2, 1) := by decide +kernel
theorem dX4_service_15 : decode cX4_service 15 = .ok (.ldc 106, 2) := by decide +kernel
theorem dX4_service_17 : decode cX4_service 17 = .ok (.if_icmp .gt 17, 3) := by decide +kernel
theorem dX4_service_20 : decode cX4_service 20 = .ok (.aload_n 0, 1) := by decide +kernel
theorem dX4_service_21 : decode cX4_service 21 = .ok (.iload_n 2, 1) := by decide +kernel
theorem dX4_service_22 : decode cX4_service 22 = .ok (.invokevirtual 107, 3) := by decide +kernel
theorem dX4_service_25 : decode cX4_service 25 = .ok (.aload_n 0, 1) := by decide +kernel
theorem dX4_service_26 : decode cX4_service 26 = .ok (.iload_n 1, 1) := by decide +kernel
theorem dX4_service_27 : decode cX4_service 27 = .ok (.invokevirtual 107, 3) := by decide +kernel
theorem dX4_service_30 : decode cX4_service 30 = .ok (.isub, 1) := by decide +kernel
theorem dX4_service_31 : decode cX4_service 31 = .ok (.goto 8, 3) := by decide +kernel
theorem dX4_service_34 : decode cX4_service 34 = .ok (.aload_n 0, 1) := by decide +kernel
theorem dX4_service_35 : decode cX4_service 35 = .ok (.iconst 1, 1) := by decide +kernel
theorem dX4_service_36 : decode cX4_service 36 = .ok (.invokevirtual 90, 3) := by decide +kernel
theorem dX4_service_39 : decode cX4_service 39 = .ok (.ireturn, 1) := by decide +kernel
theorem dX4_addAgent_0 : decode cX4_addAgent 0 = .ok (.aload_n 0, 1) := by decide +kernel
theorem dX4_addAgent_1 : decode cX4_addAgent 1 = .ok (.iconst 0, 1) := by decide +kernel
theorem dX4_addAgent_2 : decode cX4_addAgent 2 = .ok (.putfield 77, 3) := by decide +kernel
theorem dX4_addAgent_5 : decode cX4_addAgent 5 = .ok (.iload_n 1, 1) := by decide +kernel
theorem dX4_addAgent_6 : decode cX4_addAgent 6 = .ok (.iconst 0, 1) := by decide +kernel
theorem dX4_addAgent_7 : decode cX4_addAgent 7 = .ok (.sipush 255, 3) := by decide +kernel
theorem dX4_addAgent_10 : decode cX4_addAgent 10 = .ok (.invokestatic 83, 3) := by decide +kernel
theorem dX4_addAgent_13 : decode cX4_addAgent 13 = .ok (.ifCond .eq 38, 3) := by decide +kernel
theorem dX4_addAgent_16 : decode cX4_addAgent 16 = .ok (.iload_n 2, 1) := by decide +kernel
theorem dX4_addAgent_17 : decode cX4_addAgent 17 = .ok (.iconst 1, 1) := by decide +kernel
theorem dX4_addAgent_18 : decode cX4_addAgent 18 = .ok (.bipush 127, 2) := by decide +kernel
theorem dX4_addAgent_20 : decode cX4_addAgent 20 = .ok (.invokestatic 83, 3) := by decide +kernel
theorem dX4_addAgent_23 : decode cX4_addAgent 23 = .ok (.ifCond .eq 28, 3) := by decide +kernel
theorem dX4_addAgent_26 : decode cX4_addAgent 26 = .ok (.iload_n 3, 1) := by decide +kernel
theorem dX4_addAgent_27 : decode cX4_addAgent 27 = .ok (.iconst 0, 1) := by decide +kernel
theorem dX4_addAgent_28 : decode cX4_addAgent 28 = .ok (.sipush 1439, 3) := by decide +kernel
theorem dX4_addAgent_31 : decode cX4_addAgent 31 = .ok (.invokestatic 83, 3) := by decide +kernel
theorem dX4_addAgent_34 : decode cX4_addAgent 34 = .ok (.ifCond .eq 17, 3) := by decide +kernel
theorem dX4_addAgent_37 : decode cX4_addAgent 37 = .ok (.iload 4, 2) := by decide +kernel
theorem dX4_addAgent_39 : decode cX4_addAgent 39 = .ok (.iload_n 3, 1) := by decide +kernel
theorem dX4_addAgent_40 : decode cX4_addAgent 40 = .ok (.iconst 1, 1) := by decide +kernel
theorem dX4_addAgent_41 : decode cX4_addAgent 41 = .ok (.iadd, 1) := by decide +kernel
theorem dX4_addAgent_42 : decode cX4_addAgent 42 = .ok (.sipush 1440, 3) := by decide +kernel
theorem dX4_addAgent_45 : decode cX4_addAgent 45 = .ok (.invokestatic 83, 3) := by decide +kernel
theorem dX4_addAgent_48 : decode cX4_addAgent 48 = .ok (.ifCond .ne 9, 3) := by decide +kernel
theorem dX4_addAgent_51 : decode cX4_addAgent 51 = .ok (.aload_n 0, 1) := by decide +kernel
theorem dX4_addAgent_52 : decode cX4_addAgent 52 = .ok (.iconst 1, 1) := by decide +kernel
theorem dX4_addAgent_53 : decode cX4_addAgent 53 = .ok (.invokevirtual 90, 3) := by decide +kernel
theorem dX4_addAgent_56 : decode cX4_addAgent 56 = .ok (.ireturn, 1) := by decide +kernel
theorem dX4_addAgent_57 : decode cX4_addAgent 57 = .ok (.aload_n 0, 1) := by decide +kernel
theorem dX4_addAgent_58 : decode cX4_addAgent 58 = .ok (.getfield 80, 3) := by decide +kernel
theorem dX4_addAgent_61 : decode cX4_addAgent 61 = .ok (.bipush 6, 2) := by decide +kernel
theorem dX4_addAgent_63 : decode cX4_addAgent 63 = .ok (.if_icmp .ne 9, 3) := by decide +kernel
theorem dX4_addAgent_66 : decode cX4_addAgent 66 = .ok (.aload_n 0, 1) := by decide +kernel
theorem dX4_addAgent_67 : decode cX4_addAgent 67 = .ok (.iconst 2, 1) := by decide +kernel
theorem dX4_addAgent_68 : decode cX4_addAgent 68 = .ok (.invokevirtual 90, 3) := by decide +kernel
theorem dX4_addAgent_71 : decode cX4_addAgent 71 = .ok (.ireturn, 1) := by decide +kernel
theorem dX4_addAgent_72 : decode cX4_addAgent 72 = .ok (.aload_n 0, 1) := by decide +kernel
theorem dX4_addAgent_73 : decode cX4_addAgent 73 = .ok (.getfield 23, 3) := by decide +kernel
theorem dX4_addAgent_76 : decode cX4_addAgent 76 = .ok (.aload_n 0, 1) := by decide +kernel
theorem dX4_addAgent_77 : decode cX4_addAgent 77 = .ok (.getfield 80, 3) := by decide +kernel
theorem dX4_addAgent_80 : decode cX4_addAgent 80 = .ok (.iload_n 1, 1) := by decide +kernel
theorem dX4_addAgent_81 : decode cX4_addAgent 81 = .ok (.iastore, 1) := by decide +kernel
theorem dX4_addAgent_82 : decode cX4_addAgent 82 = .ok (.aload_n 0, 1) := by decide +kernel
theorem dX4_addAgent_83 : decode cX4_addAgent 83 = .ok (.getfield 26, 3) := by decide +kernel
theorem dX4_addAgent_86 : decode cX4_addAgent 86 = .ok (.aload_n 0, 1) := by decide +kernel
theorem dX4_addAgent_87 : decode cX4_addAgent 87 = .ok (.getfield 80, 3) := by decide +kernel
theorem dX4_addAgent_90 : decode cX4_addAgent 90 = .ok (.iload_n 2, 1) := by decide +kernel
theorem dX4_addAgent_91 : decode cX4_addAgent 91 = .ok (.iastore, 1) := by decide +kernel
theorem dX4_addAgent_92 : decode cX4_addAgent 92 = .ok (.aload_n 0, 1) := by decide +kernel
theorem dX4_addAgent_93 : decode cX4_addAgent 93 = .ok (.getfield 29, 3) := by decide +kernel
theorem dX4_addAgent_96 : decode cX4_addAgent 96 = .ok (.aload_n 0, 1) := by decide +kernel
theorem dX4_addAgent_97 : decode cX4_addAgent 97 = .ok (.getfield 80, 3) := by decide +kernel
theorem dX4_addAgent_100 : decode cX4_addAgent 100 = .ok (.iload_n 3, 1) := by decide +kernel
theorem dX4_addAgent_101 : decode cX4_addAgent 101 = .ok (.iastore, 1) := by decide +kernel
theorem dX4_addAgent_102 : decode cX4_addAgent 102 = .ok (.aload_n 0, 1) := by decide +kernel
theorem dX4_addAgent_103 : decode cX4_addAgent 103 = .ok (.getfield 32, 3) := by decide +kernel
theorem dX4_addAgent_106 : decode cX4_addAgent 106 = .ok (.aload_n 0, 1) := by decide +kernel
theorem dX4_addAgent_107 : decode cX4_addAgent 107 = .ok (.getfield 80, 3) := by decide +kernel
theorem dX4_addAgent_110 : decode cX4_addAgent 110 = .ok (.iload 4, 2) := by decide +kernel
theorem dX4_addAgent_112 : decode cX4_addAgent 112 = .ok (.iastore, 1) := by decide +kernel
theorem dX4_addAgent_113 : decode cX4_addAgent 113 = .ok (.aload_n 0, 1) := by decide +kernel
theorem dX4_addAgent_114 : decode cX4_addAgent 114 = .ok (.getfield 35, 3) := by decide +kernel
theorem dX4_addAgent_117 : decode cX4_addAgent 117 = .ok (.aload_n 0, 1) := by decide +kernel
theorem dX4_addAgent_118 : decode cX4_addAgent 118 = .ok (.getfield 80, 3) := by decide +kernel
theorem dX4_addAgent_121 : decode cX4_addAgent 121 = .ok (.iconst (-1), 1) := by decide +kernel
theorem dX4_addAgent_122 : decode cX4_addAgent 122 = .ok (.iastore, 1) := by decide +kernel
theorem dX4_addAgent_123 : decode cX4_addAgent 123 = .ok (.aload_n 0, 1) := by decide +kernel
theorem dX4_addAgent_124 : decode cX4_addAgent 124 = .ok (.dup, 1) := by decide +kernel
theorem dX4_addAgent_125 : decode cX4_addAgent 125 = .ok (.getfield 80, 3) := by decide +kernel
theorem dX4_addAgent_128 : decode cX4_addAgent 128 = .ok (.iconst 1, 1) := by decide +kernel
theorem dX4_addAgent_129 : decode cX4_addAgent 129 = .ok (.iadd, 1) := by decide +kernel
theorem dX4_addAgent_130 : decode cX4_addAgent 130 = .ok (.putfield 80, 3) := by decide +kernel
theorem dX4_addAgent_133 : decode cX4_addAgent 133 = .ok (.aload_n 0, 1) := by decide +kernel
theorem dX4_addAgent_134 : decode cX4_addAgent 134 = .ok (.getfield 80, 3) := by decide +kernel
theorem dX4_addAgent_137 : decode cX4_addAgent 137 = .ok (.iconst 1, 1) := by decide +kernel
theorem dX4_addAgent_138 : decode cX4_addAgent 138 = .ok (.isub, 1) := by decide +kernel
theorem dX4_addAgent_139 : decode cX4_addAgent 139 = .ok (.ireturn, 1) := by decide +kernel
theorem dX4_leave_0 : decode cX4_leave 0 = .ok (.iconst 0, 1) := by decide +kernel
theorem dX4_leave_1 : decode cX4_leave 1 = .ok (.istore_n 3, 1) := by decide +kernel
theorem dX4_leave_2 : decode cX4_leave 2 = .ok (.iload_n 3, 1) := by decide +kernel
theorem dX4_leave_3 : decode cX4_leave 3 = .ok (.aload_n 0, 1) := by decide +kernel
theorem dX4_leave_4 : decode cX4_leave 4 = .ok (.getfield 80, 3) := by decide +kernel
theorem dX4_leave_7 : decode cX4_leave 7 = .ok (.if_icmp .ge 26, 3) := by decide +kernel
theorem dX4_leave_10 : decode cX4_leave 10 = .ok (.aload_n 0, 1) := by decide +kernel
theorem dX4_leave_11 : decode cX4_leave 11 = .ok (.getfield 35, 3) := by decide +kernel
theorem dX4_leave_14 : decode cX4_leave 14 = .ok (.iload_n 3, 1) := by decide +kernel
theorem dX4_leave_15 : decode cX4_leave 15 = .ok (.iaload, 1) := by decide +kernel
theorem dX4_leave_16 : decode cX4_leave 16 = .ok (.iload_n 1, 1) := by decide +kernel
theorem dX4_leave_17 : decode cX4_leave 17 = .ok (.if_icmp .ne 10, 3) := by decide +kernel
theorem dX4_leave_20 : decode cX4_leave 20 = .ok (.aload_n 0, 1) := by decide +kernel
theorem dX4_leave_21 : decode cX4_leave 21 = .ok (.getfield 35, 3) := by decide +kernel
theorem dX4_leave_24 : decode cX4_leave 24 = .ok (.iload_n 3, 1) := by decide +kernel
theorem dX4_leave_25 : decode cX4_leave 25 = .ok (.iconst (-1), 1) := by decide +kernel
theorem dX4_leave_26 : decode cX4_leave 26 = .ok (.iastore, 1) := by decide +kernel
theorem dX4_leave_27 : decode cX4_leave 27 = .ok (.iinc 3 1, 3) := by decide +kernel
theorem dX4_leave_30 : decode cX4_leave 30 = .ok (.goto (-28), 3) := by decide +kernel
theorem dX4_leave_33 : decode cX4_leave 33 = .ok (.aload_n 0, 1) := by decide +kernel
theorem dX4_leave_34 : decode cX4_leave 34 = .ok (.getfield 56, 3) := by decide +kernel
theorem dX4_leave_37 : decode cX4_leave 37 = .ok (.iload_n 1, 1) := by decide +kernel
theorem dX4_leave_38 : decode cX4_leave 38 = .ok (.iload_n 2, 1) := by decide +kernel
theorem dX4_leave_39 : decode cX4_leave 39 = .ok (.iastore, 1) := by decide +kernel
theorem dX4_leave_40 : decode cX4_leave 40 = .ok (.return_, 1) := by decide +kernel
theorem dX4_setSkills_0 : decode cX4_setSkills 0 = .ok (.aload_n 0, 1) := by decide +kernel
theorem dX4_setSkills_1 : decode cX4_setSkills 1 = .ok (.iconst 0, 1) := by decide +kernel
theorem dX4_setSkills_2 : decode cX4_setSkills 2 = .ok (.putfield 77, 3) := by decide +kernel
theorem dX4_setSkills_5 : decode cX4_setSkills 5 = .ok (.aload_n 0, 1) := by decide +kernel
theorem dX4_setSkills_6 : decode cX4_setSkills 6 = .ok (.iload_n 1, 1) := by decide +kernel
theorem dX4_setSkills_7 : decode cX4_setSkills 7 = .ok (.invokevirtual 110, 3) := by decide +kernel
theorem dX4_setSkills_10 : decode cX4_setSkills 10 = .ok (.ifCond .ne 9, 3) := by decide +kernel
theorem dX4_setSkills_13 : decode cX4_setSkills 13 = .ok (.aload_n 0, 1) := by decide +kernel
theorem dX4_setSkills_14 : decode cX4_setSkills 14 = .ok (.iconst 1, 1) := by decide +kernel
theorem dX4_setSkills_15 : decode cX4_setSkills 15 = .ok (.invokevirtual 90, 3) := by decide +kernel
theorem dX4_setSkills_18 : decode cX4_setSkills 18 = .ok (.ireturn, 1) := by decide +kernel
theorem dX4_setSkills_19 : decode cX4_setSkills 19 = .ok (.iload_n 2, 1) := by decide +kernel
theorem dX4_setSkills_20 : decode cX4_setSkills 20 = .ok (.iconst 0, 1) := by decide +kernel
theorem dX4_setSkills_21 : decode cX4_setSkills 21 = .ok (.sipush 255, 3) := by decide +kernel
theorem dX4_setSkills_24 : decode cX4_setSkills 24 = .ok (.invokestatic 83, 3) := by decide +kernel
theorem dX4_setSkills_27 : decode cX4_setSkills 27 = .ok (.ifCond .ne 9, 3) := by decide +kernel
theorem dX4_setSkills_30 : decode cX4_setSkills 30 = .ok (.aload_n 0, 1) := by decide +kernel
theorem dX4_setSkills_31 : decode cX4_setSkills 31 = .ok (.iconst 2, 1) := by decide +kernel
theorem dX4_setSkills_32 : decode cX4_setSkills 32 = .ok (.invokevirtual 90, 3) := by decide +kernel
theorem dX4_setSkills_35 : decode cX4_setSkills 35 = .ok (.ireturn, 1) := by decide +kernel
theorem dX4_setSkills_36 : decode cX4_setSkills 36 = .ok (.aload_n 0, 1) := by decide +kernel
theorem dX4_setSkills_37 : decode cX4_setSkills 37 = .ok (.getfield 23, 3) := by decide +kernel
theorem dX4_setSkills_40 : decode cX4_setSkills 40 = .ok (.iload_n 1, 1) := by decide +kernel
theorem dX4_setSkills_41 : decode cX4_setSkills 41 = .ok (.iaload, 1) := by decide +kernel
theorem dX4_setSkills_42 : decode cX4_setSkills 42 = .ok (.istore_n 3, 1) := by decide +kernel
theorem dX4_setSkills_43 : decode cX4_setSkills 43 = .ok (.aload_n 0, 1) := by decide +kernel
theorem dX4_setSkills_44 : decode cX4_setSkills 44 = .ok (.getfield 23, 3) := by decide +kernel
theorem dX4_setSkills_47 : decode cX4_setSkills 47 = .ok (.iload_n 1, 1) := by decide +kernel
theorem dX4_setSkills_48 : decode cX4_setSkills 48 = .ok (.iload_n 2, 1) := by decide +kernel
theorem dX4_setSkills_49 : decode cX4_setSkills 49 = .ok (.iastore, 1) := by decide +kernel
theorem dX4_setSkills_50 : decode cX4_setSkills 50 = .ok (.aload_n 0, 1) := by decide +kernel
theorem dX4_setSkills_51 : decode cX4_setSkills 51 = .ok (.getfield 35, 3) := by decide +kernel
theorem dX4_setSkills_54 : decode cX4_setSkills 54 = .ok (.iload_n 1, 1) := by decide +kernel
theorem dX4_setSkills_55 : decode cX4_setSkills 55 = .ok (.iaload, 1) := by decide +kernel
theorem dX4_setSkills_56 : decode cX4_setSkills 56 = .ok (.iconst (-1), 1) := by decide +kernel
theorem dX4_setSkills_57 : decode cX4_setSkills 57 = .ok (.if_icmp .eq 32, 3) := by decide +kernel
theorem dX4_setSkills_60 : decode cX4_setSkills 60 = .ok (.iload_n 2, 1) := by decide +kernel
theorem dX4_setSkills_61 : decode cX4_setSkills 61 = .ok (.aload_n 0, 1) := by decide +kernel
theorem dX4_setSkills_62 : decode cX4_setSkills 62 = .ok (.getfield 44, 3) := by decide +kernel
theorem dX4_setSkills_65 : decode cX4_setSkills 65 = .ok (.aload_n 0, 1) := by decide +kernel
theorem dX4_setSkills_66 : decode cX4_setSkills 66 = .ok (.getfield 35, 3) := by decide +kernel
theorem dX4_setSkills_69 : decode cX4_setSkills 69 = .ok (.iload_n 1, 1) := by decide +kernel
theorem dX4_setSkills_70 : decode cX4_setSkills 70 = .ok (.iaload, 1) := by decide +kernel
theorem dX4_setSkills_71 : decode cX4_setSkills 71 = .ok (.iaload, 1) := by decide +kernel
theorem dX4_setSkills_72 : decode cX4_setSkills 72 = .ok (.invokestatic 114, 3) := by decide +kernel
theorem dX4_setSkills_75 : decode cX4_setSkills 75 = .ok (.ifCond .ne 14, 3) := by decide +kernel
theorem dX4_setSkills_78 : decode cX4_setSkills 78 = .ok (.aload_n 0, 1) := by decide +kernel
theorem dX4_setSkills_79 : decode cX4_setSkills 79 = .ok (.aload_n 0, 1) := by decide +kernel
theorem dX4_setSkills_80 : decode cX4_setSkills 80 = .ok (.getfield 35, 3) := by decide +kernel
theorem dX4_setSkills_83 : decode cX4_setSkills 83 = .ok (.iload_n 1, 1) := by decide +kernel
theorem dX4_setSkills_84 : decode cX4_setSkills 84 = .ok (.iaload, 1) := by decide +kernel
theorem dX4_setSkills_85 : decode cX4_setSkills 85 = .ok (.iconst 0, 1) := by decide +kernel
theorem dX4_setSkills_86 : decode cX4_setSkills 86 = .ok (.invokevirtual 118, 3) := by decide +kernel
theorem dX4_setSkills_89 : decode cX4_setSkills 89 = .ok (.iload_n 3, 1) := by decide +kernel
theorem dX4_setSkills_90 : decode cX4_setSkills 90 = .ok (.ireturn, 1) := by decide +kernel
theorem dX4_isThere_0 : decode cX4_isThere 0 = .ok (.aload_n 0, 1) := by decide +kernel
theorem dX4_isThere_1 : decode cX4_isThere 1 = .ok (.getfield 26, 3) := by decide +kernel
theorem dX4_isThere_4 : decode cX4_isThere 4 = .ok (.iload_n 1, 1) := by decide +kernel
theorem dX4_isThere_5 : decode cX4_isThere 5 = .ok (.iaload, 1) := by decide +kernel
theorem dX4_isThere_6 : decode cX4_isThere 6 = .ok (.aload_n 0, 1) := by decide +kernel
theorem dX4_isThere_7 : decode cX4_isThere 7 = .ok (.getfield 94, 3) := by decide +kernel
theorem dX4_isThere_10 : decode cX4_isThere 10 = .ok (.sipush 1440, 3) := by decide +kernel
theorem dX4_isThere_13 : decode cX4_isThere 13 = .ok (.idiv, 1) := by decide +kernel
theorem dX4_isThere_14 : decode cX4_isThere 14 = .ok (.bipush 7, 2) := by decide +kernel
theorem dX4_isThere_16 : decode cX4_isThere 16 = .ok (.irem, 1) := by decide +kernel
theorem dX4_isThere_17 : decode cX4_isThere 17 = .ok (.invokestatic 114, 3) := by decide +kernel
theorem dX4_isThere_20 : decode cX4_isThere 20 = .ok (.ifCond .eq 35, 3) := by decide +kernel
theorem dX4_isThere_23 : decode cX4_isThere 23 = .ok (.aload_n 0, 1) := by decide +kernel
theorem dX4_isThere_24 : decode cX4_isThere 24 = .ok (.getfield 94, 3) := by decide +kernel
theorem dX4_isThere_27 : decode cX4_isThere 27 = .ok (.sipush 1440, 3) := by decide +kernel
theorem dX4_isThere_30 : decode cX4_isThere 30 = .ok (.irem, 1) := by decide +kernel
theorem dX4_isThere_31 : decode cX4_isThere 31 = .ok (.aload_n 0, 1) := by decide +kernel
theorem dX4_isThere_32 : decode cX4_isThere 32 = .ok (.getfield 29, 3) := by decide +kernel
theorem dX4_isThere_35 : decode cX4_isThere 35 = .ok (.iload_n 1, 1) := by decide +kernel
theorem dX4_isThere_36 : decode cX4_isThere 36 = .ok (.iaload, 1) := by decide +kernel
theorem dX4_isThere_37 : decode cX4_isThere 37 = .ok (.aload_n 0, 1) := by decide +kernel
theorem dX4_isThere_38 : decode cX4_isThere 38 = .ok (.getfield 32, 3) := by decide +kernel
theorem dX4_isThere_41 : decode cX4_isThere 41 = .ok (.iload_n 1, 1) := by decide +kernel
theorem dX4_isThere_42 : decode cX4_isThere 42 = .ok (.iaload, 1) := by decide +kernel
theorem dX4_isThere_43 : decode cX4_isThere 43 = .ok (.iconst 1, 1) := by decide +kernel
theorem dX4_isThere_44 : decode cX4_isThere 44 = .ok (.isub, 1) := by decide +kernel
theorem dX4_isThere_45 : decode cX4_isThere 45 = .ok (.invokestatic 83, 3) := by decide +kernel
theorem dX4_isThere_48 : decode cX4_isThere 48 = .ok (.ifCond .eq 7, 3) := by decide +kernel
theorem dX4_isThere_51 : decode cX4_isThere 51 = .ok (.iconst 1, 1) := by decide +kernel
theorem dX4_isThere_52 : decode cX4_isThere 52 = .ok (.goto 4, 3) := by decide +kernel
theorem dX4_isThere_55 : decode cX4_isThere 55 = .ok (.iconst 0, 1) := by decide +kernel
theorem dX4_isThere_56 : decode cX4_isThere 56 = .ok (.ireturn, 1) := by decide +kernel
theorem dX4_toldAgent_0 : decode cX4_toldAgent 0 = .ok (.iload_n 2, 1) := by decide +kernel
theorem dX4_toldAgent_1 : decode cX4_toldAgent 1 = .ok (.ifCond .ne 12, 3) := by decide +kernel
theorem dX4_toldAgent_4 : decode cX4_toldAgent 4 = .ok (.aload_n 0, 1) := by decide +kernel
theorem dX4_toldAgent_5 : decode cX4_toldAgent 5 = .ok (.getfield 35, 3) := by decide +kernel
theorem dX4_toldAgent_8 : decode cX4_toldAgent 8 = .ok (.iload_n 1, 1) := by decide +kernel
theorem dX4_toldAgent_9 : decode cX4_toldAgent 9 = .ok (.iaload, 1) := by decide +kernel
theorem dX4_toldAgent_10 : decode cX4_toldAgent 10 = .ok (.goto 44, 3) := by decide +kernel
theorem dX4_toldAgent_13 : decode cX4_toldAgent 13 = .ok (.iload_n 2, 1) := by decide +kernel
theorem dX4_toldAgent_14 : decode cX4_toldAgent 14 = .ok (.iconst 1, 1) := by decide +kernel
theorem dX4_toldAgent_15 : decode cX4_toldAgent 15 = .ok (.if_icmp .ne 12, 3) := by decide +kernel
theorem dX4_toldAgent_18 : decode cX4_toldAgent 18 = .ok (.aload_n 0, 1) := by decide +kernel
theorem dX4_toldAgent_19 : decode cX4_toldAgent 19 = .ok (.getfield 38, 3) := by decide +kernel
theorem dX4_toldAgent_22 : decode cX4_toldAgent 22 = .ok (.iload_n 1, 1) := by decide +kernel
theorem dX4_toldAgent_23 : decode cX4_toldAgent 23 = .ok (.iaload, 1) := by decide +kernel
theorem dX4_toldAgent_24 : decode cX4_toldAgent 24 = .ok (.goto 30, 3) := by decide +kernel
theorem dX4_toldAgent_27 : decode cX4_toldAgent 27 = .ok (.iload_n 2, 1) := by decide +kernel
theorem dX4_toldAgent_28 : decode cX4_toldAgent 28 = .ok (.iconst 2, 1) := by decide +kernel
theorem dX4_toldAgent_29 : decode cX4_toldAgent 29 = .ok (.if_icmp .ne 12, 3) := by decide +kernel
theorem dX4_toldAgent_32 : decode cX4_toldAgent 32 = .ok (.aload_n 0, 1) := by decide +kernel
theorem dX4_toldAgent_33 : decode cX4_toldAgent 33 = .ok (.getfield 41, 3) := by decide +kernel
theorem dX4_toldAgent_36 : decode cX4_toldAgent 36 = .ok (.iload_n 1, 1) := by decide +kernel
theorem dX4_toldAgent_37 : decode cX4_toldAgent 37 = .ok (.iaload, 1) := by decide +kernel
theorem dX4_toldAgent_38 : decode cX4_toldAgent 38 = .ok (.goto 16, 3) := by decide +kernel
theorem dX4_toldAgent_41 : decode cX4_toldAgent 41 = .ok (.aload_n 0, 1) := by decide +kernel
theorem dX4_toldAgent_42 : decode cX4_toldAgent 42 = .ok (.iload_n 1, 1) := by decide +kernel
theorem dX4_toldAgent_43 : decode cX4_toldAgent 43 = .ok (.invokevirtual 122, 3) := by decide +kernel
theorem dX4_toldAgent_46 : decode cX4_toldAgent 46 = .ok (.ifCond .eq 7, 3) := by decide +kernel
theorem dX4_toldAgent_49 : decode cX4_toldAgent 49 = .ok (.iconst 1, 1) := by decide +kernel
theorem dX4_toldAgent_50 : decode cX4_toldAgent 50 = .ok (.goto 4, 3) := by decide +kernel
theorem dX4_toldAgent_53 : decode cX4_toldAgent 53 = .ok (.iconst 0, 1) := by decide +kernel
theorem dX4_toldAgent_54 : decode cX4_toldAgent 54 = .ok (.ireturn, 1) := by decide +kernel
theorem dX4_agent_0 : decode cX4_agent 0 = .ok (.aload_n 0, 1) := by decide +kernel
theorem dX4_agent_1 : decode cX4_agent 1 = .ok (.iconst 0, 1) := by decide +kernel
theorem dX4_agent_2 : decode cX4_agent 2 = .ok (.putfield 77, 3) := by decide +kernel
theorem dX4_agent_5 : decode cX4_agent 5 = .ok (.aload_n 0, 1) := by decide +kernel
theorem dX4_agent_6 : decode cX4_agent 6 = .ok (.iload_n 1, 1) := by decide +kernel
theorem dX4_agent_7 : decode cX4_agent 7 = .ok (.invokevirtual 110, 3) := by decide +kernel
theorem dX4_agent_10 : decode cX4_agent 10 = .ok (.ifCond .eq 21, 3) := by decide +kernel
theorem dX4_agent_13 : decode cX4_agent 13 = .ok (.iload_n 2, 1) := by decide +kernel
theorem dX4_agent_14 : decode cX4_agent 14 = .ok (.iconst 0, 1) := by decide +kernel
theorem dX4_agent_15 : decode cX4_agent 15 = .ok (.iconst 3, 1) := by decide +kernel
theorem dX4_agent_16 : decode cX4_agent 16 = .ok (.invokestatic 83, 3) := by decide +kernel
theorem dX4_agent_19 : decode cX4_agent 19 = .ok (.ifCond .eq 12, 3) := by decide +kernel
theorem dX4_agent_22 : decode cX4_agent 22 = .ok (.aload_n 0, 1) := by decide +kernel
theorem dX4_agent_23 : decode cX4_agent 23 = .ok (.iload_n 1, 1) := by decide +kernel
theorem dX4_agent_24 : decode cX4_agent 24 = .ok (.iload_n 2, 1) := by decide +kernel
theorem dX4_agent_25 : decode cX4_agent 25 = .ok (.invokevirtual 125, 3) := by decide +kernel
theorem dX4_agent_28 : decode cX4_agent 28 = .ok (.goto 8, 3) := by decide +kernel
theorem dX4_agent_31 : decode cX4_agent 31 = .ok (.aload_n 0, 1) := by decide +kernel
theorem dX4_agent_32 : decode cX4_agent 32 = .ok (.iconst 1, 1) := by decide +kernel
theorem dX4_agent_33 : decode cX4_agent 33 = .ok (.invokevirtual 90, 3) := by decide +kernel
theorem dX4_agent_36 : decode cX4_agent 36 = .ok (.ireturn, 1) := by decide +kernel
theorem dX4_slack_0 : decode cX4_slack 0 = .ok (.aload_n 0, 1) := by decide +kernel
theorem dX4_slack_1 : decode cX4_slack 1 = .ok (.getfield 20, 3) := by decide +kernel
theorem dX4_slack_4 : decode cX4_slack 4 = .ok (.aload_n 0, 1) := by decide +kernel
theorem dX4_slack_5 : decode cX4_slack 5 = .ok (.getfield 47, 3) := by decide +kernel
theorem dX4_slack_8 : decode cX4_slack 8 = .ok (.iload_n 1, 1) := by decide +kernel
theorem dX4_slack_9 : decode cX4_slack 9 = .ok (.iaload, 1) := by decide +kernel
theorem dX4_slack_10 : decode cX4_slack 10 = .ok (.iaload, 1) := by decide +kernel
theorem dX4_slack_11 : decode cX4_slack 11 = .ok (.aload_n 0, 1) := by decide +kernel
theorem dX4_slack_12 : decode cX4_slack 12 = .ok (.getfield 59, 3) := by decide +kernel
theorem dX4_slack_15 : decode cX4_slack 15 = .ok (.iload_n 1, 1) := by decide +kernel
theorem dX4_slack_16 : decode cX4_slack 16 = .ok (.iaload, 1) := by decide +kernel
theorem dX4_slack_17 : decode cX4_slack 17 = .ok (.isub, 1) := by decide +kernel
theorem dX4_slack_18 : decode cX4_slack 18 = .ok (.ireturn, 1) := by decide +kernel
theorem dX4_likes_0 : decode cX4_likes 0 = .ok (.aload_n 0, 1) := by decide +kernel
theorem dX4_likes_1 : decode cX4_likes 1 = .ok (.getfield 65, 3) := by decide +kernel
theorem dX4_likes_4 : decode cX4_likes 4 = .ok (.iload_n 2, 1) := by decide +kernel
theorem dX4_likes_5 : decode cX4_likes 5 = .ok (.iaload, 1) := by decide +kernel
theorem dX4_likes_6 : decode cX4_likes 6 = .ok (.iload_n 1, 1) := by decide +kernel
theorem dX4_likes_7 : decode cX4_likes 7 = .ok (.if_icmp .ne 7, 3) := by decide +kernel
theorem dX4_likes_10 : decode cX4_likes 10 = .ok (.iconst 1, 1) := by decide +kernel
theorem dX4_likes_11 : decode cX4_likes 11 = .ok (.goto 4, 3) := by decide +kernel
theorem dX4_likes_14 : decode cX4_likes 14 = .ok (.iconst 0, 1) := by decide +kernel
theorem dX4_likes_15 : decode cX4_likes 15 = .ok (.istore 4, 2) := by decide +kernel
theorem dX4_likes_17 : decode cX4_likes 17 = .ok (.iload 4, 2) := by decide +kernel
theorem dX4_likes_19 : decode cX4_likes 19 = .ok (.aload_n 0, 1) := by decide +kernel
theorem dX4_likes_20 : decode cX4_likes 20 = .ok (.getfield 65, 3) := by decide +kernel
theorem dX4_likes_23 : decode cX4_likes 23 = .ok (.iload_n 3, 1) := by decide +kernel
theorem dX4_likes_24 : decode cX4_likes 24 = .ok (.iaload, 1) := by decide +kernel
theorem dX4_likes_25 : decode cX4_likes 25 = .ok (.iload_n 1, 1) := by decide +kernel
theorem dX4_likes_26 : decode cX4_likes 26 = .ok (.if_icmp .ne 7, 3) := by decide +kernel
theorem dX4_likes_29 : decode cX4_likes 29 = .ok (.iconst 1, 1) := by decide +kernel
theorem dX4_likes_30 : decode cX4_likes 30 = .ok (.goto 4, 3) := by decide +kernel
theorem dX4_likes_33 : decode cX4_likes 33 = .ok (.iconst 0, 1) := by decide +kernel
theorem dX4_likes_34 : decode cX4_likes 34 = .ok (.if_icmp .eq 6, 3) := by decide +kernel
theorem dX4_likes_37 : decode cX4_likes 37 = .ok (.iload 4, 2) := by decide +kernel
theorem dX4_likes_39 : decode cX4_likes 39 = .ok (.ireturn, 1) := by decide +kernel
theorem dX4_likes_40 : decode cX4_likes 40 = .ok (.aload_n 0, 1) := by decide +kernel
theorem dX4_likes_41 : decode cX4_likes 41 = .ok (.iload_n 2, 1) := by decide +kernel
theorem dX4_likes_42 : decode cX4_likes 42 = .ok (.invokevirtual 128, 3) := by decide +kernel
theorem dX4_likes_45 : decode cX4_likes 45 = .ok (.aload_n 0, 1) := by decide +kernel
theorem dX4_likes_46 : decode cX4_likes 46 = .ok (.iload_n 3, 1) := by decide +kernel
theorem dX4_likes_47 : decode cX4_likes 47 = .ok (.invokevirtual 128, 3) := by decide +kernel
theorem dX4_likes_50 : decode cX4_likes 50 = .ok (.if_icmp .ge 7, 3) := by decide +kernel
theorem dX4_likes_53 : decode cX4_likes 53 = .ok (.iconst 1, 1) := by decide +kernel
theorem dX4_likes_54 : decode cX4_likes 54 = .ok (.goto 4, 3) := by decide +kernel
theorem dX4_likes_57 : decode cX4_likes 57 = .ok (.iconst 0, 1) := by decide +kernel
theorem dX4_likes_58 : decode cX4_likes 58 = .ok (.ireturn, 1) := by decide +kernel
theorem dX4_nextOf_0 : decode cX4_nextOf 0 = .ok (.iconst (-1), 1) := by decide +kernel
theorem dX4_nextOf_1 : decode cX4_nextOf 1 = .ok (.istore_n 2, 1) := by decide +kernel
theorem dX4_nextOf_2 : decode cX4_nextOf 2 = .ok (.iconst 0, 1) := by decide +kernel
theorem dX4_nextOf_3 : decode cX4_nextOf 3 = .ok (.istore_n 3, 1) := by decide +kernel
theorem dX4_nextOf_4 : decode cX4_nextOf 4 = .ok (.iload_n 3, 1) := by decide +kernel
theorem dX4_nextOf_5 : decode cX4_nextOf 5 = .ok (.aload_n 0, 1) := by decide +kernel
theorem dX4_nextOf_6 : decode cX4_nextOf 6 = .ok (.getfield 87, 3) := by decide +kernel
theorem dX4_nextOf_9 : decode cX4_nextOf 9 = .ok (.if_icmp .ge 53, 3) := by decide +kernel
theorem dX4_nextOf_12 : decode cX4_nextOf 12 = .ok (.aload_n 0, 1) := by decide +kernel
theorem dX4_nextOf_13 : decode cX4_nextOf 13 = .ok (.getfield 56, 3) := by decide +kernel
theorem dX4_nextOf_16 : decode cX4_nextOf 16 = .ok (.iload_n 3, 1) := by decide +kernel
theorem dX4_nextOf_17 : decode cX4_nextOf 17 = .ok (.iaload, 1) := by decide +kernel
theorem dX4_nextOf_18 : decode cX4_nextOf 18 = .ok (.ifCond .ne 38, 3) := by decide +kernel
theorem dX4_nextOf_21 : decode cX4_nextOf 21 = .ok (.aload_n 0, 1) := by decide +kernel
theorem dX4_nextOf_22 : decode cX4_nextOf 22 = .ok (.getfield 23, 3) := by decide +kernel
theorem dX4_nextOf_25 : decode cX4_nextOf 25 = .ok (.iload_n 1, 1) := by decide +kernel
theorem dX4_nextOf_26 : decode cX4_nextOf 26 = .ok (.iaload, 1) := by decide +kernel
theorem dX4_nextOf_27 : decode cX4_nextOf 27 = .ok (.aload_n 0, 1) := by decide +kernel
theorem dX4_nextOf_28 : decode cX4_nextOf 28 = .ok (.getfield 44, 3) := by decide +kernel
theorem dX4_nextOf_31 : decode cX4_nextOf 31 = .ok (.iload_n 3, 1) := by decide +kernel
theorem dX4_nextOf_32 : decode cX4_nextOf 32 = .ok (.iaload, 1) := by decide +kernel
theorem dX4_nextOf_33 : decode cX4_nextOf 33 = .ok (.invokestatic 114, 3) := by decide +kernel
theorem dX4_nextOf_36 : decode cX4_nextOf 36 = .ok (.ifCond .eq 20, 3) := by decide +kernel
theorem dX4_nextOf_39 : decode cX4_nextOf 39 = .ok (.iload_n 2, 1) := by decide +kernel
theorem dX4_nextOf_40 : decode cX4_nextOf 40 = .ok (.iconst (-1), 1) := by decide +kernel
theorem dX4_nextOf_41 : decode cX4_nextOf 41 = .ok (.if_icmp .eq 13, 3) := by decide +kernel
theorem dX4_nextOf_44 : decode cX4_nextOf 44 = .ok (.aload_n 0, 1) := by decide +kernel
theorem dX4_nextOf_45 : decode cX4_nextOf 45 = .ok (.iload_n 1, 1) := by decide +kernel
theorem dX4_nextOf_46 : decode cX4_nextOf 46 = .ok (.iload_n 3, 1) := by decide +kernel
theorem dX4_nextOf_47 : decode cX4_nextOf 47 = .ok (.iload_n 2, 1) := by decide +kernel
theorem dX4_nextOf_48 : decode cX4_nextOf 48 = .ok (.invokevirtual 131, 3) := by decide +kernel
theorem dX4_nextOf_51 : decode cX4_nextOf 51 = .ok (.ifCond .eq 5, 3) := by decide +kernel
theorem dX4_nextOf_54 : decode cX4_nextOf 54 = .ok (.iload_n 3, 1) := by decide +kernel
theorem dX4_nextOf_55 : decode cX4_nextOf 55 = .ok (.istore_n 2, 1) := by decide +kernel
theorem dX4_nextOf_56 : decode cX4_nextOf 56 = .ok (.iinc 3 1, 3) := by decide +kernel
theorem dX4_nextOf_59 : decode cX4_nextOf 59 = .ok (.goto (-55), 3) := by decide +kernel
theorem dX4_nextOf_62 : decode cX4_nextOf 62 = .ok (.iload_n 2, 1) := by decide +kernel
theorem dX4_nextOf_63 : decode cX4_nextOf 63 = .ok (.ireturn, 1) := by decide +kernel
theorem dX4_next_0 : decode cX4_next 0 = .ok (.aload_n 0, 1) := by decide +kernel
theorem dX4_next_1 : decode cX4_next 1 = .ok (.iconst 0, 1) := by decide +kernel
theorem dX4_next_2 : decode cX4_next 2 = .ok (.putfield 77, 3) := by decide +kernel
theorem dX4_next_5 : decode cX4_next 5 = .ok (.aload_n 0, 1) := by decide +kernel
theorem dX4_next_6 : decode cX4_next 6 = .ok (.iload_n 1, 1) := by decide +kernel
theorem dX4_next_7 : decode cX4_next 7 = .ok (.invokevirtual 110, 3) := by decide +kernel
theorem dX4_next_10 : decode cX4_next 10 = .ok (.ifCond .eq 11, 3) := by decide +kernel
theorem dX4_next_13 : decode cX4_next 13 = .ok (.aload_n 0, 1) := by decide +kernel
theorem dX4_next_14 : decode cX4_next 14 = .ok (.iload_n 1, 1) := by decide +kernel
theorem dX4_next_15 : decode cX4_next 15 = .ok (.invokevirtual 134, 3) := by decide +kernel
theorem dX4_next_18 : decode cX4_next 18 = .ok (.goto 8, 3) := by decide +kernel
theorem dX4_next_21 : decode cX4_next 21 = .ok (.aload_n 0, 1) := by decide +kernel
theorem dX4_next_22 : decode cX4_next 22 = .ok (.iconst 1, 1) := by decide +kernel
theorem dX4_next_23 : decode cX4_next 23 = .ok (.invokevirtual 90, 3) := by decide +kernel
theorem dX4_next_26 : decode cX4_next 26 = .ok (.ireturn, 1) := by decide +kernel
theorem dX4_open_0 : decode cX4_open 0 = .ok (.aload_n 0, 1) := by decide +kernel
theorem dX4_open_1 : decode cX4_open 1 = .ok (.iconst 0, 1) := by decide +kernel
theorem dX4_open_2 : decode cX4_open 2 = .ok (.putfield 77, 3) := by decide +kernel
theorem dX4_open_5 : decode cX4_open 5 = .ok (.iload_n 1, 1) := by decide +kernel
theorem dX4_open_6 : decode cX4_open 6 = .ok (.iconst 0, 1) := by decide +kernel
theorem dX4_open_7 : decode cX4_open 7 = .ok (.bipush 7, 2) := by decide +kernel
theorem dX4_open_9 : decode cX4_open 9 = .ok (.invokestatic 83, 3) := by decide +kernel
theorem dX4_open_12 : decode cX4_open 12 = .ok (.ifCond .eq 34, 3) := by decide +kernel
theorem dX4_open_15 : decode cX4_open 15 = .ok (.iload_n 2, 1) := by decide +kernel
theorem dX4_open_16 : decode cX4_open 16 = .ok (.iconst 0, 1) := by decide +kernel
theorem dX4_open_17 : decode cX4_open 17 = .ok (.iconst 3, 1) := by decide +kernel
theorem dX4_open_18 : decode cX4_open 18 = .ok (.invokestatic 83, 3) := by decide +kernel
theorem dX4_open_21 : decode cX4_open 21 = .ok (.ifCond .eq 25, 3) := by decide +kernel
theorem dX4_open_24 : decode cX4_open 24 = .ok (.iload_n 3, 1) := by decide +kernel
theorem dX4_open_25 : decode cX4_open 25 = .ok (.iconst 1, 1) := by decide +kernel
theorem dX4_open_26 : decode cX4_open 26 = .ok (.sipush 600, 3) := by decide +kernel
theorem dX4_open_29 : decode cX4_open 29 = .ok (.invokestatic 83, 3) := by decide +kernel
theorem dX4_open_32 : decode cX4_open 32 = .ok (.ifCond .eq 14, 3) := by decide +kernel
theorem dX4_open_35 : decode cX4_open 35 = .ok (.iload 4, 2) := by decide +kernel
theorem dX4_open_37 : decode cX4_open 37 = .ok (.iconst 0, 1) := by decide +kernel
theorem dX4_open_38 : decode cX4_open 38 = .ok (.bipush 9, 2) := by decide +kernel
theorem dX4_open_40 : decode cX4_open 40 = .ok (.invokestatic 83, 3) := by decide +kernel
theorem dX4_open_43 : decode cX4_open 43 = .ok (.ifCond .ne 9, 3) := by decide +kernel
theorem dX4_open_46 : decode cX4_open 46 = .ok (.aload_n 0, 1) := by decide +kernel
theorem dX4_open_47 : decode cX4_open 47 = .ok (.iconst 1, 1) := by decide +kernel
theorem dX4_open_48 : decode cX4_open 48 = .ok (.invokevirtual 90, 3) := by decide +kernel
theorem dX4_open_51 : decode cX4_open 51 = .ok (.ireturn, 1) := by decide +kernel
theorem dX4_open_52 : decode cX4_open 52 = .ok (.aload_n 0, 1) := by decide +kernel
theorem dX4_open_53 : decode cX4_open 53 = .ok (.getfield 87, 3) := by decide +kernel
theorem dX4_open_56 : decode cX4_open 56 = .ok (.bipush 20, 2) := by decide +kernel
theorem dX4_open_58 : decode cX4_open 58 = .ok (.if_icmp .ne 9, 3) := by decide +kernel
theorem dX4_open_61 : decode cX4_open 61 = .ok (.aload_n 0, 1) := by decide +kernel
theorem dX4_open_62 : decode cX4_open 62 = .ok (.iconst 2, 1) := by decide +kernel
theorem dX4_open_63 : decode cX4_open 63 = .ok (.invokevirtual 90, 3) := by decide +kernel
theorem dX4_open_66 : decode cX4_open 66 = .ok (.ireturn, 1) := by decide +kernel
theorem dX4_open_67 : decode cX4_open 67 = .ok (.aload_n 0, 1) := by decide +kernel
theorem dX4_open_68 : decode cX4_open 68 = .ok (.getfield 44, 3) := by decide +kernel
theorem dX4_open_71 : decode cX4_open 71 = .ok (.aload_n 0, 1) := by decide +kernel
theorem dX4_open_72 : decode cX4_open 72 = .ok (.getfield 87, 3) := by decide +kernel
theorem dX4_open_75 : decode cX4_open 75 = .ok (.iload_n 1, 1) := by decide +kernel
theorem dX4_open_76 : decode cX4_open 76 = .ok (.iastore, 1) := by decide +kernel
theorem dX4_open_77 : decode cX4_open 77 = .ok (.aload_n 0, 1) := by decide +kernel
theorem dX4_open_78 : decode cX4_open 78 = .ok (.getfield 47, 3) := by decide +kernel
theorem dX4_open_81 : decode cX4_open 81 = .ok (.aload_n 0, 1) := by decide +kernel
theorem dX4_open_82 : decode cX4_open 82 = .ok (.getfield 87, 3) := by decide +kernel
theorem dX4_open_85 : decode cX4_open 85 = .ok (.iload_n 2, 1) := by decide +kernel
theorem dX4_open_86 : decode cX4_open 86 = .ok (.iastore, 1) := by decide +kernel
theorem dX4_open_87 : decode cX4_open 87 = .ok (.aload_n 0, 1) := by decide +kernel
theorem dX4_open_88 : decode cX4_open 88 = .ok (.getfield 50, 3) := by decide +kernel
theorem dX4_open_91 : decode cX4_open 91 = .ok (.aload_n 0, 1) := by decide +kernel
theorem dX4_open_92 : decode cX4_open 92 = .ok (.getfield 87, 3) := by decide +kernel
theorem dX4_open_95 : decode cX4_open 95 = .ok (.iload_n 3, 1) := by decide +kernel
theorem dX4_open_96 : decode cX4_open 96 = .ok (.iastore, 1) := by decide +kernel
theorem dX4_open_97 : decode cX4_open 97 = .ok (.aload_n 0, 1) := by decide +kernel
theorem dX4_open_98 : decode cX4_open 98 = .ok (.getfield 53, 3) := by decide +kernel
theorem dX4_open_101 : decode cX4_open 101 = .ok (.aload_n 0, 1) := by decide +kernel
theorem dX4_open_102 : decode cX4_open 102 = .ok (.getfield 87, 3) := by decide +kernel
theorem dX4_open_105 : decode cX4_open 105 = .ok (.iload 4, 2) := by decide +kernel
theorem dX4_open_107 : decode cX4_open 107 = .ok (.iastore, 1) := by decide +kernel
theorem dX4_open_108 : decode cX4_open 108 = .ok (.aload_n 0, 1) := by decide +kernel
theorem dX4_open_109 : decode cX4_open 109 = .ok (.getfield 65, 3) := by decide +kernel
theorem dX4_open_112 : decode cX4_open 112 = .ok (.aload_n 0, 1) := by decide +kernel
theorem dX4_open_113 : decode cX4_open 113 = .ok (.getfield 87, 3) := by decide +kernel
theorem dX4_open_116 : decode cX4_open 116 = .ok (.iconst (-1), 1) := by decide +kernel
theorem dX4_open_117 : decode cX4_open 117 = .ok (.iastore, 1) := by decide +kernel
theorem dX4_open_118 : decode cX4_open 118 = .ok (.aload_n 0, 1) := by decide +kernel
theorem dX4_open_119 : decode cX4_open 119 = .ok (.getfield 68, 3) := by decide +kernel
theorem dX4_open_122 : decode cX4_open 122 = .ok (.aload_n 0, 1) := by decide +kernel
theorem dX4_open_123 : decode cX4_open 123 = .ok (.getfield 87, 3) := by decide +kernel
theorem dX4_open_126 : decode cX4_open 126 = .ok (.iconst (-1), 1) := by decide +kernel
theorem dX4_open_127 : decode cX4_open 127 = .ok (.iastore, 1) := by decide +kernel
theorem dX4_open_128 : decode cX4_open 128 = .ok (.aload_n 0, 1) := by decide +kernel
theorem dX4_open_129 : decode cX4_open 129 = .ok (.dup, 1) := by decide +kernel
theorem dX4_open_130 : decode cX4_open 130 = .ok (.getfield 87, 3) := by decide +kernel
theorem dX4_open_133 : decode cX4_open 133 = .ok (.iconst 1, 1) := by decide +kernel
theorem dX4_open_134 : decode cX4_open 134 = .ok (.iadd, 1) := by decide +kernel
theorem dX4_open_135 : decode cX4_open 135 = .ok (.putfield 87, 3) := by decide +kernel
theorem dX4_open_138 : decode cX4_open 138 = .ok (.aload_n 0, 1) := by decide +kernel
theorem dX4_open_139 : decode cX4_open 139 = .ok (.getfield 87, 3) := by decide +kernel
theorem dX4_open_142 : decode cX4_open 142 = .ok (.iconst 1, 1) := by decide +kernel
theorem dX4_open_143 : decode cX4_open 143 = .ok (.isub, 1) := by decide +kernel
theorem dX4_open_144 : decode cX4_open 144 = .ok (.ireturn, 1) := by decide +kernel
theorem dX4_setPriority_0 : decode cX4_setPriority 0 = .ok (.aload_n 0, 1) := by decide +kernel
theorem dX4_setPriority_1 : decode cX4_setPriority 1 = .ok (.iconst 0, 1) := by decide +kernel
theorem dX4_setPriority_2 : decode cX4_setPriority 2 = .ok (.putfield 77, 3) := by decide +kernel
theorem dX4_setPriority_5 : decode cX4_setPriority 5 = .ok (.aload_n 0, 1) := by decide +kernel
theorem dX4_setPriority_6 : decode cX4_setPriority 6 = .ok (.iload_n 1, 1) := by decide +kernel
theorem dX4_setPriority_7 : decode cX4_setPriority 7 = .ok (.invokevirtual 137, 3) := by decide +kernel
theorem dX4_setPriority_10 : decode cX4_setPriority 10 = .ok (.ifCond .ne 9, 3) := by decide +kernel
theorem dX4_setPriority_13 : decode cX4_setPriority 13 = .ok (.aload_n 0, 1) := by decide +kernel
theorem dX4_setPriority_14 : decode cX4_setPriority 14 = .ok (.iconst 1, 1) := by decide +kernel
theorem dX4_setPriority_15 : decode cX4_setPriority 15 = .ok (.invokevirtual 90, 3) := by decide +kernel
theorem dX4_setPriority_18 : decode cX4_setPriority 18 = .ok (.ireturn, 1) := by decide +kernel
theorem dX4_setPriority_19 : decode cX4_setPriority 19 = .ok (.iload_n 2, 1) := by decide +kernel
theorem dX4_setPriority_20 : decode cX4_setPriority 20 = .ok (.iconst 0, 1) := by decide +kernel
theorem dX4_setPriority_21 : decode cX4_setPriority 21 = .ok (.iconst 3, 1) := by decide +kernel
theorem dX4_setPriority_22 : decode cX4_setPriority 22 = .ok (.invokestatic 83, 3) := by decide +kernel
theorem dX4_setPriority_25 : decode cX4_setPriority 25 = .ok (.ifCond .ne 9, 3) := by decide +kernel
theorem dX4_setPriority_28 : decode cX4_setPriority 28 = .ok (.aload_n 0, 1) := by decide +kernel
theorem dX4_setPriority_29 : decode cX4_setPriority 29 = .ok (.iconst 2, 1) := by decide +kernel
theorem dX4_setPriority_30 : decode cX4_setPriority 30 = .ok (.invokevirtual 90, 3) := by decide +kernel
theorem dX4_setPriority_33 : decode cX4_setPriority 33 = .ok (.ireturn, 1) := by decide +kernel
theorem dX4_setPriority_34 : decode cX4_setPriority 34 = .ok (.aload_n 0, 1) := by decide +kernel
theorem dX4_setPriority_35 : decode cX4_setPriority 35 = .ok (.getfield 56, 3) := by decide +kernel
theorem dX4_setPriority_38 : decode cX4_setPriority 38 = .ok (.iload_n 1, 1) := by decide +kernel
theorem dX4_setPriority_39 : decode cX4_setPriority 39 = .ok (.iaload, 1) := by decide +kernel
theorem dX4_setPriority_40 : decode cX4_setPriority 40 = .ok (.iconst 4, 1) := by decide +kernel
theorem dX4_setPriority_41 : decode cX4_setPriority 41 = .ok (.if_icmp .ne 9, 3) := by decide +kernel
theorem dX4_setPriority_44 : decode cX4_setPriority 44 = .ok (.aload_n 0, 1) := by decide +kernel
theorem dX4_setPriority_45 : decode cX4_setPriority 45 = .ok (.iconst 3, 1) := by decide +kernel
theorem dX4_setPriority_46 : decode cX4_setPriority 46 = .ok (.invokevirtual 90, 3) := by decide +kernel
theorem dX4_setPriority_49 : decode cX4_setPriority 49 = .ok (.ireturn, 1) := by decide +kernel
theorem dX4_setPriority_50 : decode cX4_setPriority 50 = .ok (.aload_n 0, 1) := by decide +kernel
theorem dX4_setPriority_51 : decode cX4_setPriority 51 = .ok (.getfield 47, 3) := by decide +kernel
theorem dX4_setPriority_54 : decode cX4_setPriority 54 = .ok (.iload_n 1, 1) := by decide +kernel
theorem dX4_setPriority_55 : decode cX4_setPriority 55 = .ok (.iaload, 1) := by decide +kernel
theorem dX4_setPriority_56 : decode cX4_setPriority 56 = .ok (.istore_n 3, 1) := by decide +kernel
theorem dX4_setPriority_57 : decode cX4_setPriority 57 = .ok (.aload_n 0, 1) := by decide +kernel
theorem dX4_setPriority_58 : decode cX4_setPriority 58 = .ok (.getfield 47, 3) := by decide +kernel
theorem dX4_setPriority_61 : decode cX4_setPriority 61 = .ok (.iload_n 1, 1) := by decide +kernel
theorem dX4_setPriority_62 : decode cX4_setPriority 62 = .ok (.iload_n 2, 1) := by decide +kernel
theorem dX4_setPriority_63 : decode cX4_setPriority 63 = .ok (.iastore, 1) := by decide +kernel
theorem dX4_setPriority_64 : decode cX4_setPriority 64 = .ok (.iload_n 3, 1) := by decide +kernel
theorem dX4_setPriority_65 : decode cX4_setPriority 65 = .ok (.ireturn, 1) := by decide +kernel
theorem dX4_pause_0 : decode cX4_pause 0 = .ok (.aload_n 0, 1) := by decide +kernel
theorem dX4_pause_1 : decode cX4_pause 1 = .ok (.iconst 0, 1) := by decide +kernel
theorem dX4_pause_2 : decode cX4_pause 2 = .ok (.putfield 77, 3) := by decide +kernel
theorem dX4_pause_5 : decode cX4_pause 5 = .ok (.aload_n 0, 1) := by decide +kernel
theorem dX4_pause_6 : decode cX4_pause 6 = .ok (.iload_n 1, 1) := by decide +kernel
theorem dX4_pause_7 : decode cX4_pause 7 = .ok (.invokevirtual 137, 3) := by decide +kernel
theorem dX4_pause_10 : decode cX4_pause 10 = .ok (.ifCond .ne 9, 3) := by decide +kernel
theorem dX4_pause_13 : decode cX4_pause 13 = .ok (.aload_n 0, 1) := by decide +kernel
theorem dX4_pause_14 : decode cX4_pause 14 = .ok (.iconst 1, 1) := by decide +kernel
theorem dX4_pause_15 : decode cX4_pause 15 = .ok (.invokevirtual 90, 3) := by decide +kernel
theorem dX4_pause_18 : decode cX4_pause 18 = .ok (.ireturn, 1) := by decide +kernel
theorem dX4_pause_19 : decode cX4_pause 19 = .ok (.aload_n 0, 1) := by decide +kernel
theorem dX4_pause_20 : decode cX4_pause 20 = .ok (.getfield 56, 3) := by decide +kernel
theorem dX4_pause_23 : decode cX4_pause 23 = .ok (.iload_n 1, 1) := by decide +kernel
theorem dX4_pause_24 : decode cX4_pause 24 = .ok (.iaload, 1) := by decide +kernel
theorem dX4_pause_25 : decode cX4_pause 25 = .ok (.iconst 1, 1) := by decide +kernel
theorem dX4_pause_26 : decode cX4_pause 26 = .ok (.if_icmp .le 9, 3) := by decide +kernel
theorem dX4_pause_29 : decode cX4_pause 29 = .ok (.aload_n 0, 1) := by decide +kernel
theorem dX4_pause_30 : decode cX4_pause 30 = .ok (.iconst 2, 1) := by decide +kernel
theorem dX4_pause_31 : decode cX4_pause 31 = .ok (.invokevirtual 90, 3) := by decide +kernel
theorem dX4_pause_34 : decode cX4_pause 34 = .ok (.ireturn, 1) := by decide +kernel
theorem dX4_pause_35 : decode cX4_pause 35 = .ok (.aload_n 0, 1) := by decide +kernel
theorem dX4_pause_36 : decode cX4_pause 36 = .ok (.iload_n 1, 1) := by decide +kernel
theorem dX4_pause_37 : decode cX4_pause 37 = .ok (.iconst 2, 1) := by decide +kernel
theorem dX4_pause_38 : decode cX4_pause 38 = .ok (.invokevirtual 118, 3) := by decide +kernel
theorem dX4_pause_41 : decode cX4_pause 41 = .ok (.aload_n 0, 1) := by decide +kernel
theorem dX4_pause_42 : decode cX4_pause 42 = .ok (.getfield 74, 3) := by decide +kernel
theorem dX4_pause_45 : decode cX4_pause 45 = .ok (.iload_n 1, 1) := by decide +kernel
theorem dX4_pause_46 : decode cX4_pause 46 = .ok (.aload_n 0, 1) := by decide +kernel
theorem dX4_pause_47 : decode cX4_pause 47 = .ok (.getfield 94, 3) := by decide +kernel
theorem dX4_pause_50 : decode cX4_pause 50 = .ok (.iastore, 1) := by decide +kernel
theorem dX4_pause_51 : decode cX4_pause 51 = .ok (.aload_n 0, 1) := by decide +kernel
theorem dX4_pause_52 : decode cX4_pause 52 = .ok (.getfield 50, 3) := by decide +kernel
theorem dX4_pause_55 : decode cX4_pause 55 = .ok (.iload_n 1, 1) := by decide +kernel
theorem dX4_pause_56 : decode cX4_pause 56 = .ok (.iaload, 1) := by decide +kernel
theorem dX4_pause_57 : decode cX4_pause 57 = .ok (.aload_n 0, 1) := by decide +kernel
theorem dX4_pause_58 : decode cX4_pause 58 = .ok (.getfield 62, 3) := by decide +kernel
theorem dX4_pause_61 : decode cX4_pause 61 = .ok (.iload_n 1, 1) := by decide +kernel
theorem dX4_pause_62 : decode cX4_pause 62 = .ok (.iaload, 1) := by decide +kernel
theorem dX4_pause_63 : decode cX4_pause 63 = .ok (.isub, 1) := by decide +kernel
theorem dX4_pause_64 : decode cX4_pause 64 = .ok (.ireturn, 1) := by decide +kernel
theorem dX4_resume_0 : decode cX4_resume 0 = .ok (.aload_n 0, 1) := by decide +kernel
theorem dX4_resume_1 : decode cX4_resume 1 = .ok (.iconst 0, 1) := by decide +kernel
theorem dX4_resume_2 : decode cX4_resume 2 = .ok (.putfield 77, 3) := by decide +kernel
theorem dX4_resume_5 : decode cX4_resume 5 = .ok (.aload_n 0, 1) := by decide +kernel
theorem dX4_resume_6 : decode cX4_resume 6 = .ok (.iload_n 1, 1) := by decide +kernel
theorem dX4_resume_7 : decode cX4_resume 7 = .ok (.invokevirtual 137, 3) := by decide +kernel
theorem dX4_resume_10 : decode cX4_resume 10 = .ok (.ifCond .ne 9, 3) := by decide +kernel
theorem dX4_resume_13 : decode cX4_resume 13 = .ok (.aload_n 0, 1) := by decide +kernel
theorem dX4_resume_14 : decode cX4_resume 14 = .ok (.iconst 1, 1) := by decide +kernel
theorem dX4_resume_15 : decode cX4_resume 15 = .ok (.invokevirtual 90, 3) := by decide +kernel
theorem dX4_resume_18 : decode cX4_resume 18 = .ok (.ireturn, 1) := by decide +kernel
theorem dX4_resume_19 : decode cX4_resume 19 = .ok (.aload_n 0, 1) := by decide +kernel
theorem dX4_resume_20 : decode cX4_resume 20 = .ok (.getfield 56, 3) := by decide +kernel
theorem dX4_resume_23 : decode cX4_resume 23 = .ok (.iload_n 1, 1) := by decide +kernel
theorem dX4_resume_24 : decode cX4_resume 24 = .ok (.iaload, 1) := by decide +kernel
theorem dX4_resume_25 : decode cX4_resume 25 = .ok (.iconst 2, 1) := by decide +kernel
theorem dX4_resume_26 : decode cX4_resume 26 = .ok (.if_icmp .eq 9, 3) := by decide +kernel
theorem dX4_resume_29 : decode cX4_resume 29 = .ok (.aload_n 0, 1) := by decide +kernel
theorem dX4_resume_30 : decode cX4_resume 30 = .ok (.iconst 2, 1) := by decide +kernel
theorem dX4_resume_31 : decode cX4_resume 31 = .ok (.invokevirtual 90, 3) := by decide +kernel
theorem dX4_resume_34 : decode cX4_resume 34 = .ok (.ireturn, 1) := by decide +kernel
theorem dX4_resume_35 : decode cX4_resume 35 = .ok (.aload_n 0, 1) := by decide +kernel
theorem dX4_resume_36 : decode cX4_resume 36 = .ok (.getfield 56, 3) := by decide +kernel
theorem dX4_resume_39 : decode cX4_resume 39 = .ok (.iload_n 1, 1) := by decide +kernel
theorem dX4_resume_40 : decode cX4_resume 40 = .ok (.iconst 0, 1) := by decide +kernel
theorem dX4_resume_41 : decode cX4_resume 41 = .ok (.iastore, 1) := by decide +kernel
theorem dX4_resume_42 : decode cX4_resume 42 = .ok (.aload_n 0, 1) := by decide +kernel
theorem dX4_resume_43 : decode cX4_resume 43 = .ok (.getfield 94, 3) := by decide +kernel
theorem dX4_resume_46 : decode cX4_resume 46 = .ok (.aload_n 0, 1) := by decide +kernel
theorem dX4_resume_47 : decode cX4_resume 47 = .ok (.getfield 74, 3) := by decide +kernel
theorem dX4_resume_50 : decode cX4_resume 50 = .ok (.iload_n 1, 1) := by decide +kernel
theorem dX4_resume_51 : decode cX4_resume 51 = .ok (.iaload, 1) := by decide +kernel
theorem dX4_resume_52 : decode cX4_resume 52 = .ok (.isub, 1) := by decide +kernel
theorem dX4_resume_53 : decode cX4_resume 53 = .ok (.ireturn, 1) := by decide +kernel
theorem dX4_merge_0 : decode cX4_merge 0 = .ok (.aload_n 0, 1) := by decide +kernel
theorem dX4_merge_1 : decode cX4_merge 1 = .ok (.iconst 0, 1) := by decide +kernel
theorem dX4_merge_2 : decode cX4_merge 2 = .ok (.putfield 77, 3) := by decide +kernel
theorem dX4_merge_5 : decode cX4_merge 5 = .ok (.aload_n 0, 1) := by decide +kernel
theorem dX4_merge_6 : decode cX4_merge 6 = .ok (.iload_n 1, 1) := by decide +kernel
theorem dX4_merge_7 : decode cX4_merge 7 = .ok (.invokevirtual 137, 3) := by decide +kernel
theorem dX4_merge_10 : decode cX4_merge 10 = .ok (.ifCond .eq 11, 3) := by decide +kernel
theorem dX4_merge_13 : decode cX4_merge 13 = .ok (.aload_n 0, 1) := by decide +kernel
theorem dX4_merge_14 : decode cX4_merge 14 = .ok (.iload_n 2, 1) := by decide +kernel
theorem dX4_merge_15 : decode cX4_merge 15 = .ok (.invokevirtual 137, 3) := by decide +kernel
theorem dX4_merge_18 : decode cX4_merge 18 = .ok (.ifCond .ne 9, 3) := by decide +kernel
theorem dX4_merge_21 : decode cX4_merge 21 = .ok (.aload_n 0, 1) := by decide +kernel
theorem dX4_merge_22 : decode cX4_merge 22 = .ok (.iconst 1, 1) := by decide +kernel
theorem dX4_merge_23 : decode cX4_merge 23 = .ok (.invokevirtual 90, 3) := by decide +kernel
theorem dX4_merge_26 : decode cX4_merge 26 = .ok (.ireturn, 1) := by decide +kernel
theorem dX4_merge_27 : decode cX4_merge 27 = .ok (.iload_n 1, 1) := by decide +kernel
theorem dX4_merge_28 : decode cX4_merge 28 = .ok (.iload_n 2, 1) := by decide +kernel
theorem dX4_merge_29 : decode cX4_merge 29 = .ok (.if_icmp .ne 9, 3) := by decide +kernel
theorem dX4_merge_32 : decode cX4_merge 32 = .ok (.aload_n 0, 1) := by decide +kernel
theorem dX4_merge_33 : decode cX4_merge 33 = .ok (.iconst 2, 1) := by decide +kernel
theorem dX4_merge_34 : decode cX4_merge 34 = .ok (.invokevirtual 90, 3) := by decide +kernel
theorem dX4_merge_37 : decode cX4_merge 37 = .ok (.ireturn, 1) := by decide +kernel
theorem dX4_merge_38 : decode cX4_merge 38 = .ok (.aload_n 0, 1) := by decide +kernel
theorem dX4_merge_39 : decode cX4_merge 39 = .ok (.iload_n 1, 1) := by decide +kernel
theorem dX4_merge_40 : decode cX4_merge 40 = .ok (.invokevirtual 140, 3) := by decide +kernel
theorem dX4_merge_43 : decode cX4_merge 43 = .ok (.ifCond .eq 11, 3) := by decide +kernel
theorem dX4_merge_46 : decode cX4_merge 46 = .ok (.aload_n 0, 1) := by decide +kernel
theorem dX4_merge_47 : decode cX4_merge 47 = .ok (.iload_n 2, 1) := by decide +kernel
theorem dX4_merge_48 : decode cX4_merge 48 = .ok (.invokevirtual 140, 3) := by decide +kernel
theorem dX4_merge_51 : decode cX4_merge 51 = .ok (.ifCond .ne 9, 3) := by decide +kernel
theorem dX4_merge_54 : decode cX4_merge 54 = .ok (.aload_n 0, 1) := by decide +kernel
theorem dX4_merge_55 : decode cX4_merge 55 = .ok (.iconst 3, 1) := by decide +kernel
theorem dX4_merge_56 : decode cX4_merge 56 = .ok (.invokevirtual 90, 3) := by decide +kernel
theorem dX4_merge_59 : decode cX4_merge 59 = .ok (.ireturn, 1) := by decide +kernel
theorem dX4_merge_60 : decode cX4_merge 60 = .ok (.aload_n 0, 1) := by decide +kernel
theorem dX4_merge_61 : decode cX4_merge 61 = .ok (.iload_n 1, 1) := by decide +kernel
theorem dX4_merge_62 : decode cX4_merge 62 = .ok (.iconst 4, 1) := by decide +kernel
theorem dX4_merge_63 : decode cX4_merge 63 = .ok (.invokevirtual 118, 3) := by decide +kernel
theorem dX4_merge_66 : decode cX4_merge 66 = .ok (.aload_n 0, 1) := by decide +kernel
theorem dX4_merge_67 : decode cX4_merge 67 = .ok (.getfield 74, 3) := by decide +kernel
theorem dX4_merge_70 : decode cX4_merge 70 = .ok (.iload_n 1, 1) := by decide +kernel
theorem dX4_merge_71 : decode cX4_merge 71 = .ok (.iload_n 2, 1) := by decide +kernel
theorem dX4_merge_72 : decode cX4_merge 72 = .ok (.iastore, 1) := by decide +kernel
theorem dX4_merge_73 : decode cX4_merge 73 = .ok (.aload_n 0, 1) := by decide +kernel
theorem dX4_merge_74 : decode cX4_merge 74 = .ok (.getfield 47, 3) := by decide +kernel
theorem dX4_merge_77 : decode cX4_merge 77 = .ok (.iload_n 2, 1) := by decide +kernel
theorem dX4_merge_78 : decode cX4_merge 78 = .ok (.aload_n 0, 1) := by decide +kernel
theorem dX4_merge_79 : decode cX4_merge 79 = .ok (.getfield 47, 3) := by decide +kernel
theorem dX4_merge_82 : decode cX4_merge 82 = .ok (.iload_n 2, 1) := by decide +kernel
theorem dX4_merge_83 : decode cX4_merge 83 = .ok (.iaload, 1) := by decide +kernel
theorem dX4_merge_84 : decode cX4_merge 84 = .ok (.aload_n 0, 1) := by decide +kernel
theorem dX4_merge_85 : decode cX4_merge 85 = .ok (.getfield 47, 3) := by decide +kernel
theorem dX4_merge_88 : decode cX4_merge 88 = .ok (.iload_n 1, 1) := by decide +kernel
theorem dX4_merge_89 : decode cX4_merge 89 = .ok (.iaload, 1) := by decide +kernel
theorem dX4_merge_90 : decode cX4_merge 90 = .ok (.invokestatic 97, 3) := by decide +kernel
theorem dX4_merge_93 : decode cX4_merge 93 = .ok (.iastore, 1) := by decide +kernel
theorem dX4_merge_94 : decode cX4_merge 94 = .ok (.aload_n 0, 1) := by decide +kernel
theorem dX4_merge_95 : decode cX4_merge 95 = .ok (.getfield 59, 3) := by decide +kernel
theorem dX4_merge_98 : decode cX4_merge 98 = .ok (.iload_n 2, 1) := by decide +kernel
theorem dX4_merge_99 : decode cX4_merge 99 = .ok (.aload_n 0, 1) := by decide +kernel
theorem dX4_merge_100 : decode cX4_merge 100 = .ok (.getfield 59, 3) := by decide +kernel
theorem dX4_merge_103 : decode cX4_merge 103 = .ok (.iload_n 2, 1) := by decide +kernel
theorem dX4_merge_104 : decode cX4_merge 104 = .ok (.iaload, 1) := by decide +kernel
theorem dX4_merge_105 : decode cX4_merge 105 = .ok (.aload_n 0, 1) := by decide +kernel
theorem dX4_merge_106 : decode cX4_merge 106 = .ok (.getfield 59, 3) := by decide +kernel
theorem dX4_merge_109 : decode cX4_merge 109 = .ok (.iload_n 1, 1) := by decide +kernel
theorem dX4_merge_110 : decode cX4_merge 110 = .ok (.iaload, 1) := by decide +kernel
theorem dX4_merge_111 : decode cX4_merge 111 = .ok (.invokestatic 103, 3) := by decide +kernel
theorem dX4_merge_114 : decode cX4_merge 114 = .ok (.iastore, 1) := by decide +kernel
theorem dX4_merge_115 : decode cX4_merge 115 = .ok (.aload_n 0, 1) := by decide +kernel
theorem dX4_merge_116 : decode cX4_merge 116 = .ok (.iload_n 2, 1) := by decide +kernel
theorem dX4_merge_117 : decode cX4_merge 117 = .ok (.invokevirtual 143, 3) := by decide +kernel
theorem dX4_merge_120 : decode cX4_merge 120 = .ok (.ireturn, 1) := by decide +kernel
theorem dX4_reopen_0 : decode cX4_reopen 0 = .ok (.aload_n 0, 1) := by decide +kernel
theorem dX4_reopen_1 : decode cX4_reopen 1 = .ok (.iconst 0, 1) := by decide +kernel
theorem dX4_reopen_2 : decode cX4_reopen 2 = .ok (.putfield 77, 3) := by decide +kernel
theorem dX4_reopen_5 : decode cX4_reopen 5 = .ok (.aload_n 0, 1) := by decide +kernel
theorem dX4_reopen_6 : decode cX4_reopen 6 = .ok (.iload_n 1, 1) := by decide +kernel
theorem dX4_reopen_7 : decode cX4_reopen 7 = .ok (.invokevirtual 137, 3) := by decide +kernel
theorem dX4_reopen_10 : decode cX4_reopen 10 = .ok (.ifCond .ne 9, 3) := by decide +kernel
theorem dX4_reopen_13 : decode cX4_reopen 13 = .ok (.aload_n 0, 1) := by decide +kernel
theorem dX4_reopen_14 : decode cX4_reopen 14 = .ok (.iconst 1, 1) := by decide +kernel
theorem dX4_reopen_15 : decode cX4_reopen 15 = .ok (.invokevirtual 90, 3) := by decide +kernel
theorem dX4_reopen_18 : decode cX4_reopen 18 = .ok (.ireturn, 1) := by decide +kernel
theorem dX4_reopen_19 : decode cX4_reopen 19 = .ok (.iload_n 2, 1) := by decide +kernel
theorem dX4_reopen_20 : decode cX4_reopen 20 = .ok (.iconst 1, 1) := by decide +kernel
theorem dX4_reopen_21 : decode cX4_reopen 21 = .ok (.sipush 300, 3) := by decide +kernel
theorem dX4_reopen_24 : decode cX4_reopen 24 = .ok (.invokestatic 83, 3) := by decide +kernel
theorem dX4_reopen_27 : decode cX4_reopen 27 = .ok (.ifCond .ne 9, 3) := by decide +kernel
theorem dX4_reopen_30 : decode cX4_reopen 30 = .ok (.aload_n 0, 1) := by decide +kernel
theorem dX4_reopen_31 : decode cX4_reopen 31 = .ok (.iconst 2, 1) := by decide +kernel
theorem dX4_reopen_32 : decode cX4_reopen 32 = .ok (.invokevirtual 90, 3) := by decide +kernel
theorem dX4_reopen_35 : decode cX4_reopen 35 = .ok (.ireturn, 1) := by decide +kernel
theorem dX4_reopen_36 : decode cX4_reopen 36 = .ok (.aload_n 0, 1) := by decide +kernel
theorem dX4_reopen_37 : decode cX4_reopen 37 = .ok (.getfield 56, 3) := by decide +kernel
theorem dX4_reopen_40 : decode cX4_reopen 40 = .ok (.iload_n 1, 1) := by decide +kernel
theorem dX4_reopen_41 : decode cX4_reopen 41 = .ok (.iaload, 1) := by decide +kernel
theorem dX4_reopen_42 : decode cX4_reopen 42 = .ok (.iconst 3, 1) := by decide +kernel
theorem dX4_reopen_43 : decode cX4_reopen 43 = .ok (.if_icmp .ne 20, 3) := by decide +kernel
theorem dX4_reopen_46 : decode cX4_reopen 46 = .ok (.aload_n 0, 1) := by decide +kernel
theorem dX4_reopen_47 : decode cX4_reopen 47 = .ok (.getfield 94, 3) := by decide +kernel
theorem dX4_reopen_50 : decode cX4_reopen 50 = .ok (.aload_n 0, 1) := by decide +kernel
theorem dX4_reopen_51 : decode cX4_reopen 51 = .ok (.getfield 74, 3) := by decide +kernel
theorem dX4_reopen_54 : decode cX4_reopen 54 = .ok (.iload_n 1, 1) := by decide +kernel
theorem dX4_reopen_55 : decode cX4_reopen 55 = .ok (.iaload, 1) := by decide +kernel
theorem dX4_reopen_56 : decode cX4_reopen 56 = .ok (.isub, 1) := by decide +kernel
theorem dX4_reopen_57 : decode cX4_reopen 57 = .ok (.sipush 7200, 3) := by decide +kernel
theorem dX4_reopen_60 : decode cX4_reopen 60 = .ok (.if_icmp .lt 9, 3) := by decide +kernel
theorem dX4_reopen_63 : decode cX4_reopen 63 = .ok (.aload_n 0, 1) := by decide +kernel
theorem dX4_reopen_64 : decode cX4_reopen 64 = .ok (.iconst 3, 1) := by decide +kernel
theorem dX4_reopen_65 : decode cX4_reopen 65 = .ok (.invokevirtual 90, 3) := by decide +kernel
theorem dX4_reopen_68 : decode cX4_reopen 68 = .ok (.ireturn, 1) := by decide +kernel
theorem dX4_reopen_69 : decode cX4_reopen 69 = .ok (.aload_n 0, 1) := by decide +kernel
theorem dX4_reopen_70 : decode cX4_reopen 70 = .ok (.getfield 56, 3) := by decide +kernel
theorem dX4_reopen_73 : decode cX4_reopen 73 = .ok (.iload_n 1, 1) := by decide +kernel
theorem dX4_reopen_74 : decode cX4_reopen 74 = .ok (.iconst 0, 1) := by decide +kernel
theorem dX4_reopen_75 : decode cX4_reopen 75 = .ok (.iastore, 1) := by decide +kernel
theorem dX4_reopen_76 : decode cX4_reopen 76 = .ok (.aload_n 0, 1) := by decide +kernel
theorem dX4_reopen_77 : decode cX4_reopen 77 = .ok (.getfield 50, 3) := by decide +kernel
theorem dX4_reopen_80 : decode cX4_reopen 80 = .ok (.iload_n 1, 1) := by decide +kernel
theorem dX4_reopen_81 : decode cX4_reopen 81 = .ok (.dup2, 1) := by decide +kernel
theorem dX4_reopen_82 : decode cX4_reopen 82 = .ok (.iaload, 1) := by decide +kernel
theorem dX4_reopen_83 : decode cX4_reopen 83 = .ok (.iload_n 2, 1) := by decide +kernel
theorem dX4_reopen_84 : decode cX4_reopen 84 = .ok (.iadd, 1) := by decide +kernel
theorem dX4_reopen_85 : decode cX4_reopen 85 = .ok (.iastore, 1) := by decide +kernel
theorem dX4_reopen_86 : decode cX4_reopen 86 = .ok (.aload_n 0, 1) := by decide +kernel
theorem dX4_reopen_87 : decode cX4_reopen 87 = .ok (.getfield 71, 3) := by decide +kernel
theorem dX4_reopen_90 : decode cX4_reopen 90 = .ok (.iload_n 1, 1) := by decide +kernel
theorem dX4_reopen_91 : decode cX4_reopen 91 = .ok (.dup2, 1) := by decide +kernel
theorem dX4_reopen_92 : decode cX4_reopen 92 = .ok (.iaload, 1) := by decide +kernel
theorem dX4_reopen_93 : decode cX4_reopen 93 = .ok (.iconst 1, 1) := by decide +kernel
theorem dX4_reopen_94 : decode cX4_reopen 94 = .ok (.iadd, 1) := by decide +kernel
theorem dX4_reopen_95 : decode cX4_reopen 95 = .ok (.iastore, 1) := by decide +kernel
theorem dX4_reopen_96 : decode cX4_reopen 96 = .ok (.aload_n 0, 1) := by decide +kernel
theorem dX4_reopen_97 : decode cX4_reopen 97 = .ok (.getfield 50, 3) := by decide +kernel
theorem dX4_reopen_100 : decode cX4_reopen 100 = .ok (.iload_n 1, 1) := by decide +kernel
theorem dX4_reopen_101 : decode cX4_reopen 101 = .ok (.iaload, 1) := by decide +kernel
theorem dX4_reopen_102 : decode cX4_reopen 102 = .ok (.ireturn, 1) := by decide +kernel
theorem dX4_ticketCount_0 : decode cX4_ticketCount 0 = .ok (.aload_n 0, 1) := by decide +kernel
theorem dX4_ticketCount_1 : decode cX4_ticketCount 1 = .ok (.iconst 0, 1) := by decide +kernel
theorem dX4_ticketCount_2 : decode cX4_ticketCount 2 = .ok (.putfield 77, 3) := by decide +kernel
theorem dX4_ticketCount_5 : decode cX4_ticketCount 5 = .ok (.aload_n 0, 1) := by decide +kernel
theorem dX4_ticketCount_6 : decode cX4_ticketCount 6 = .ok (.getfield 87, 3) := by decide +kernel
theorem dX4_ticketCount_9 : decode cX4_ticketCount 9 = .ok (.ireturn, 1) := by decide +kernel
theorem dX4_agentOf_0 : decode cX4_agentOf 0 = .ok (.iconst 0, 1) := by decide +kernel
theorem dX4_agentOf_1 : decode cX4_agentOf 1 = .ok (.istore_n 2, 1) := by decide +kernel
theorem dX4_agentOf_2 : decode cX4_agentOf 2 = .ok (.iload_n 2, 1) := by decide +kernel
theorem dX4_agentOf_3 : decode cX4_agentOf 3 = .ok (.aload_n 0, 1) := by decide +kernel
theorem dX4_agentOf_4 : decode cX4_agentOf 4 = .ok (.getfield 80, 3) := by decide +kernel
theorem dX4_agentOf_7 : decode cX4_agentOf 7 = .ok (.if_icmp .ge 21, 3) := by decide +kernel
theorem dX4_agentOf_10 : decode cX4_agentOf 10 = .ok (.aload_n 0, 1) := by decide +kernel
theorem dX4_agentOf_11 : decode cX4_agentOf 11 = .ok (.getfield 35, 3) := by decide +kernel
theorem dX4_agentOf_14 : decode cX4_agentOf 14 = .ok (.iload_n 2, 1) := by decide +kernel
theorem dX4_agentOf_15 : decode cX4_agentOf 15 = .ok (.iaload, 1) := by decide +kernel
theorem dX4_agentOf_16 : decode cX4_agentOf 16 = .ok (.iload_n 1, 1) := by decide +kernel
theorem dX4_agentOf_17 : decode cX4_agentOf 17 = .ok (.if_icmp .ne 5, 3) := by decide +kernel
theorem dX4_agentOf_20 : decode cX4_agentOf 20 = .ok (.iload_n 2, 1) := by decide +kernel
theorem dX4_agentOf_21 : decode cX4_agentOf 21 = .ok (.ireturn, 1) := by decide +kernel
theorem dX4_agentOf_22 : decode cX4_agentOf 22 = .ok (.iinc 2 1, 3) := by decide +kernel
theorem dX4_agentOf_25 : decode cX4_agentOf 25 = .ok (.goto (-23), 3) := by decide +kernel
theorem dX4_agentOf_28 : decode cX4_agentOf 28 = .ok (.iconst (-1), 1) := by decide +kernel
theorem dX4_agentOf_29 : decode cX4_agentOf 29 = .ok (.ireturn, 1) := by decide +kernel
theorem dX4_toldTicket_0 : decode cX4_toldTicket 0 = .ok (.iload_n 2, 1) := by decide +kernel
theorem dX4_toldTicket_1 : decode cX4_toldTicket 1 = .ok (.tableswitch 91 0 6 #[43, 50, 56, 63, 70, 77, 84], 43) := by decide +kernel
theorem dX4_toldTicket_44 : decode cX4_toldTicket 44 = .ok (.aload_n 0, 1) := by decide +kernel
theorem dX4_toldTicket_45 : decode cX4_toldTicket 45 = .ok (.getfield 56, 3) := by decide +kernel
theorem dX4_toldTicket_48 : decode cX4_toldTicket 48 = .ok (.iload_n 1, 1) := by decide +kernel
theorem dX4_toldTicket_49 : decode cX4_toldTicket 49 = .ok (.iaload, 1) := by decide +kernel
theorem dX4_toldTicket_50 : decode cX4_toldTicket 50 = .ok (.ireturn, 1) := by decide +kernel
theorem dX4_toldTicket_51 : decode cX4_toldTicket 51 = .ok (.aload_n 0, 1) := by decide +kernel
theorem dX4_toldTicket_52 : decode cX4_toldTicket 52 = .ok (.iload_n 1, 1) := by decide +kernel
theorem dX4_toldTicket_53 : decode cX4_toldTicket 53 = .ok (.invokevirtual 146, 3) := by decide +kernel
theorem dX4_toldTicket_56 : decode cX4_toldTicket 56 = .ok (.ireturn, 1) := by decide +kernel
theorem dX4_toldTicket_57 : decode cX4_toldTicket 57 = .ok (.aload_n 0, 1) := by decide +kernel
theorem dX4_toldTicket_58 : decode cX4_toldTicket 58 = .ok (.getfield 47, 3) := by decide +kernel
theorem dX4_toldTicket_61 : decode cX4_toldTicket 61 = .ok (.iload_n 1, 1) := by decide +kernel
theorem dX4_toldTicket_62 : decode cX4_toldTicket 62 = .ok (.iaload, 1) := by decide +kernel
theorem dX4_toldTicket_63 : decode cX4_toldTicket 63 = .ok (.ireturn, 1) := by decide +kernel
theorem dX4_toldTicket_64 : decode cX4_toldTicket 64 = .ok (.aload_n 0, 1) := by decide +kernel
theorem dX4_toldTicket_65 : decode cX4_toldTicket 65 = .ok (.getfield 59, 3) := by decide +kernel
theorem dX4_toldTicket_68 : decode cX4_toldTicket 68 = .ok (.iload_n 1, 1) := by decide +kernel
theorem dX4_toldTicket_69 : decode cX4_toldTicket 69 = .ok (.iaload, 1) := by decide +kernel
theorem dX4_toldTicket_70 : decode cX4_toldTicket 70 = .ok (.ireturn, 1) := by decide +kernel
theorem dX4_toldTicket_71 : decode cX4_toldTicket 71 = .ok (.aload_n 0, 1) := by decide +kernel
theorem dX4_toldTicket_72 : decode cX4_toldTicket 72 = .ok (.getfield 62, 3) := by decide +kernel
theorem dX4_toldTicket_75 : decode cX4_toldTicket 75 = .ok (.iload_n 1, 1) := by decide +kernel
theorem dX4_toldTicket_76 : decode cX4_toldTicket 76 = .ok (.iaload, 1) := by decide +kernel
theorem dX4_toldTicket_77 : decode cX4_toldTicket 77 = .ok (.ireturn, 1) := by decide +kernel
theorem dX4_toldTicket_78 : decode cX4_toldTicket 78 = .ok (.aload_n 0, 1) := by decide +kernel
theorem dX4_toldTicket_79 : decode cX4_toldTicket 79 = .ok (.getfield 50, 3) := by decide +kernel
theorem dX4_toldTicket_82 : decode cX4_toldTicket 82 = .ok (.iload_n 1, 1) := by decide +kernel
theorem dX4_toldTicket_83 : decode cX4_toldTicket 83 = .ok (.iaload, 1) := by decide +kernel
theorem dX4_toldTicket_84 : decode cX4_toldTicket 84 = .ok (.ireturn, 1) := by decide +kernel
theorem dX4_toldTicket_85 : decode cX4_toldTicket 85 = .ok (.aload_n 0, 1) := by decide +kernel
theorem dX4_toldTicket_86 : decode cX4_toldTicket 86 = .ok (.getfield 68, 3) := by decide +kernel
theorem dX4_toldTicket_89 : decode cX4_toldTicket 89 = .ok (.iload_n 1, 1) := by decide +kernel
theorem dX4_toldTicket_90 : decode cX4_toldTicket 90 = .ok (.iaload, 1) := by decide +kernel
theorem dX4_toldTicket_91 : decode cX4_toldTicket 91 = .ok (.ireturn, 1) := by decide +kernel
theorem dX4_toldTicket_92 : decode cX4_toldTicket 92 = .ok (.aload_n 0, 1) := by decide +kernel
theorem dX4_toldTicket_93 : decode cX4_toldTicket 93 = .ok (.getfield 71, 3) := by decide +kernel
theorem dX4_toldTicket_96 : decode cX4_toldTicket 96 = .ok (.iload_n 1, 1) := by decide +kernel
theorem dX4_toldTicket_97 : decode cX4_toldTicket 97 = .ok (.iaload, 1) := by decide +kernel
theorem dX4_toldTicket_98 : decode cX4_toldTicket 98 = .ok (.ireturn, 1) := by decide +kernel
theorem dX4_ticket_0 : decode cX4_ticket 0 = .ok (.aload_n 0, 1) := by decide +kernel
theorem dX4_ticket_1 : decode cX4_ticket 1 = .ok (.iconst 0, 1) := by decide +kernel
theorem dX4_ticket_2 : decode cX4_ticket 2 = .ok (.putfield 77, 3) := by decide +kernel
theorem dX4_ticket_5 : decode cX4_ticket 5 = .ok (.aload_n 0, 1) := by decide +kernel
theorem dX4_ticket_6 : decode cX4_ticket 6 = .ok (.iload_n 1, 1) := by decide +kernel
theorem dX4_ticket_7 : decode cX4_ticket 7 = .ok (.invokevirtual 137, 3) := by decide +kernel
theorem dX4_ticket_10 : decode cX4_ticket 10 = .ok (.ifCond .eq 22, 3) := by decide +kernel
theorem dX4_ticket_13 : decode cX4_ticket 13 = .ok (.iload_n 2, 1) := by decide +kernel
theorem dX4_ticket_14 : decode cX4_ticket 14 = .ok (.iconst 0, 1) := by decide +kernel
theorem dX4_ticket_15 : decode cX4_ticket 15 = .ok (.bipush 7, 2) := by decide +kernel
theorem dX4_ticket_17 : decode cX4_ticket 17 = .ok (.invokestatic 83, 3) := by decide +kernel
theorem dX4_ticket_20 : decode cX4_ticket 20 = .ok (.ifCond .eq 12, 3) := by decide +kernel
theorem dX4_ticket_23 : decode cX4_ticket 23 = .ok (.aload_n 0, 1) := by decide +kernel
theorem dX4_ticket_24 : decode cX4_ticket 24 = .ok (.iload_n 1, 1) := by decide +kernel
theorem dX4_ticket_25 : decode cX4_ticket 25 = .ok (.iload_n 2, 1) := by decide +kernel
theorem dX4_ticket_26 : decode cX4_ticket 26 = .ok (.invokevirtual 149, 3) := by decide +kernel
theorem dX4_ticket_29 : decode cX4_ticket 29 = .ok (.goto 8, 3) := by decide +kernel
theorem dX4_ticket_32 : decode cX4_ticket 32 = .ok (.aload_n 0, 1) := by decide +kernel
theorem dX4_ticket_33 : decode cX4_ticket 33 = .ok (.iconst 1, 1) := by decide +kernel
theorem dX4_ticket_34 : decode cX4_ticket 34 = .ok (.invokevirtual 90, 3) := by decide +kernel
theorem dX4_ticket_37 : decode cX4_ticket 37 = .ok (.ireturn, 1) := by decide +kernel
theorem dX4_mainOf_0 : decode cX4_mainOf 0 = .ok (.iload_n 1, 1) := by decide +kernel
theorem dX4_mainOf_1 : decode cX4_mainOf 1 = .ok (.istore_n 2, 1) := by decide +kernel
theorem dX4_mainOf_2 : decode cX4_mainOf 2 = .ok (.aload_n 0, 1) := by decide +kernel
theorem dX4_mainOf_3 : decode cX4_mainOf 3 = .ok (.getfield 56, 3) := by decide +kernel
theorem dX4_mainOf_6 : decode cX4_mainOf 6 = .ok (.iload_n 2, 1) := by decide +kernel
theorem dX4_mainOf_7 : decode cX4_mainOf 7 = .ok (.iaload, 1) := by decide +kernel
theorem dX4_mainOf_8 : decode cX4_mainOf 8 = .ok (.iconst 4, 1) := by decide +kernel
theorem dX4_mainOf_9 : decode cX4_mainOf 9 = .ok (.if_icmp .ne 13, 3) := by decide +kernel
theorem dX4_mainOf_12 : decode cX4_mainOf 12 = .ok (.aload_n 0, 1) := by decide +kernel
theorem dX4_mainOf_13 : decode cX4_mainOf 13 = .ok (.getfield 74, 3) := by decide +kernel
theorem dX4_mainOf_16 : decode cX4_mainOf 16 = .ok (.iload_n 2, 1) := by decide +kernel
theorem dX4_mainOf_17 : decode cX4_mainOf 17 = .ok (.iaload, 1) := by decide +kernel
theorem dX4_mainOf_18 : decode cX4_mainOf 18 = .ok (.istore_n 2, 1) := by decide +kernel
theorem dX4_mainOf_19 : decode cX4_mainOf 19 = .ok (.goto (-17), 3) := by decide +kernel
theorem dX4_mainOf_22 : decode cX4_mainOf 22 = .ok (.iload_n 2, 1) := by decide +kernel
theorem dX4_mainOf_23 : decode cX4_mainOf 23 = .ok (.ireturn, 1) := by decide +kernel
theorem dX4_isWithin_0 : decode cX4_isWithin 0 = .ok (.iload_n 1, 1) := by decide +kernel
theorem dX4_isWithin_1 : decode cX4_isWithin 1 = .ok (.istore_n 3, 1) := by decide +kernel
theorem dX4_isWithin_2 : decode cX4_isWithin 2 = .ok (.iload_n 3, 1) := by decide +kernel
theorem dX4_isWithin_3 : decode cX4_isWithin 3 = .ok (.iload_n 2, 1) := by decide +kernel
theorem dX4_isWithin_4 : decode cX4_isWithin 4 = .ok (.if_icmp .eq 23, 3) := by decide +kernel
theorem dX4_isWithin_7 : decode cX4_isWithin 7 = .ok (.aload_n 0, 1) := by decide +kernel
theorem dX4_isWithin_8 : decode cX4_isWithin 8 = .ok (.getfield 56, 3) := by decide +kernel
theorem dX4_isWithin_11 : decode cX4_isWithin 11 = .ok (.iload_n 3, 1) := by decide +kernel
theorem dX4_isWithin_12 : decode cX4_isWithin 12 = .ok (.iaload, 1) := by decide +kernel
theorem dX4_isWithin_13 : decode cX4_isWithin 13 = .ok (.iconst 4, 1) := by decide +kernel
theorem dX4_isWithin_14 : decode cX4_isWithin 14 = .ok (.if_icmp .ne 13, 3) := by decide +kernel
theorem dX4_isWithin_17 : decode cX4_isWithin 17 = .ok (.aload_n 0, 1) := by decide +kernel
theorem dX4_isWithin_18 : decode cX4_isWithin 18 = .ok (.getfield 74, 3) := by decide +kernel
theorem dX4_isWithin_21 : decode cX4_isWithin 21 = .ok (.iload_n 3, 1) := by decide +kernel
theorem dX4_isWithin_22 : decode cX4_isWithin 22 = .ok (.iaload, 1) := by decide +kernel
theorem dX4_isWithin_23 : decode cX4_isWithin 23 = .ok (.istore_n 3, 1) := by decide +kernel
theorem dX4_isWithin_24 : decode cX4_isWithin 24 = .ok (.goto (-22), 3) := by decide +kernel
theorem dX4_isWithin_27 : decode cX4_isWithin 27 = .ok (.iload_n 3, 1) := by decide +kernel
theorem dX4_isWithin_28 : decode cX4_isWithin 28 = .ok (.iload_n 2, 1) := by decide +kernel
theorem dX4_isWithin_29 : decode cX4_isWithin 29 = .ok (.if_icmp .ne 7, 3) := by decide +kernel
theorem dX4_isWithin_32 : decode cX4_isWithin 32 = .ok (.iconst 1, 1) := by decide +kernel
theorem dX4_isWithin_33 : decode cX4_isWithin 33 = .ok (.goto 4, 3) := by decide +kernel
theorem dX4_isWithin_36 : decode cX4_isWithin 36 = .ok (.iconst 0, 1) := by decide +kernel
theorem dX4_isWithin_37 : decode cX4_isWithin 37 = .ok (.ireturn, 1) := by decide +kernel
theorem dX4_customersOf_0 : decode cX4_customersOf 0 = .ok (.iconst 0, 1) := by decide +kernel
theorem dX4_customersOf_1 : decode cX4_customersOf 1 = .ok (.istore_n 2, 1) := by decide +kernel
theorem dX4_customersOf_2 : decode cX4_customersOf 2 = .ok (.iconst 0, 1) := by decide +kernel
theorem dX4_customersOf_3 : decode cX4_customersOf 3 = .ok (.istore_n 3, 1) := by decide +kernel
theorem dX4_customersOf_4 : decode cX4_customersOf 4 = .ok (.iload_n 3, 1) := by decide +kernel
theorem dX4_customersOf_5 : decode cX4_customersOf 5 = .ok (.aload_n 0, 1) := by decide +kernel
theorem dX4_customersOf_6 : decode cX4_customersOf 6 = .ok (.getfield 87, 3) := by decide +kernel
theorem dX4_customersOf_9 : decode cX4_customersOf 9 = .ok (.if_icmp .ge 29, 3) := by decide +kernel
theorem dX4_customersOf_12 : decode cX4_customersOf 12 = .ok (.aload_n 0, 1) := by decide +kernel
theorem dX4_customersOf_13 : decode cX4_customersOf 13 = .ok (.iload_n 3, 1) := by decide +kernel
theorem dX4_customersOf_14 : decode cX4_customersOf 14 = .ok (.iload_n 1, 1) := by decide +kernel
theorem dX4_customersOf_15 : decode cX4_customersOf 15 = .ok (.invokevirtual 152, 3) := by decide +kernel
theorem dX4_customersOf_18 : decode cX4_customersOf 18 = .ok (.ifCond .eq 14, 3) := by decide +kernel
theorem dX4_customersOf_21 : decode cX4_customersOf 21 = .ok (.iload_n 2, 1) := by decide +kernel
theorem dX4_customersOf_22 : decode cX4_customersOf 22 = .ok (.iconst 1, 1) := by decide +kernel
theorem dX4_customersOf_23 : decode cX4_customersOf 23 = .ok (.aload_n 0, 1) := by decide +kernel
theorem dX4_customersOf_24 : decode cX4_customersOf 24 = .ok (.getfield 53, 3) := by decide +kernel
theorem dX4_customersOf_27 : decode cX4_customersOf 27 = .ok (.iload_n 3, 1) := by decide +kernel
theorem dX4_customersOf_28 : decode cX4_customersOf 28 = .ok (.iaload, 1) := by decide +kernel
theorem dX4_customersOf_29 : decode cX4_customersOf 29 = .ok (.ishl, 1) := by decide +kernel
theorem dX4_customersOf_30 : decode cX4_customersOf 30 = .ok (.ior, 1) := by decide +kernel
theorem dX4_customersOf_31 : decode cX4_customersOf 31 = .ok (.istore_n 2, 1) := by decide +kernel
theorem dX4_customersOf_32 : decode cX4_customersOf 32 = .ok (.iinc 3 1, 3) := by decide +kernel
theorem dX4_customersOf_35 : decode cX4_customersOf 35 = .ok (.goto (-31), 3) := by decide +kernel
theorem dX4_customersOf_38 : decode cX4_customersOf 38 = .ok (.iload_n 2, 1) := by decide +kernel
theorem dX4_customersOf_39 : decode cX4_customersOf 39 = .ok (.ireturn, 1) := by decide +kernel
theorem dX4_main_0 : decode cX4_main 0 = .ok (.aload_n 0, 1) := by decide +kernel
theorem dX4_main_1 : decode cX4_main 1 = .ok (.iconst 0, 1) := by decide +kernel
theorem dX4_main_2 : decode cX4_main 2 = .ok (.putfield 77, 3) := by decide +kernel
theorem dX4_main_5 : decode cX4_main 5 = .ok (.aload_n 0, 1) := by decide +kernel
theorem dX4_main_6 : decode cX4_main 6 = .ok (.iload_n 1, 1) := by decide +kernel
theorem dX4_main_7 : decode cX4_main 7 = .ok (.invokevirtual 137, 3) := by decide +kernel
theorem dX4_main_10 : decode cX4_main 10 = .ok (.ifCond .eq 11, 3) := by decide +kernel
theorem dX4_main_13 : decode cX4_main 13 = .ok (.aload_n 0, 1) := by decide +kernel
theorem dX4_main_14 : decode cX4_main 14 = .ok (.iload_n 1, 1) := by decide +kernel
theorem dX4_main_15 : decode cX4_main 15 = .ok (.invokevirtual 155, 3) := by decide +kernel
theorem dX4_main_18 : decode cX4_main 18 = .ok (.goto 8, 3) := by decide +kernel
theorem dX4_main_21 : decode cX4_main 21 = .ok (.aload_n 0, 1) := by decide +kernel
theorem dX4_main_22 : decode cX4_main 22 = .ok (.iconst 1, 1) := by decide +kernel
theorem dX4_main_23 : decode cX4_main 23 = .ok (.invokevirtual 90, 3) := by decide +kernel
theorem dX4_main_26 : decode cX4_main 26 = .ok (.ireturn, 1) := by decide +kernel
theorem dX4_customers_0 : decode cX4_customers 0 = .ok (.aload_n 0, 1) := by decide +kernel
theorem dX4_customers_1 : decode cX4_customers 1 = .ok (.iconst 0, 1) := by decide +kernel
theorem dX4_customers_2 : decode cX4_customers 2 = .ok (.putfield 77, 3) := by decide +kernel
theorem dX4_customers_5 : decode cX4_customers 5 = .ok (.aload_n 0, 1) := by decide +kernel
theorem dX4_customers_6 : decode cX4_customers 6 = .ok (.iload_n 1, 1) := by decide +kernel
theorem dX4_customers_7 : decode cX4_customers 7 = .ok (.invokevirtual 137, 3) := by decide +kernel
theorem dX4_customers_10 : decode cX4_customers 10 = .ok (.ifCond .eq 11, 3) := by decide +kernel
theorem dX4_customers_13 : decode cX4_customers 13 = .ok (.aload_n 0, 1) := by decide +kernel
theorem dX4_customers_14 : decode cX4_customers 14 = .ok (.iload_n 1, 1) := by decide +kernel
theorem dX4_customers_15 : decode cX4_customers 15 = .ok (.invokevirtual 143, 3) := by decide +kernel
theorem dX4_customers_18 : decode cX4_customers 18 = .ok (.goto 8, 3) := by decide +kernel
theorem dX4_customers_21 : decode cX4_customers 21 = .ok (.aload_n 0, 1) := by decide +kernel
theorem dX4_customers_22 : decode cX4_customers 22 = .ok (.iconst 1, 1) := by decide +kernel
theorem dX4_customers_23 : decode cX4_customers 23 = .ok (.invokevirtual 90, 3) := by decide +kernel
theorem dX4_customers_26 : decode cX4_customers 26 = .ok (.ireturn, 1) := by decide +kernel
theorem dX4_due_0 : decode cX4_due 0 = .ok (.aload_n 0, 1) := by decide +kernel
theorem dX4_due_1 : decode cX4_due 1 = .ok (.iconst 0, 1) := by decide +kernel
theorem dX4_due_2 : decode cX4_due 2 = .ok (.putfield 77, 3) := by decide +kernel
theorem dX4_due_5 : decode cX4_due 5 = .ok (.aload_n 0, 1) := by decide +kernel
theorem dX4_due_6 : decode cX4_due 6 = .ok (.iload_n 1, 1) := by decide +kernel
theorem dX4_due_7 : decode cX4_due 7 = .ok (.invokevirtual 137, 3) := by decide +kernel
theorem dX4_due_10 : decode cX4_due 10 = .ok (.ifCond .ne 9, 3) := by decide +kernel
theorem dX4_due_13 : decode cX4_due 13 = .ok (.aload_n 0, 1) := by decide +kernel
theorem dX4_due_14 : decode cX4_due 14 = .ok (.iconst 1, 1) := by decide +kernel
theorem dX4_due_15 : decode cX4_due 15 = .ok (.invokevirtual 90, 3) := by decide +kernel
theorem dX4_due_18 : decode cX4_due 18 = .ok (.ireturn, 1) := by decide +kernel
theorem dX4_due_19 : decode cX4_due 19 = .ok (.aload_n 0, 1) := by decide +kernel
theorem dX4_due_20 : decode cX4_due 20 = .ok (.iload_n 1, 1) := by decide +kernel
theorem dX4_due_21 : decode cX4_due 21 = .ok (.invokevirtual 128, 3) := by decide +kernel
theorem dX4_due_24 : decode cX4_due 24 = .ok (.istore_n 2, 1) := by decide +kernel
theorem dX4_due_25 : decode cX4_due 25 = .ok (.iload_n 2, 1) := by decide +kernel
theorem dX4_due_26 : decode cX4_due 26 = .ok (.ifCond .lt 13, 3) := by decide +kernel
theorem dX4_due_29 : decode cX4_due 29 = .ok (.aload_n 0, 1) := by decide +kernel
theorem dX4_due_30 : decode cX4_due 30 = .ok (.getfield 56, 3) := by decide +kernel
theorem dX4_due_33 : decode cX4_due 33 = .ok (.iload_n 1, 1) := by decide +kernel
theorem dX4_due_34 : decode cX4_due 34 = .ok (.iaload, 1) := by decide +kernel
theorem dX4_due_35 : decode cX4_due 35 = .ok (.iconst 4, 1) := by decide +kernel
theorem dX4_due_36 : decode cX4_due 36 = .ok (.if_icmp .ne 5, 3) := by decide +kernel
theorem dX4_due_39 : decode cX4_due 39 = .ok (.iconst (-1), 1) := by decide +kernel
theorem dX4_due_40 : decode cX4_due 40 = .ok (.ireturn, 1) := by decide +kernel
theorem dX4_due_41 : decode cX4_due 41 = .ok (.aload_n 0, 1) := by decide +kernel
theorem dX4_due_42 : decode cX4_due 42 = .ok (.getfield 94, 3) := by decide +kernel
theorem dX4_due_45 : decode cX4_due 45 = .ok (.istore_n 3, 1) := by decide +kernel
theorem dX4_due_46 : decode cX4_due 46 = .ok (.iload_n 3, 1) := by decide +kernel
theorem dX4_due_47 : decode cX4_due 47 = .ok (.ldc 106, 2) := by decide +kernel
theorem dX4_due_49 : decode cX4_due 49 = .ok (.if_icmp .gt 29, 3) := by decide +kernel
theorem dX4_due_52 : decode cX4_due 52 = .ok (.aload_n 0, 1) := by decide +kernel
theorem dX4_due_53 : decode cX4_due 53 = .ok (.iload_n 3, 1) := by decide +kernel
theorem dX4_due_54 : decode cX4_due 54 = .ok (.invokevirtual 158, 3) := by decide +kernel
theorem dX4_due_57 : decode cX4_due 57 = .ok (.ifCond .ne 6, 3) := by decide +kernel
theorem dX4_due_60 : decode cX4_due 60 = .ok (.goto 12, 3) := by decide +kernel
theorem dX4_due_63 : decode cX4_due 63 = .ok (.iload_n 2, 1) := by decide +kernel
theorem dX4_due_64 : decode cX4_due 64 = .ok (.ifCond .ne 5, 3) := by decide +kernel
theorem dX4_due_67 : decode cX4_due 67 = .ok (.iload_n 3, 1) := by decide +kernel
theorem dX4_due_68 : decode cX4_due 68 = .ok (.ireturn, 1) := by decide +kernel
theorem dX4_due_69 : decode cX4_due 69 = .ok (.iinc 2 (-1), 3) := by decide +kernel
theorem dX4_due_72 : decode cX4_due 72 = .ok (.iinc 3 1, 3) := by decide +kernel
theorem dX4_due_75 : decode cX4_due 75 = .ok (.goto (-29), 3) := by decide +kernel
theorem dX4_due_78 : decode cX4_due 78 = .ok (.iconst (-1), 1) := by decide +kernel
theorem dX4_due_79 : decode cX4_due 79 = .ok (.ireturn, 1) := by decide +kernel
theorem dX4_passMinute_0 : decode cX4_passMinute 0 = .ok (.iconst 0, 1) := by decide +kernel
theorem dX4_passMinute_1 : decode cX4_passMinute 1 = .ok (.istore_n 1, 1) := by decide +kernel
theorem dX4_passMinute_2 : decode cX4_passMinute 2 = .ok (.iload_n 1, 1) := by decide +kernel
theorem dX4_passMinute_3 : decode cX4_passMinute 3 = .ok (.aload_n 0, 1) := by decide +kernel
theorem dX4_passMinute_4 : decode cX4_passMinute 4 = .ok (.getfield 80, 3) := by decide +kernel
theorem dX4_passMinute_7 : decode cX4_passMinute 7 = .ok (.if_icmp .ge 38, 3) := by decide +kernel
theorem dX4_passMinute_10 : decode cX4_passMinute 10 = .ok (.aload_n 0, 1) := by decide +kernel
theorem dX4_passMinute_11 : decode cX4_passMinute 11 = .ok (.getfield 35, 3) := by decide +kernel
theorem dX4_passMinute_14 : decode cX4_passMinute 14 = .ok (.iload_n 1, 1) := by decide +kernel
theorem dX4_passMinute_15 : decode cX4_passMinute 15 = .ok (.iaload, 1) := by decide +kernel
theorem dX4_passMinute_16 : decode cX4_passMinute 16 = .ok (.iconst (-1), 1) := by decide +kernel
theorem dX4_passMinute_17 : decode cX4_passMinute 17 = .ok (.if_icmp .eq 22, 3) := by decide +kernel
theorem dX4_passMinute_20 : decode cX4_passMinute 20 = .ok (.aload_n 0, 1) := by decide +kernel
theorem dX4_passMinute_21 : decode cX4_passMinute 21 = .ok (.iload_n 1, 1) := by decide +kernel
theorem dX4_passMinute_22 : decode cX4_passMinute 22 = .ok (.invokevirtual 122, 3) := by decide +kernel
theorem dX4_passMinute_25 : decode cX4_passMinute 25 = .ok (.ifCond .ne 14, 3) := by decide +kernel
theorem dX4_passMinute_28 : decode cX4_passMinute 28 = .ok (.aload_n 0, 1) := by decide +kernel
theorem dX4_passMinute_29 : decode cX4_passMinute 29 = .ok (.aload_n 0, 1) := by decide +kernel
theorem dX4_passMinute_30 : decode cX4_passMinute 30 = .ok (.getfield 35, 3) := by decide +kernel
theorem dX4_passMinute_33 : decode cX4_passMinute 33 = .ok (.iload_n 1, 1) := by decide +kernel
theorem dX4_passMinute_34 : decode cX4_passMinute 34 = .ok (.iaload, 1) := by decide +kernel
theorem dX4_passMinute_35 : decode cX4_passMinute 35 = .ok (.iconst 0, 1) := by decide +kernel
theorem dX4_passMinute_36 : decode cX4_passMinute 36 = .ok (.invokevirtual 118, 3) := by decide +kernel
theorem dX4_passMinute_39 : decode cX4_passMinute 39 = .ok (.iinc 1 1, 3) := by decide +kernel
theorem dX4_passMinute_42 : decode cX4_passMinute 42 = .ok (.goto (-40), 3) := by decide +kernel
theorem dX4_passMinute_45 : decode cX4_passMinute 45 = .ok (.iconst 0, 1) := by decide +kernel
theorem dX4_passMinute_46 : decode cX4_passMinute 46 = .ok (.istore_n 1, 1) := by decide +kernel
theorem dX4_passMinute_47 : decode cX4_passMinute 47 = .ok (.iload_n 1, 1) := by decide +kernel
theorem dX4_passMinute_48 : decode cX4_passMinute 48 = .ok (.aload_n 0, 1) := by decide +kernel
theorem dX4_passMinute_49 : decode cX4_passMinute 49 = .ok (.getfield 80, 3) := by decide +kernel
theorem dX4_passMinute_52 : decode cX4_passMinute 52 = .ok (.if_icmp .ge 88, 3) := by decide +kernel
theorem dX4_passMinute_55 : decode cX4_passMinute 55 = .ok (.aload_n 0, 1) := by decide +kernel
theorem dX4_passMinute_56 : decode cX4_passMinute 56 = .ok (.getfield 35, 3) := by decide +kernel
theorem dX4_passMinute_59 : decode cX4_passMinute 59 = .ok (.iload_n 1, 1) := by decide +kernel
theorem dX4_passMinute_60 : decode cX4_passMinute 60 = .ok (.iaload, 1) := by decide +kernel
theorem dX4_passMinute_61 : decode cX4_passMinute 61 = .ok (.iconst (-1), 1) := by decide +kernel
theorem dX4_passMinute_62 : decode cX4_passMinute 62 = .ok (.if_icmp .ne 19, 3) := by decide +kernel
theorem dX4_passMinute_65 : decode cX4_passMinute 65 = .ok (.aload_n 0, 1) := by decide +kernel
theorem dX4_passMinute_66 : decode cX4_passMinute 66 = .ok (.iload_n 1, 1) := by decide +kernel
theorem dX4_passMinute_67 : decode cX4_passMinute 67 = .ok (.invokevirtual 122, 3) := by decide +kernel
theorem dX4_passMinute_70 : decode cX4_passMinute 70 = .ok (.ifCond .eq 11, 3) := by decide +kernel
theorem dX4_passMinute_73 : decode cX4_passMinute 73 = .ok (.aload_n 0, 1) := by decide +kernel
theorem dX4_passMinute_74 : decode cX4_passMinute 74 = .ok (.iload_n 1, 1) := by decide +kernel
theorem dX4_passMinute_75 : decode cX4_passMinute 75 = .ok (.invokevirtual 134, 3) := by decide +kernel
theorem dX4_passMinute_78 : decode cX4_passMinute 78 = .ok (.goto 4, 3) := by decide +kernel
theorem dX4_passMinute_81 : decode cX4_passMinute 81 = .ok (.iconst (-1), 1) := by decide +kernel
theorem dX4_passMinute_82 : decode cX4_passMinute 82 = .ok (.istore_n 2, 1) := by decide +kernel
theorem dX4_passMinute_83 : decode cX4_passMinute 83 = .ok (.iload_n 2, 1) := by decide +kernel
theorem dX4_passMinute_84 : decode cX4_passMinute 84 = .ok (.iconst (-1), 1) := by decide +kernel
theorem dX4_passMinute_85 : decode cX4_passMinute 85 = .ok (.if_icmp .ne 6, 3) := by decide +kernel
theorem dX4_passMinute_88 : decode cX4_passMinute 88 = .ok (.goto 46, 3) := by decide +kernel
theorem dX4_passMinute_91 : decode cX4_passMinute 91 = .ok (.aload_n 0, 1) := by decide +kernel
theorem dX4_passMinute_92 : decode cX4_passMinute 92 = .ok (.getfield 35, 3) := by decide +kernel
theorem dX4_passMinute_95 : decode cX4_passMinute 95 = .ok (.iload_n 1, 1) := by decide +kernel
theorem dX4_passMinute_96 : decode cX4_passMinute 96 = .ok (.iload_n 2, 1) := by decide +kernel
theorem dX4_passMinute_97 : decode cX4_passMinute 97 = .ok (.iastore, 1) := by decide +kernel
theorem dX4_passMinute_98 : decode cX4_passMinute 98 = .ok (.aload_n 0, 1) := by decide +kernel
theorem dX4_passMinute_99 : decode cX4_passMinute 99 = .ok (.getfield 56, 3) := by decide +kernel
theorem dX4_passMinute_102 : decode cX4_passMinute 102 = .ok (.iload_n 2, 1) := by decide +kernel
theorem dX4_passMinute_103 : decode cX4_passMinute 103 = .ok (.iconst 1, 1) := by decide +kernel
theorem dX4_passMinute_104 : decode cX4_passMinute 104 = .ok (.iastore, 1) := by decide +kernel
theorem dX4_passMinute_105 : decode cX4_passMinute 105 = .ok (.aload_n 0, 1) := by decide +kernel
theorem dX4_passMinute_106 : decode cX4_passMinute 106 = .ok (.getfield 68, 3) := by decide +kernel
theorem dX4_passMinute_109 : decode cX4_passMinute 109 = .ok (.iload_n 2, 1) := by decide +kernel
theorem dX4_passMinute_110 : decode cX4_passMinute 110 = .ok (.iaload, 1) := by decide +kernel
theorem dX4_passMinute_111 : decode cX4_passMinute 111 = .ok (.iconst (-1), 1) := by decide +kernel
theorem dX4_passMinute_112 : decode cX4_passMinute 112 = .ok (.if_icmp .ne 15, 3) := by decide +kernel
theorem dX4_passMinute_115 : decode cX4_passMinute 115 = .ok (.aload_n 0, 1) := by decide +kernel
theorem dX4_passMinute_116 : decode cX4_passMinute 116 = .ok (.getfield 68, 3) := by decide +kernel
theorem dX4_passMinute_119 : decode cX4_passMinute 119 = .ok (.iload_n 2, 1) := by decide +kernel
theorem dX4_passMinute_120 : decode cX4_passMinute 120 = .ok (.aload_n 0, 1) := by decide +kernel
theorem dX4_passMinute_121 : decode cX4_passMinute 121 = .ok (.getfield 59, 3) := by decide +kernel
theorem dX4_passMinute_124 : decode cX4_passMinute 124 = .ok (.iload_n 2, 1) := by decide +kernel
theorem dX4_passMinute_125 : decode cX4_passMinute 125 = .ok (.iaload, 1) := by decide +kernel
theorem dX4_passMinute_126 : decode cX4_passMinute 126 = .ok (.iastore, 1) := by decide +kernel
theorem dX4_passMinute_127 : decode cX4_passMinute 127 = .ok (.aload_n 0, 1) := by decide +kernel
theorem dX4_passMinute_128 : decode cX4_passMinute 128 = .ok (.getfield 65, 3) := by decide +kernel
theorem dX4_passMinute_131 : decode cX4_passMinute 131 = .ok (.iload_n 2, 1) := by decide +kernel
theorem dX4_passMinute_132 : decode cX4_passMinute 132 = .ok (.iload_n 1, 1) := by decide +kernel
theorem dX4_passMinute_133 : decode cX4_passMinute 133 = .ok (.iastore, 1) := by decide +kernel
theorem dX4_passMinute_134 : decode cX4_passMinute 134 = .ok (.iinc 1 1, 3) := by decide +kernel
theorem dX4_passMinute_137 : decode cX4_passMinute 137 = .ok (.goto (-90), 3) := by decide +kernel
theorem dX4_passMinute_140 : decode cX4_passMinute 140 = .ok (.aload_n 0, 1) := by decide +kernel
theorem dX4_passMinute_141 : decode cX4_passMinute 141 = .ok (.aload_n 0, 1) := by decide +kernel
theorem dX4_passMinute_142 : decode cX4_passMinute 142 = .ok (.getfield 94, 3) := by decide +kernel
theorem dX4_passMinute_145 : decode cX4_passMinute 145 = .ok (.invokevirtual 158, 3) := by decide +kernel
theorem dX4_passMinute_148 : decode cX4_passMinute 148 = .ok (.ifCond .eq 43, 3) := by decide +kernel
theorem dX4_passMinute_151 : decode cX4_passMinute 151 = .ok (.iconst 0, 1) := by decide +kernel
theorem dX4_passMinute_152 : decode cX4_passMinute 152 = .ok (.istore_n 1, 1) := by decide +kernel
theorem dX4_passMinute_153 : decode cX4_passMinute 153 = .ok (.iload_n 1, 1) := by decide +kernel
theorem dX4_passMinute_154 : decode cX4_passMinute 154 = .ok (.aload_n 0, 1) := by decide +kernel
theorem dX4_passMinute_155 : decode cX4_passMinute 155 = .ok (.getfield 87, 3) := by decide +kernel
theorem dX4_passMinute_158 : decode cX4_passMinute 158 = .ok (.if_icmp .ge 33, 3) := by decide +kernel
theorem dX4_passMinute_161 : decode cX4_passMinute 161 = .ok (.aload_n 0, 1) := by decide +kernel
theorem dX4_passMinute_162 : decode cX4_passMinute 162 = .ok (.getfield 59, 3) := by decide +kernel
theorem dX4_passMinute_165 : decode cX4_passMinute 165 = .ok (.iload_n 1, 1) := by decide +kernel
theorem dX4_passMinute_166 : decode cX4_passMinute 166 = .ok (.dup2, 1) := by decide +kernel
theorem dX4_passMinute_167 : decode cX4_passMinute 167 = .ok (.iaload, 1) := by decide +kernel
theorem dX4_passMinute_168 : decode cX4_passMinute 168 = .ok (.aload_n 0, 1) := by decide +kernel
theorem dX4_passMinute_169 : decode cX4_passMinute 169 = .ok (.getfield 56, 3) := by decide +kernel
theorem dX4_passMinute_172 : decode cX4_passMinute 172 = .ok (.iload_n 1, 1) := by decide +kernel
theorem dX4_passMinute_173 : decode cX4_passMinute 173 = .ok (.iaload, 1) := by decide +kernel
theorem dX4_passMinute_174 : decode cX4_passMinute 174 = .ok (.iconst 1, 1) := by decide +kernel
theorem dX4_passMinute_175 : decode cX4_passMinute 175 = .ok (.if_icmp .gt 7, 3) := by decide +kernel
theorem dX4_passMinute_178 : decode cX4_passMinute 178 = .ok (.iconst 1, 1) := by decide +kernel
theorem dX4_passMinute_179 : decode cX4_passMinute 179 = .ok (.goto 4, 3) := by decide +kernel
theorem dX4_passMinute_182 : decode cX4_passMinute 182 = .ok (.iconst 0, 1) := by decide +kernel
theorem dX4_passMinute_183 : decode cX4_passMinute 183 = .ok (.iadd, 1) := by decide +kernel
theorem dX4_passMinute_184 : decode cX4_passMinute 184 = .ok (.iastore, 1) := by decide +kernel
theorem dX4_passMinute_185 : decode cX4_passMinute 185 = .ok (.iinc 1 1, 3) := by decide +kernel
theorem dX4_passMinute_188 : decode cX4_passMinute 188 = .ok (.goto (-35), 3) := by decide +kernel
theorem dX4_passMinute_191 : decode cX4_passMinute 191 = .ok (.iconst 0, 1) := by decide +kernel
theorem dX4_passMinute_192 : decode cX4_passMinute 192 = .ok (.istore_n 1, 1) := by decide +kernel
theorem dX4_passMinute_193 : decode cX4_passMinute 193 = .ok (.iconst 0, 1) := by decide +kernel
theorem dX4_passMinute_194 : decode cX4_passMinute 194 = .ok (.istore_n 2, 1) := by decide +kernel
theorem dX4_passMinute_195 : decode cX4_passMinute 195 = .ok (.iload_n 2, 1) := by decide +kernel
theorem dX4_passMinute_196 : decode cX4_passMinute 196 = .ok (.aload_n 0, 1) := by decide +kernel
theorem dX4_passMinute_197 : decode cX4_passMinute 197 = .ok (.getfield 80, 3) := by decide +kernel
theorem dX4_passMinute_200 : decode cX4_passMinute 200 = .ok (.if_icmp .ge 93, 3) := by decide +kernel
theorem dX4_passMinute_203 : decode cX4_passMinute 203 = .ok (.aload_n 0, 1) := by decide +kernel
theorem dX4_passMinute_204 : decode cX4_passMinute 204 = .ok (.getfield 35, 3) := by decide +kernel
theorem dX4_passMinute_207 : decode cX4_passMinute 207 = .ok (.iload_n 2, 1) := by decide +kernel
theorem dX4_passMinute_208 : decode cX4_passMinute 208 = .ok (.iaload, 1) := by decide +kernel
theorem dX4_passMinute_209 : decode cX4_passMinute 209 = .ok (.istore_n 3, 1) := by decide +kernel
theorem dX4_passMinute_210 : decode cX4_passMinute 210 = .ok (.iload_n 3, 1) := by decide +kernel
theorem dX4_passMinute_211 : decode cX4_passMinute 211 = .ok (.iconst (-1), 1) := by decide +kernel
theorem dX4_passMinute_212 : decode cX4_passMinute 212 = .ok (.if_icmp .ne 6, 3) := by decide +kernel
theorem dX4_passMinute_215 : decode cX4_passMinute 215 = .ok (.goto 72, 3) := by decide +kernel
theorem dX4_passMinute_218 : decode cX4_passMinute 218 = .ok (.aload_n 0, 1) := by decide +kernel
theorem dX4_passMinute_219 : decode cX4_passMinute 219 = .ok (.getfield 38, 3) := by decide +kernel
theorem dX4_passMinute_222 : decode cX4_passMinute 222 = .ok (.iload_n 2, 1) := by decide +kernel
theorem dX4_passMinute_223 : decode cX4_passMinute 223 = .ok (.dup2, 1) := by decide +kernel
theorem dX4_passMinute_224 : decode cX4_passMinute 224 = .ok (.iaload, 1) := by decide +kernel
theorem dX4_passMinute_225 : decode cX4_passMinute 225 = .ok (.iconst 1, 1) := by decide +kernel
theorem dX4_passMinute_226 : decode cX4_passMinute 226 = .ok (.iadd, 1) := by decide +kernel
theorem dX4_passMinute_227 : decode cX4_passMinute 227 = .ok (.iastore, 1) := by decide +kernel
theorem dX4_passMinute_228 : decode cX4_passMinute 228 = .ok (.aload_n 0, 1) := by decide +kernel
theorem dX4_passMinute_229 : decode cX4_passMinute 229 = .ok (.getfield 62, 3) := by decide +kernel
theorem dX4_passMinute_232 : decode cX4_passMinute 232 = .ok (.iload_n 3, 1) := by decide +kernel
theorem dX4_passMinute_233 : decode cX4_passMinute 233 = .ok (.dup2, 1) := by decide +kernel
theorem dX4_passMinute_234 : decode cX4_passMinute 234 = .ok (.iaload, 1) := by decide +kernel
theorem dX4_passMinute_235 : decode cX4_passMinute 235 = .ok (.iconst 1, 1) := by decide +kernel
theorem dX4_passMinute_236 : decode cX4_passMinute 236 = .ok (.iadd, 1) := by decide +kernel
theorem dX4_passMinute_237 : decode cX4_passMinute 237 = .ok (.iastore, 1) := by decide +kernel
theorem dX4_passMinute_238 : decode cX4_passMinute 238 = .ok (.aload_n 0, 1) := by decide +kernel
theorem dX4_passMinute_239 : decode cX4_passMinute 239 = .ok (.getfield 62, 3) := by decide +kernel
theorem dX4_passMinute_242 : decode cX4_passMinute 242 = .ok (.iload_n 3, 1) := by decide +kernel
theorem dX4_passMinute_243 : decode cX4_passMinute 243 = .ok (.iaload, 1) := by decide +kernel
theorem dX4_passMinute_244 : decode cX4_passMinute 244 = .ok (.aload_n 0, 1) := by decide +kernel
theorem dX4_passMinute_245 : decode cX4_passMinute 245 = .ok (.getfield 50, 3) := by decide +kernel
theorem dX4_passMinute_248 : decode cX4_passMinute 248 = .ok (.iload_n 3, 1) := by decide +kernel
theorem dX4_passMinute_249 : decode cX4_passMinute 249 = .ok (.iaload, 1) := by decide +kernel
theorem dX4_passMinute_250 : decode cX4_passMinute 250 = .ok (.if_icmp .ge 6, 3) := by decide +kernel
theorem dX4_passMinute_253 : decode cX4_passMinute 253 = .ok (.goto 34, 3) := by decide +kernel
theorem dX4_passMinute_256 : decode cX4_passMinute 256 = .ok (.aload_n 0, 1) := by decide +kernel
theorem dX4_passMinute_257 : decode cX4_passMinute 257 = .ok (.iload_n 3, 1) := by decide +kernel
theorem dX4_passMinute_258 : decode cX4_passMinute 258 = .ok (.iconst 3, 1) := by decide +kernel
theorem dX4_passMinute_259 : decode cX4_passMinute 259 = .ok (.invokevirtual 118, 3) := by decide +kernel
theorem dX4_passMinute_262 : decode cX4_passMinute 262 = .ok (.aload_n 0, 1) := by decide +kernel
theorem dX4_passMinute_263 : decode cX4_passMinute 263 = .ok (.getfield 74, 3) := by decide +kernel
theorem dX4_passMinute_266 : decode cX4_passMinute 266 = .ok (.iload_n 3, 1) := by decide +kernel
theorem dX4_passMinute_267 : decode cX4_passMinute 267 = .ok (.aload_n 0, 1) := by decide +kernel
theorem dX4_passMinute_268 : decode cX4_passMinute 268 = .ok (.getfield 94, 3) := by decide +kernel
theorem dX4_passMinute_271 : decode cX4_passMinute 271 = .ok (.iconst 1, 1) := by decide +kernel
theorem dX4_passMinute_272 : decode cX4_passMinute 272 = .ok (.iadd, 1) := by decide +kernel
theorem dX4_passMinute_273 : decode cX4_passMinute 273 = .ok (.iastore, 1) := by decide +kernel
theorem dX4_passMinute_274 : decode cX4_passMinute 274 = .ok (.aload_n 0, 1) := by decide +kernel
theorem dX4_passMinute_275 : decode cX4_passMinute 275 = .ok (.getfield 41, 3) := by decide +kernel
theorem dX4_passMinute_278 : decode cX4_passMinute 278 = .ok (.iload_n 2, 1) := by decide +kernel
theorem dX4_passMinute_279 : decode cX4_passMinute 279 = .ok (.dup2, 1) := by decide +kernel
theorem dX4_passMinute_280 : decode cX4_passMinute 280 = .ok (.iaload, 1) := by decide +kernel
theorem dX4_passMinute_281 : decode cX4_passMinute 281 = .ok (.iconst 1, 1) := by decide +kernel
theorem dX4_passMinute_282 : decode cX4_passMinute 282 = .ok (.iadd, 1) := by decide +kernel
theorem dX4_passMinute_283 : decode cX4_passMinute 283 = .ok (.iastore, 1) := by decide +kernel
theorem dX4_passMinute_284 : decode cX4_passMinute 284 = .ok (.iinc 1 1, 3) := by decide +kernel
theorem dX4_passMinute_287 : decode cX4_passMinute 287 = .ok (.iinc 2 1, 3) := by decide +kernel
theorem dX4_passMinute_290 : decode cX4_passMinute 290 = .ok (.goto (-95), 3) := by decide +kernel
theorem dX4_passMinute_293 : decode cX4_passMinute 293 = .ok (.aload_n 0, 1) := by decide +kernel
theorem dX4_passMinute_294 : decode cX4_passMinute 294 = .ok (.dup, 1) := by decide +kernel
theorem dX4_passMinute_295 : decode cX4_passMinute 295 = .ok (.getfield 94, 3) := by decide +kernel
theorem dX4_passMinute_298 : decode cX4_passMinute 298 = .ok (.iconst 1, 1) := by decide +kernel
theorem dX4_passMinute_299 : decode cX4_passMinute 299 = .ok (.iadd, 1) := by decide +kernel
theorem dX4_passMinute_300 : decode cX4_passMinute 300 = .ok (.putfield 94, 3) := by decide +kernel
theorem dX4_passMinute_303 : decode cX4_passMinute 303 = .ok (.iload_n 1, 1) := by decide +kernel
theorem dX4_passMinute_304 : decode cX4_passMinute 304 = .ok (.ireturn, 1) := by decide +kernel
theorem dX4_pass_0 : decode cX4_pass 0 = .ok (.aload_n 0, 1) := by decide +kernel
theorem dX4_pass_1 : decode cX4_pass 1 = .ok (.iconst 0, 1) := by decide +kernel
theorem dX4_pass_2 : decode cX4_pass 2 = .ok (.putfield 77, 3) := by decide +kernel
theorem dX4_pass_5 : decode cX4_pass 5 = .ok (.iload_n 1, 1) := by decide +kernel
theorem dX4_pass_6 : decode cX4_pass 6 = .ok (.iconst 1, 1) := by decide +kernel
theorem dX4_pass_7 : decode cX4_pass 7 = .ok (.sipush 600, 3) := by decide +kernel
theorem dX4_pass_10 : decode cX4_pass 10 = .ok (.invokestatic 83, 3) := by decide +kernel
theorem dX4_pass_13 : decode cX4_pass 13 = .ok (.ifCond .ne 9, 3) := by decide +kernel
theorem dX4_pass_16 : decode cX4_pass 16 = .ok (.aload_n 0, 1) := by decide +kernel
theorem dX4_pass_17 : decode cX4_pass 17 = .ok (.iconst 1, 1) := by decide +kernel
theorem dX4_pass_18 : decode cX4_pass 18 = .ok (.invokevirtual 90, 3) := by decide +kernel
theorem dX4_pass_21 : decode cX4_pass 21 = .ok (.ireturn, 1) := by decide +kernel
theorem dX4_pass_22 : decode cX4_pass 22 = .ok (.aload_n 0, 1) := by decide +kernel
theorem dX4_pass_23 : decode cX4_pass 23 = .ok (.getfield 94, 3) := by decide +kernel
theorem dX4_pass_26 : decode cX4_pass 26 = .ok (.iload_n 1, 1) := by decide +kernel
theorem dX4_pass_27 : decode cX4_pass 27 = .ok (.iadd, 1) := by decide +kernel
theorem dX4_pass_28 : decode cX4_pass 28 = .ok (.ldc 106, 2) := by decide +kernel
theorem dX4_pass_30 : decode cX4_pass 30 = .ok (.if_icmp .le 9, 3) := by decide +kernel
theorem dX4_pass_33 : decode cX4_pass 33 = .ok (.aload_n 0, 1) := by decide +kernel
theorem dX4_pass_34 : decode cX4_pass 34 = .ok (.iconst 2, 1) := by decide +kernel
theorem dX4_pass_35 : decode cX4_pass 35 = .ok (.invokevirtual 90, 3) := by decide +kernel
theorem dX4_pass_38 : decode cX4_pass 38 = .ok (.ireturn, 1) := by decide +kernel
theorem dX4_pass_39 : decode cX4_pass 39 = .ok (.iconst 0, 1) := by decide +kernel
theorem dX4_pass_40 : decode cX4_pass 40 = .ok (.istore_n 2, 1) := by decide +kernel
theorem dX4_pass_41 : decode cX4_pass 41 = .ok (.iconst 0, 1) := by decide +kernel
theorem dX4_pass_42 : decode cX4_pass 42 = .ok (.istore_n 3, 1) := by decide +kernel
theorem dX4_pass_43 : decode cX4_pass 43 = .ok (.iload_n 3, 1) := by decide +kernel
theorem dX4_pass_44 : decode cX4_pass 44 = .ok (.iload_n 1, 1) := by decide +kernel
theorem dX4_pass_45 : decode cX4_pass 45 = .ok (.if_icmp .ge 16, 3) := by decide +kernel
theorem dX4_pass_48 : decode cX4_pass 48 = .ok (.iload_n 2, 1) := by decide +kernel
theorem dX4_pass_49 : decode cX4_pass 49 = .ok (.aload_n 0, 1) := by decide +kernel
theorem dX4_pass_50 : decode cX4_pass 50 = .ok (.invokevirtual 161, 3) := by decide +kernel
theorem dX4_pass_53 : decode cX4_pass 53 = .ok (.iadd, 1) := by decide +kernel
theorem dX4_pass_54 : decode cX4_pass 54 = .ok (.istore_n 2, 1) := by decide +kernel
theorem dX4_pass_55 : decode cX4_pass 55 = .ok (.iinc 3 1, 3) := by decide +kernel
theorem dX4_pass_58 : decode cX4_pass 58 = .ok (.goto (-15), 3) := by decide +kernel
theorem dX4_pass_61 : decode cX4_pass 61 = .ok (.iload_n 2, 1) := by decide +kernel
theorem dX4_pass_62 : decode cX4_pass 62 = .ok (.ireturn, 1) := by decide +kernel
theorem dX4_all_0 : decode cX4_all 0 = .ok (.aload_n 0, 1) := by decide +kernel
theorem dX4_all_1 : decode cX4_all 1 = .ok (.iconst 0, 1) := by decide +kernel
theorem dX4_all_2 : decode cX4_all 2 = .ok (.putfield 77, 3) := by decide +kernel
theorem dX4_all_5 : decode cX4_all 5 = .ok (.iload_n 1, 1) := by decide +kernel
theorem dX4_all_6 : decode cX4_all 6 = .ok (.iconst 0, 1) := by decide +kernel
theorem dX4_all_7 : decode cX4_all 7 = .ok (.iconst 4, 1) := by decide +kernel
theorem dX4_all_8 : decode cX4_all 8 = .ok (.invokestatic 83, 3) := by decide +kernel
theorem dX4_all_11 : decode cX4_all 11 = .ok (.ifCond .ne 9, 3) := by decide +kernel
theorem dX4_all_14 : decode cX4_all 14 = .ok (.aload_n 0, 1) := by decide +kernel
theorem dX4_all_15 : decode cX4_all 15 = .ok (.iconst 1, 1) := by decide +kernel
theorem dX4_all_16 : decode cX4_all 16 = .ok (.invokevirtual 90, 3) := by decide +kernel
theorem dX4_all_19 : decode cX4_all 19 = .ok (.ireturn, 1) := by decide +kernel
theorem dX4_all_20 : decode cX4_all 20 = .ok (.iconst 0, 1) := by decide +kernel
theorem dX4_all_21 : decode cX4_all 21 = .ok (.istore_n 2, 1) := by decide +kernel
theorem dX4_all_22 : decode cX4_all 22 = .ok (.iconst 0, 1) := by decide +kernel
theorem dX4_all_23 : decode cX4_all 23 = .ok (.istore_n 3, 1) := by decide +kernel
theorem dX4_all_24 : decode cX4_all 24 = .ok (.iload_n 3, 1) := by decide +kernel
theorem dX4_all_25 : decode cX4_all 25 = .ok (.aload_n 0, 1) := by decide +kernel
theorem dX4_all_26 : decode cX4_all 26 = .ok (.getfield 87, 3) := by decide +kernel
theorem dX4_all_29 : decode cX4_all 29 = .ok (.if_icmp .ge 25, 3) := by decide +kernel
theorem dX4_all_32 : decode cX4_all 32 = .ok (.aload_n 0, 1) := by decide +kernel
theorem dX4_all_33 : decode cX4_all 33 = .ok (.getfield 56, 3) := by decide +kernel
theorem dX4_all_36 : decode cX4_all 36 = .ok (.iload_n 3, 1) := by decide +kernel
theorem dX4_all_37 : decode cX4_all 37 = .ok (.iaload, 1) := by decide +kernel
theorem dX4_all_38 : decode cX4_all 38 = .ok (.iload_n 1, 1) := by decide +kernel
theorem dX4_all_39 : decode cX4_all 39 = .ok (.if_icmp .ne 9, 3) := by decide +kernel
theorem dX4_all_42 : decode cX4_all 42 = .ok (.iload_n 2, 1) := by decide +kernel
theorem dX4_all_43 : decode cX4_all 43 = .ok (.iconst 1, 1) := by decide +kernel
theorem dX4_all_44 : decode cX4_all 44 = .ok (.iload_n 3, 1) := by decide +kernel
theorem dX4_all_45 : decode cX4_all 45 = .ok (.ishl, 1) := by decide +kernel
theorem dX4_all_46 : decode cX4_all 46 = .ok (.ior, 1) := by decide +kernel
theorem dX4_all_47 : decode cX4_all 47 = .ok (.istore_n 2, 1) := by decide +kernel
theorem dX4_all_48 : decode cX4_all 48 = .ok (.iinc 3 1, 3) := by decide +kernel
theorem dX4_all_51 : decode cX4_all 51 = .ok (.goto (-27), 3) := by decide +kernel
theorem dX4_all_54 : decode cX4_all 54 = .ok (.iload_n 2, 1) := by decide +kernel
theorem dX4_all_55 : decode cX4_all 55 = .ok (.ireturn, 1) := by decide +kernel
theorem dX4_breaks_0 : decode cX4_breaks 0 = .ok (.aload_n 0, 1) := by decide +kernel
theorem dX4_breaks_1 : decode cX4_breaks 1 = .ok (.getfield 56, 3) := by decide +kernel
theorem dX4_breaks_4 : decode cX4_breaks 4 = .ok (.iload_n 1, 1) := by decide +kernel
theorem dX4_breaks_5 : decode cX4_breaks 5 = .ok (.iaload, 1) := by decide +kernel
theorem dX4_breaks_6 : decode cX4_breaks 6 = .ok (.iconst 4, 1) := by decide +kernel
theorem dX4_breaks_7 : decode cX4_breaks 7 = .ok (.if_icmp .ne 5, 3) := by decide +kernel
theorem dX4_breaks_10 : decode cX4_breaks 10 = .ok (.iconst 0, 1) := by decide +kernel
theorem dX4_breaks_11 : decode cX4_breaks 11 = .ok (.ireturn, 1) := by decide +kernel
theorem dX4_breaks_12 : decode cX4_breaks 12 = .ok (.iload_n 2, 1) := by decide +kernel
theorem dX4_breaks_13 : decode cX4_breaks 13 = .ok (.ifCond .ne 29, 3) := by decide +kernel
theorem dX4_breaks_16 : decode cX4_breaks 16 = .ok (.aload_n 0, 1) := by decide +kernel
theorem dX4_breaks_17 : decode cX4_breaks 17 = .ok (.getfield 59, 3) := by decide +kernel
theorem dX4_breaks_20 : decode cX4_breaks 20 = .ok (.iload_n 1, 1) := by decide +kernel
theorem dX4_breaks_21 : decode cX4_breaks 21 = .ok (.iaload, 1) := by decide +kernel
theorem dX4_breaks_22 : decode cX4_breaks 22 = .ok (.aload_n 0, 1) := by decide +kernel
theorem dX4_breaks_23 : decode cX4_breaks 23 = .ok (.getfield 20, 3) := by decide +kernel
theorem dX4_breaks_26 : decode cX4_breaks 26 = .ok (.aload_n 0, 1) := by decide +kernel
theorem dX4_breaks_27 : decode cX4_breaks 27 = .ok (.getfield 47, 3) := by decide +kernel
theorem dX4_breaks_30 : decode cX4_breaks 30 = .ok (.iload_n 1, 1) := by decide +kernel
theorem dX4_breaks_31 : decode cX4_breaks 31 = .ok (.iaload, 1) := by decide +kernel
theorem dX4_breaks_32 : decode cX4_breaks 32 = .ok (.iaload, 1) := by decide +kernel
theorem dX4_breaks_33 : decode cX4_breaks 33 = .ok (.if_icmp .le 7, 3) := by decide +kernel
theorem dX4_breaks_36 : decode cX4_breaks 36 = .ok (.iconst 1, 1) := by decide +kernel
theorem dX4_breaks_37 : decode cX4_breaks 37 = .ok (.goto 4, 3) := by decide +kernel
theorem dX4_breaks_40 : decode cX4_breaks 40 = .ok (.iconst 0, 1) := by decide +kernel
theorem dX4_breaks_41 : decode cX4_breaks 41 = .ok (.ireturn, 1) := by decide +kernel
theorem dX4_breaks_42 : decode cX4_breaks 42 = .ok (.aload_n 0, 1) := by decide +kernel
theorem dX4_breaks_43 : decode cX4_breaks 43 = .ok (.getfield 68, 3) := by decide +kernel
theorem dX4_breaks_46 : decode cX4_breaks 46 = .ok (.iload_n 1, 1) := by decide +kernel
theorem dX4_breaks_47 : decode cX4_breaks 47 = .ok (.iaload, 1) := by decide +kernel
theorem dX4_breaks_48 : decode cX4_breaks 48 = .ok (.iconst (-1), 1) := by decide +kernel
theorem dX4_breaks_49 : decode cX4_breaks 49 = .ok (.if_icmp .ne 12, 3) := by decide +kernel
theorem dX4_breaks_52 : decode cX4_breaks 52 = .ok (.aload_n 0, 1) := by decide +kernel
theorem dX4_breaks_53 : decode cX4_breaks 53 = .ok (.getfield 59, 3) := by decide +kernel
theorem dX4_breaks_56 : decode cX4_breaks 56 = .ok (.iload_n 1, 1) := by decide +kernel
theorem dX4_breaks_57 : decode cX4_breaks 57 = .ok (.iaload, 1) := by decide +kernel
theorem dX4_breaks_58 : decode cX4_breaks 58 = .ok (.goto 9, 3) := by decide +kernel
theorem dX4_breaks_61 : decode cX4_breaks 61 = .ok (.aload_n 0, 1) := by decide +kernel
theorem dX4_breaks_62 : decode cX4_breaks 62 = .ok (.getfield 68, 3) := by decide +kernel
theorem dX4_breaks_65 : decode cX4_breaks 65 = .ok (.iload_n 1, 1) := by decide +kernel
theorem dX4_breaks_66 : decode cX4_breaks 66 = .ok (.iaload, 1) := by decide +kernel
theorem dX4_breaks_67 : decode cX4_breaks 67 = .ok (.aload_n 0, 1) := by decide +kernel
theorem dX4_breaks_68 : decode cX4_breaks 68 = .ok (.getfield 16, 3) := by decide +kernel
theorem dX4_breaks_71 : decode cX4_breaks 71 = .ok (.aload_n 0, 1) := by decide +kernel
theorem dX4_breaks_72 : decode cX4_breaks 72 = .ok (.getfield 47, 3) := by decide +kernel
theorem dX4_breaks_75 : decode cX4_breaks 75 = .ok (.iload_n 1, 1) := by decide +kernel
theorem dX4_breaks_76 : decode cX4_breaks 76 = .ok (.iaload, 1) := by decide +kernel
theorem dX4_breaks_77 : decode cX4_breaks 77 = .ok (.iaload, 1) := by decide +kernel
theorem dX4_breaks_78 : decode cX4_breaks 78 = .ok (.if_icmp .le 7, 3) := by decide +kernel
theorem dX4_breaks_81 : decode cX4_breaks 81 = .ok (.iconst 1, 1) := by decide +kernel
theorem dX4_breaks_82 : decode cX4_breaks 82 = .ok (.goto 4, 3) := by decide +kernel
theorem dX4_breaks_85 : decode cX4_breaks 85 = .ok (.iconst 0, 1) := by decide +kernel
theorem dX4_breaks_86 : decode cX4_breaks 86 = .ok (.ireturn, 1) := by decide +kernel
theorem dX4_broken_0 : decode cX4_broken 0 = .ok (.aload_n 0, 1) := by decide +kernel
theorem dX4_broken_1 : decode cX4_broken 1 = .ok (.iconst 0, 1) := by decide +kernel
theorem dX4_broken_2 : decode cX4_broken 2 = .ok (.putfield 77, 3) := by decide +kernel
theorem dX4_broken_5 : decode cX4_broken 5 = .ok (.iconst 0, 1) := by decide +kernel
theorem dX4_broken_6 : decode cX4_broken 6 = .ok (.istore_n 2, 1) := by decide +kernel
theorem dX4_broken_7 : decode cX4_broken 7 = .ok (.iconst 0, 1) := by decide +kernel
theorem dX4_broken_8 : decode cX4_broken 8 = .ok (.istore_n 3, 1) := by decide +kernel
theorem dX4_broken_9 : decode cX4_broken 9 = .ok (.iload_n 3, 1) := by decide +kernel
theorem dX4_broken_10 : decode cX4_broken 10 = .ok (.aload_n 0, 1) := by decide +kernel
theorem dX4_broken_11 : decode cX4_broken 11 = .ok (.getfield 87, 3) := by decide +kernel
theorem dX4_broken_14 : decode cX4_broken 14 = .ok (.if_icmp .ge 24, 3) := by decide +kernel
theorem dX4_broken_17 : decode cX4_broken 17 = .ok (.aload_n 0, 1) := by decide +kernel
theorem dX4_broken_18 : decode cX4_broken 18 = .ok (.iload_n 3, 1) := by decide +kernel
theorem dX4_broken_19 : decode cX4_broken 19 = .ok (.iload_n 1, 1) := by decide +kernel
theorem dX4_broken_20 : decode cX4_broken 20 = .ok (.invokevirtual 165, 3) := by decide +kernel
theorem dX4_broken_23 : decode cX4_broken 23 = .ok (.ifCond .eq 9, 3) := by decide +kernel
theorem dX4_broken_26 : decode cX4_broken 26 = .ok (.iload_n 2, 1) := by decide +kernel
theorem dX4_broken_27 : decode cX4_broken 27 = .ok (.iconst 1, 1) := by decide +kernel
theorem dX4_broken_28 : decode cX4_broken 28 = .ok (.iload_n 3, 1) := by decide +kernel
theorem dX4_broken_29 : decode cX4_broken 29 = .ok (.ishl, 1) := by decide +kernel
theorem dX4_broken_30 : decode cX4_broken 30 = .ok (.ior, 1) := by decide +kernel
theorem dX4_broken_31 : decode cX4_broken 31 = .ok (.istore_n 2, 1) := by decide +kernel
theorem dX4_broken_32 : decode cX4_broken 32 = .ok (.iinc 3 1, 3) := by decide +kernel
theorem dX4_broken_35 : decode cX4_broken 35 = .ok (.goto (-26), 3) := by decide +kernel
theorem dX4_broken_38 : decode cX4_broken 38 = .ok (.iload_n 2, 1) := by decide +kernel
theorem dX4_broken_39 : decode cX4_broken 39 = .ok (.ireturn, 1) := by decide +kernel
theorem dX4_lacking_0 : decode cX4_lacking 0 = .ok (.aload_n 0, 1) := by decide +kernel
theorem dX4_lacking_1 : decode cX4_lacking 1 = .ok (.iconst 0, 1) := by decide +kernel
theorem dX4_lacking_2 : decode cX4_lacking 2 = .ok (.putfield 77, 3) := by decide +kernel
theorem dX4_lacking_5 : decode cX4_lacking 5 = .ok (.iconst 0, 1) := by decide +kernel
theorem dX4_lacking_6 : decode cX4_lacking 6 = .ok (.istore_n 1, 1) := by decide +kernel
theorem dX4_lacking_7 : decode cX4_lacking 7 = .ok (.iconst 0, 1) := by decide +kernel
theorem dX4_lacking_8 : decode cX4_lacking 8 = .ok (.istore_n 2, 1) := by decide +kernel
theorem dX4_lacking_9 : decode cX4_lacking 9 = .ok (.iload_n 2, 1) := by decide +kernel
theorem dX4_lacking_10 : decode cX4_lacking 10 = .ok (.aload_n 0, 1) := by decide +kernel
theorem dX4_lacking_11 : decode cX4_lacking 11 = .ok (.getfield 87, 3) := by decide +kernel
theorem dX4_lacking_14 : decode cX4_lacking 14 = .ok (.if_icmp .ge 28, 3) := by decide +kernel
theorem dX4_lacking_17 : decode cX4_lacking 17 = .ok (.aload_n 0, 1) := by decide +kernel
theorem dX4_lacking_18 : decode cX4_lacking 18 = .ok (.iload_n 2, 1) := by decide +kernel
theorem dX4_lacking_19 : decode cX4_lacking 19 = .ok (.invokevirtual 140, 3) := by decide +kernel
theorem dX4_lacking_22 : decode cX4_lacking 22 = .ok (.ifCond .eq 14, 3) := by decide +kernel
theorem dX4_lacking_25 : decode cX4_lacking 25 = .ok (.iload_n 1, 1) := by decide +kernel
theorem dX4_lacking_26 : decode cX4_lacking 26 = .ok (.iconst 1, 1) := by decide +kernel
theorem dX4_lacking_27 : decode cX4_lacking 27 = .ok (.aload_n 0, 1) := by decide +kernel
theorem dX4_lacking_28 : decode cX4_lacking 28 = .ok (.getfield 44, 3) := by decide +kernel
theorem dX4_lacking_31 : decode cX4_lacking 31 = .ok (.iload_n 2, 1) := by decide +kernel
theorem dX4_lacking_32 : decode cX4_lacking 32 = .ok (.iaload, 1) := by decide +kernel
theorem dX4_lacking_33 : decode cX4_lacking 33 = .ok (.ishl, 1) := by decide +kernel
theorem dX4_lacking_34 : decode cX4_lacking 34 = .ok (.ior, 1) := by decide +kernel
theorem dX4_lacking_35 : decode cX4_lacking 35 = .ok (.istore_n 1, 1) := by decide +kernel
theorem dX4_lacking_36 : decode cX4_lacking 36 = .ok (.iinc 2 1, 3) := by decide +kernel
theorem dX4_lacking_39 : decode cX4_lacking 39 = .ok (.goto (-30), 3) := by decide +kernel
theorem dX4_lacking_42 : decode cX4_lacking 42 = .ok (.iconst 0, 1) := by decide +kernel
theorem dX4_lacking_43 : decode cX4_lacking 43 = .ok (.istore_n 2, 1) := by decide +kernel
theorem dX4_lacking_44 : decode cX4_lacking 44 = .ok (.iload_n 2, 1) := by decide +kernel
theorem dX4_lacking_45 : decode cX4_lacking 45 = .ok (.aload_n 0, 1) := by decide +kernel
theorem dX4_lacking_46 : decode cX4_lacking 46 = .ok (.getfield 80, 3) := by decide +kernel
theorem dX4_lacking_49 : decode cX4_lacking 49 = .ok (.if_icmp .ge 20, 3) := by decide +kernel
theorem dX4_lacking_52 : decode cX4_lacking 52 = .ok (.iload_n 1, 1) := by decide +kernel
theorem dX4_lacking_53 : decode cX4_lacking 53 = .ok (.aload_n 0, 1) := by decide +kernel
theorem dX4_lacking_54 : decode cX4_lacking 54 = .ok (.getfield 23, 3) := by decide +kernel
theorem dX4_lacking_57 : decode cX4_lacking 57 = .ok (.iload_n 2, 1) := by decide +kernel
theorem dX4_lacking_58 : decode cX4_lacking 58 = .ok (.iaload, 1) := by decide +kernel
theorem dX4_lacking_59 : decode cX4_lacking 59 = .ok (.iconst (-1), 1) := by decide +kernel
theorem dX4_lacking_60 : decode cX4_lacking 60 = .ok (.ixor, 1) := by decide +kernel
theorem dX4_lacking_61 : decode cX4_lacking 61 = .ok (.iand, 1) := by decide +kernel
theorem dX4_lacking_62 : decode cX4_lacking 62 = .ok (.istore_n 1, 1) := by decide +kernel
theorem dX4_lacking_63 : decode cX4_lacking 63 = .ok (.iinc 2 1, 3) := by decide +kernel
theorem dX4_lacking_66 : decode cX4_lacking 66 = .ok (.goto (-22), 3) := by decide +kernel
theorem dX4_lacking_69 : decode cX4_lacking 69 = .ok (.iload_n 1, 1) := by decide +kernel
theorem dX4_lacking_70 : decode cX4_lacking 70 = .ok (.ireturn, 1) := by decide +kernel
theorem dX4_success_0 : decode cX4_success 0 = .ok (.aload_n 0, 1) := by decide +kernel
theorem dX4_success_1 : decode cX4_success 1 = .ok (.iconst 0, 1) := by decide +kernel
theorem dX4_success_2 : decode cX4_success 2 = .ok (.putfield 77, 3) := by decide +kernel
theorem dX4_success_5 : decode cX4_success 5 = .ok (.iconst 0, 1) := by decide +kernel
theorem dX4_success_6 : decode cX4_success 6 = .ok (.istore_n 1, 1) := by decide +kernel
theorem dX4_success_7 : decode cX4_success 7 = .ok (.iconst 0, 1) := by decide +kernel
theorem dX4_success_8 : decode cX4_success 8 = .ok (.istore_n 2, 1) := by decide +kernel
theorem dX4_success_9 : decode cX4_success 9 = .ok (.iconst 0, 1) := by decide +kernel
theorem dX4_success_10 : decode cX4_success 10 = .ok (.istore_n 3, 1) := by decide +kernel
theorem dX4_success_11 : decode cX4_success 11 = .ok (.iload_n 3, 1) := by decide +kernel
theorem dX4_success_12 : decode cX4_success 12 = .ok (.aload_n 0, 1) := by decide +kernel
theorem dX4_success_13 : decode cX4_success 13 = .ok (.getfield 87, 3) := by decide +kernel
theorem dX4_success_16 : decode cX4_success 16 = .ok (.if_icmp .ge 42, 3) := by decide +kernel
theorem dX4_success_19 : decode cX4_success 19 = .ok (.aload_n 0, 1) := by decide +kernel
theorem dX4_success_20 : decode cX4_success 20 = .ok (.getfield 56, 3) := by decide +kernel
theorem dX4_success_23 : decode cX4_success 23 = .ok (.iload_n 3, 1) := by decide +kernel
theorem dX4_success_24 : decode cX4_success 24 = .ok (.iaload, 1) := by decide +kernel
theorem dX4_success_25 : decode cX4_success 25 = .ok (.iconst 3, 1) := by decide +kernel
theorem dX4_success_26 : decode cX4_success 26 = .ok (.if_icmp .eq 6, 3) := by decide +kernel
theorem dX4_success_29 : decode cX4_success 29 = .ok (.goto 23, 3) := by decide +kernel
theorem dX4_success_32 : decode cX4_success 32 = .ok (.iinc 1 1, 3) := by decide +kernel
theorem dX4_success_35 : decode cX4_success 35 = .ok (.iload_n 2, 1) := by decide +kernel
theorem dX4_success_36 : decode cX4_success 36 = .ok (.aload_n 0, 1) := by decide +kernel
theorem dX4_success_37 : decode cX4_success 37 = .ok (.iload_n 3, 1) := by decide +kernel
theorem dX4_success_38 : decode cX4_success 38 = .ok (.iconst 0, 1) := by decide +kernel
theorem dX4_success_39 : decode cX4_success 39 = .ok (.invokevirtual 165, 3) := by decide +kernel
theorem dX4_success_42 : decode cX4_success 42 = .ok (.ifCond .eq 7, 3) := by decide +kernel
theorem dX4_success_45 : decode cX4_success 45 = .ok (.iconst 0, 1) := by decide +kernel
theorem dX4_success_46 : decode cX4_success 46 = .ok (.goto 4, 3) := by decide +kernel
theorem dX4_success_49 : decode cX4_success 49 = .ok (.iconst 1, 1) := by decide +kernel
theorem dX4_success_50 : decode cX4_success 50 = .ok (.iadd, 1) := by decide +kernel
theorem dX4_success_51 : decode cX4_success 51 = .ok (.istore_n 2, 1) := by decide +kernel
theorem dX4_success_52 : decode cX4_success 52 = .ok (.iinc 3 1, 3) := by decide +kernel
theorem dX4_success_55 : decode cX4_success 55 = .ok (.goto (-44), 3) := by decide +kernel
theorem dX4_success_58 : decode cX4_success 58 = .ok (.iload_n 1, 1) := by decide +kernel
theorem dX4_success_59 : decode cX4_success 59 = .ok (.ifCond .ne 7, 3) := by decide +kernel
theorem dX4_success_62 : decode cX4_success 62 = .ok (.dconst 1, 1) := by decide +kernel
theorem dX4_success_63 : decode cX4_success 63 = .ok (.goto 8, 3) := by decide +kernel
theorem dX4_success_66 : decode cX4_success 66 = .ok (.iload_n 2, 1) := by decide +kernel
theorem dX4_success_67 : decode cX4_success 67 = .ok (.i2d, 1) := by decide +kernel
theorem dX4_success_68 : decode cX4_success 68 = .ok (.iload_n 1, 1) := by decide +kernel
theorem dX4_success_69 : decode cX4_success 69 = .ok (.i2d, 1) := by decide +kernel
theorem dX4_success_70 : decode cX4_success 70 = .ok (.ddiv, 1) := by decide +kernel
theorem dX4_success_71 : decode cX4_success 71 = .ok (.dreturn, 1) := by decide +kernel
theorem dX4_digest_0 : decode cX4_digest 0 = .ok (.aload_n 0, 1) := by decide +kernel
theorem dX4_digest_1 : decode cX4_digest 1 = .ok (.iconst 0, 1) := by decide +kernel
theorem dX4_digest_2 : decode cX4_digest 2 = .ok (.putfield 77, 3) := by decide +kernel
theorem dX4_digest_5 : decode cX4_digest 5 = .ok (.ldc2_w 169, 3) := by decide +kernel
theorem dX4_digest_8 : decode cX4_digest 8 = .ok (.aload_n 0, 1) := by decide +kernel
theorem dX4_digest_9 : decode cX4_digest 9 = .ok (.getfield 94, 3) := by decide +kernel
theorem dX4_digest_12 : decode cX4_digest 12 = .ok (.i2l, 1) := by decide +kernel
theorem dX4_digest_13 : decode cX4_digest 13 = .ok (.ladd, 1) := by decide +kernel
theorem dX4_digest_14 : decode cX4_digest 14 = .ok (.ldc2_w 171, 3) := by decide +kernel
theorem dX4_digest_17 : decode cX4_digest 17 = .ok (.lmul, 1) := by decide +kernel
theorem dX4_digest_18 : decode cX4_digest 18 = .ok (.aload_n 0, 1) := by decide +kernel
theorem dX4_digest_19 : decode cX4_digest 19 = .ok (.getfield 7, 3) := by decide +kernel
theorem dX4_digest_22 : decode cX4_digest 22 = .ok (.i2l, 1) := by decide +kernel
theorem dX4_digest_23 : decode cX4_digest 23 = .ok (.ladd, 1) := by decide +kernel
theorem dX4_digest_24 : decode cX4_digest 24 = .ok (.ldc2_w 171, 3) := by decide +kernel
theorem dX4_digest_27 : decode cX4_digest 27 = .ok (.lmul, 1) := by decide +kernel
theorem dX4_digest_28 : decode cX4_digest 28 = .ok (.aload_n 0, 1) := by decide +kernel
theorem dX4_digest_29 : decode cX4_digest 29 = .ok (.getfield 13, 3) := by decide +kernel
theorem dX4_digest_32 : decode cX4_digest 32 = .ok (.i2l, 1) := by decide +kernel
theorem dX4_digest_33 : decode cX4_digest 33 = .ok (.ladd, 1) := by decide +kernel
theorem dX4_digest_34 : decode cX4_digest 34 = .ok (.lstore_n 1, 1) := by decide +kernel
theorem dX4_digest_35 : decode cX4_digest 35 = .ok (.iconst 0, 1) := by decide +kernel
theorem dX4_digest_36 : decode cX4_digest 36 = .ok (.istore_n 3, 1) := by decide +kernel
theorem dX4_digest_37 : decode cX4_digest 37 = .ok (.iload_n 3, 1) := by decide +kernel
theorem dX4_digest_38 : decode cX4_digest 38 = .ok (.iconst 4, 1) := by decide +kernel
theorem dX4_digest_39 : decode cX4_digest 39 = .ok (.if_icmp .ge 35, 3) := by decide +kernel
theorem dX4_digest_42 : decode cX4_digest 42 = .ok (.lload_n 1, 1) := by decide +kernel
theorem dX4_digest_43 : decode cX4_digest 43 = .ok (.ldc2_w 171, 3) := by decide +kernel
theorem dX4_digest_46 : decode cX4_digest 46 = .ok (.lmul, 1) := by decide +kernel
theorem dX4_digest_47 : decode cX4_digest 47 = .ok (.aload_n 0, 1) := by decide +kernel
theorem dX4_digest_48 : decode cX4_digest 48 = .ok (.getfield 16, 3) := by decide +kernel
theorem dX4_digest_51 : decode cX4_digest 51 = .ok (.iload_n 3, 1) := by decide +kernel
theorem dX4_digest_52 : decode cX4_digest 52 = .ok (.iaload, 1) := by decide +kernel
theorem dX4_digest_53 : decode cX4_digest 53 = .ok (.i2l, 1) := by decide +kernel
theorem dX4_digest_54 : decode cX4_digest 54 = .ok (.ladd, 1) := by decide +kernel
theorem dX4_digest_55 : decode cX4_digest 55 = .ok (.ldc2_w 171, 3) := by decide +kernel
theorem dX4_digest_58 : decode cX4_digest 58 = .ok (.lmul, 1) := by decide +kernel
theorem dX4_digest_59 : decode cX4_digest 59 = .ok (.aload_n 0, 1) := by decide +kernel
theorem dX4_digest_60 : decode cX4_digest 60 = .ok (.getfield 20, 3) := by decide +kernel
theorem dX4_digest_63 : decode cX4_digest 63 = .ok (.iload_n 3, 1) := by decide +kernel
theorem dX4_digest_64 : decode cX4_digest 64 = .ok (.iaload, 1) := by decide +kernel
theorem dX4_digest_65 : decode cX4_digest 65 = .ok (.i2l, 1) := by decide +kernel
theorem dX4_digest_66 : decode cX4_digest 66 = .ok (.ladd, 1) := by decide +kernel
theorem dX4_digest_67 : decode cX4_digest 67 = .ok (.lstore_n 1, 1) := by decide +kernel
theorem dX4_digest_68 : decode cX4_digest 68 = .ok (.iinc 3 1, 3) := by decide +kernel
theorem dX4_digest_71 : decode cX4_digest 71 = .ok (.goto (-34), 3) := by decide +kernel
theorem dX4_digest_74 : decode cX4_digest 74 = .ok (.lload_n 1, 1) := by decide +kernel
theorem dX4_digest_75 : decode cX4_digest 75 = .ok (.ldc2_w 171, 3) := by decide +kernel
theorem dX4_digest_78 : decode cX4_digest 78 = .ok (.lmul, 1) := by decide +kernel
theorem dX4_digest_79 : decode cX4_digest 79 = .ok (.aload_n 0, 1) := by decide +kernel
theorem dX4_digest_80 : decode cX4_digest 80 = .ok (.getfield 80, 3) := by decide +kernel
theorem dX4_digest_83 : decode cX4_digest 83 = .ok (.i2l, 1) := by decide +kernel
theorem dX4_digest_84 : decode cX4_digest 84 = .ok (.ladd, 1) := by decide +kernel
theorem dX4_digest_85 : decode cX4_digest 85 = .ok (.lstore_n 1, 1) := by decide +kernel
theorem dX4_digest_86 : decode cX4_digest 86 = .ok (.iconst 0, 1) := by decide +kernel
theorem dX4_digest_87 : decode cX4_digest 87 = .ok (.istore_n 3, 1) := by decide +kernel
theorem dX4_digest_88 : decode cX4_digest 88 = .ok (.iload_n 3, 1) := by decide +kernel
theorem dX4_digest_89 : decode cX4_digest 89 = .ok (.aload_n 0, 1) := by decide +kernel
theorem dX4_digest_90 : decode cX4_digest 90 = .ok (.getfield 80, 3) := by decide +kernel
theorem dX4_digest_93 : decode cX4_digest 93 = .ok (.if_icmp .ge 53, 3) := by decide +kernel
theorem dX4_digest_96 : decode cX4_digest 96 = .ok (.lload_n 1, 1) := by decide +kernel
theorem dX4_digest_97 : decode cX4_digest 97 = .ok (.ldc2_w 171, 3) := by decide +kernel
theorem dX4_digest_100 : decode cX4_digest 100 = .ok (.lmul, 1) := by decide +kernel
theorem dX4_digest_101 : decode cX4_digest 101 = .ok (.aload_n 0, 1) := by decide +kernel
theorem dX4_digest_102 : decode cX4_digest 102 = .ok (.getfield 23, 3) := by decide +kernel
theorem dX4_digest_105 : decode cX4_digest 105 = .ok (.iload_n 3, 1) := by decide +kernel
theorem dX4_digest_106 : decode cX4_digest 106 = .ok (.iaload, 1) := by decide +kernel
theorem dX4_digest_107 : decode cX4_digest 107 = .ok (.i2l, 1) := by decide +kernel
theorem dX4_digest_108 : decode cX4_digest 108 = .ok (.ladd, 1) := by decide +kernel
theorem dX4_digest_109 : decode cX4_digest 109 = .ok (.lstore_n 1, 1) := by decide +kernel
theorem dX4_digest_110 : decode cX4_digest 110 = .ok (.iconst 0, 1) := by decide +kernel
theorem dX4_digest_111 : decode cX4_digest 111 = .ok (.istore 4, 2) := by decide +kernel
theorem dX4_digest_113 : decode cX4_digest 113 = .ok (.iload 4, 2) := by decide +kernel
theorem dX4_digest_115 : decode cX4_digest 115 = .ok (.iconst 4, 1) := by decide +kernel
theorem dX4_digest_116 : decode cX4_digest 116 = .ok (.if_icmp .ge 24, 3) := by decide +kernel
theorem dX4_digest_119 : decode cX4_digest 119 = .ok (.lload_n 1, 1) := by decide +kernel
theorem dX4_digest_120 : decode cX4_digest 120 = .ok (.ldc2_w 171, 3) := by decide +kernel
theorem dX4_digest_123 : decode cX4_digest 123 = .ok (.lmul, 1) := by decide +kernel
theorem dX4_digest_124 : decode cX4_digest 124 = .ok (.aload_n 0, 1) := by decide +kernel
theorem dX4_digest_125 : decode cX4_digest 125 = .ok (.iload_n 3, 1) := by decide +kernel
theorem dX4_digest_126 : decode cX4_digest 126 = .ok (.iload 4, 2) := by decide +kernel
theorem dX4_digest_128 : decode cX4_digest 128 = .ok (.invokevirtual 125, 3) := by decide +kernel
theorem dX4_digest_131 : decode cX4_digest 131 = .ok (.i2l, 1) := by decide +kernel
theorem dX4_digest_132 : decode cX4_digest 132 = .ok (.ladd, 1) := by decide +kernel
theorem dX4_digest_133 : decode cX4_digest 133 = .ok (.lstore_n 1, 1) := by decide +kernel
theorem dX4_digest_134 : decode cX4_digest 134 = .ok (.iinc 4 1, 3) := by decide +kernel
theorem dX4_digest_137 : decode cX4_digest 137 = .ok (.goto (-24), 3) := by decide +kernel
theorem dX4_digest_140 : decode cX4_digest 140 = .ok (.iinc 3 1, 3) := by decide +kernel
theorem dX4_digest_143 : decode cX4_digest 143 = .ok (.goto (-55), 3) := by decide +kernel
theorem dX4_digest_146 : decode cX4_digest 146 = .ok (.lload_n 1, 1) := by decide +kernel
theorem dX4_digest_147 : decode cX4_digest 147 = .ok (.ldc2_w 171, 3) := by decide +kernel
theorem dX4_digest_150 : decode cX4_digest 150 = .ok (.lmul, 1) := by decide +kernel
theorem dX4_digest_151 : decode cX4_digest 151 = .ok (.aload_n 0, 1) := by decide +kernel
theorem dX4_digest_152 : decode cX4_digest 152 = .ok (.getfield 87, 3) := by decide +kernel
theorem dX4_digest_155 : decode cX4_digest 155 = .ok (.i2l, 1) := by decide +kernel
theorem dX4_digest_156 : decode cX4_digest 156 = .ok (.ladd, 1) := by decide +kernel
theorem dX4_digest_157 : decode cX4_digest 157 = .ok (.lstore_n 1, 1) := by decide +kernel
theorem dX4_digest_158 : decode cX4_digest 158 = .ok (.iconst 0, 1) := by decide +kernel
theorem dX4_digest_159 : decode cX4_digest 159 = .ok (.istore_n 3, 1) := by decide +kernel
theorem dX4_digest_160 : decode cX4_digest 160 = .ok (.iload_n 3, 1) := by decide +kernel
theorem dX4_digest_161 : decode cX4_digest 161 = .ok (.aload_n 0, 1) := by decide +kernel
theorem dX4_digest_162 : decode cX4_digest 162 = .ok (.getfield 87, 3) := by decide +kernel
theorem dX4_digest_165 : decode cX4_digest 165 = .ok (.if_icmp .ge 78, 3) := by decide +kernel
theorem dX4_digest_168 : decode cX4_digest 168 = .ok (.lload_n 1, 1) := by decide +kernel
theorem dX4_digest_169 : decode cX4_digest 169 = .ok (.ldc2_w 171, 3) := by decide +kernel
theorem dX4_digest_172 : decode cX4_digest 172 = .ok (.lmul, 1) := by decide +kernel
theorem dX4_digest_173 : decode cX4_digest 173 = .ok (.aload_n 0, 1) := by decide +kernel
theorem dX4_digest_174 : decode cX4_digest 174 = .ok (.getfield 44, 3) := by decide +kernel
theorem dX4_digest_177 : decode cX4_digest 177 = .ok (.iload_n 3, 1) := by decide +kernel
theorem dX4_digest_178 : decode cX4_digest 178 = .ok (.iaload, 1) := by decide +kernel
theorem dX4_digest_179 : decode cX4_digest 179 = .ok (.i2l, 1) := by decide +kernel
theorem dX4_digest_180 : decode cX4_digest 180 = .ok (.ladd, 1) := by decide +kernel
theorem dX4_digest_181 : decode cX4_digest 181 = .ok (.lstore_n 1, 1) := by decide +kernel
theorem dX4_digest_182 : decode cX4_digest 182 = .ok (.iconst 0, 1) := by decide +kernel
theorem dX4_digest_183 : decode cX4_digest 183 = .ok (.istore 4, 2) := by decide +kernel
theorem dX4_digest_185 : decode cX4_digest 185 = .ok (.iload 4, 2) := by decide +kernel
theorem dX4_digest_187 : decode cX4_digest 187 = .ok (.bipush 8, 2) := by decide +kernel
theorem dX4_digest_189 : decode cX4_digest 189 = .ok (.if_icmp .ge 24, 3) := by decide +kernel
theorem dX4_digest_192 : decode cX4_digest 192 = .ok (.lload_n 1, 1) := by decide +kernel
theorem dX4_digest_193 : decode cX4_digest 193 = .ok (.ldc2_w 171, 3) := by decide +kernel
theorem dX4_digest_196 : decode cX4_digest 196 = .ok (.lmul, 1) := by decide +kernel
theorem dX4_digest_197 : decode cX4_digest 197 = .ok (.aload_n 0, 1) := by decide +kernel
theorem dX4_digest_198 : decode cX4_digest 198 = .ok (.iload_n 3, 1) := by decide +kernel
theorem dX4_digest_199 : decode cX4_digest 199 = .ok (.iload 4, 2) := by decide +kernel
theorem dX4_digest_201 : decode cX4_digest 201 = .ok (.invokevirtual 149, 3) := by decide +kernel
theorem dX4_digest_204 : decode cX4_digest 204 = .ok (.i2l, 1) := by decide +kernel
theorem dX4_digest_205 : decode cX4_digest 205 = .ok (.ladd, 1) := by decide +kernel
theorem dX4_digest_206 : decode cX4_digest 206 = .ok (.lstore_n 1, 1) := by decide +kernel
theorem dX4_digest_207 : decode cX4_digest 207 = .ok (.iinc 4 1, 3) := by decide +kernel
theorem dX4_digest_210 : decode cX4_digest 210 = .ok (.goto (-25), 3) := by decide +kernel
theorem dX4_digest_213 : decode cX4_digest 213 = .ok (.lload_n 1, 1) := by decide +kernel
theorem dX4_digest_214 : decode cX4_digest 214 = .ok (.ldc2_w 171, 3) := by decide +kernel
theorem dX4_digest_217 : decode cX4_digest 217 = .ok (.lmul, 1) := by decide +kernel
theorem dX4_digest_218 : decode cX4_digest 218 = .ok (.aload_n 0, 1) := by decide +kernel
theorem dX4_digest_219 : decode cX4_digest 219 = .ok (.iload_n 3, 1) := by decide +kernel
theorem dX4_digest_220 : decode cX4_digest 220 = .ok (.invokevirtual 155, 3) := by decide +kernel
theorem dX4_digest_223 : decode cX4_digest 223 = .ok (.i2l, 1) := by decide +kernel
theorem dX4_digest_224 : decode cX4_digest 224 = .ok (.ladd, 1) := by decide +kernel
theorem dX4_digest_225 : decode cX4_digest 225 = .ok (.ldc2_w 171, 3) := by decide +kernel
theorem dX4_digest_228 : decode cX4_digest 228 = .ok (.lmul, 1) := by decide +kernel
theorem dX4_digest_229 : decode cX4_digest 229 = .ok (.aload_n 0, 1) := by decide +kernel
theorem dX4_digest_230 : decode cX4_digest 230 = .ok (.iload_n 3, 1) := by decide +kernel
theorem dX4_digest_231 : decode cX4_digest 231 = .ok (.invokevirtual 143, 3) := by decide +kernel
theorem dX4_digest_234 : decode cX4_digest 234 = .ok (.i2l, 1) := by decide +kernel
theorem dX4_digest_235 : decode cX4_digest 235 = .ok (.ladd, 1) := by decide +kernel
theorem dX4_digest_236 : decode cX4_digest 236 = .ok (.lstore_n 1, 1) := by decide +kernel
theorem dX4_digest_237 : decode cX4_digest 237 = .ok (.iinc 3 1, 3) := by decide +kernel
theorem dX4_digest_240 : decode cX4_digest 240 = .ok (.goto (-80), 3) := by decide +kernel
theorem dX4_digest_243 : decode cX4_digest 243 = .ok (.lload_n 1, 1) := by decide +kernel
theorem dX4_digest_244 : decode cX4_digest 244 = .ok (.lreturn, 1) := by decide +kernel
end
section
theorem dL_setHours_0 : decode cL_setHours 0 = .ok (.aload_n 3, 1) := by decide +kernel
theorem dL_setHours_1 : decode cL_setHours 1 = .ok (.iconst 0, 1) := by decide +kernel
theorem dL_setHours_2 : decode cL_setHours 2 = .ok (.aload_n 0, 1) := by decide +kernel
theorem dL_setHours_3 : decode cL_setHours 3 = .ok (.iload_n 1, 1) := by decide +kernel
theorem dL_setHours_4 : decode cL_setHours 4 = .ok (.iload_n 2, 1) := by decide +kernel
theorem dL_setHours_5 : decode cL_setHours 5 = .ok (.invokevirtual 7, 3) := by decide +kernel
theorem dL_setHours_8 : decode cL_setHours 8 = .ok (.ifCond .eq 7, 3) := by decide +kernel
theorem dL_setHours_11 : decode cL_setHours 11 = .ok (.lconst 1, 1) := by decide +kernel
theorem dL_setHours_12 : decode cL_setHours 12 = .ok (.goto 4, 3) := by decide +kernel
theorem dL_setHours_15 : decode cL_setHours 15 = .ok (.lconst 0, 1) := by decide +kernel
theorem dL_setHours_16 : decode cL_setHours 16 = .ok (.lastore, 1) := by decide +kernel
theorem dL_setHours_17 : decode cL_setHours 17 = .ok (.goto 7, 3) := by decide +kernel
theorem dL_setHours_20 : decode cL_setHours 20 = .ok (.astore 4, 2) := by decide +kernel
theorem dL_setHours_22 : decode cL_setHours 22 = .ok (.iconst 1, 1) := by decide +kernel
theorem dL_setHours_23 : decode cL_setHours 23 = .ok (.ireturn, 1) := by decide +kernel
theorem dL_setHours_24 : decode cL_setHours 24 = .ok (.iconst 0, 1) := by decide +kernel
theorem dL_setHours_25 : decode cL_setHours 25 = .ok (.ireturn, 1) := by decide +kernel
theorem dL_setTargets_0 : decode cL_setTargets 0 = .ok (.aload 4, 2) := by decide +kernel
theorem dL_setTargets_2 : decode cL_setTargets 2 = .ok (.iconst 0, 1) := by decide +kernel
theorem dL_setTargets_3 : decode cL_setTargets 3 = .ok (.aload_n 0, 1) := by decide +kernel
theorem dL_setTargets_4 : decode cL_setTargets 4 = .ok (.iload_n 1, 1) := by decide +kernel
theorem dL_setTargets_5 : decode cL_setTargets 5 = .ok (.iload_n 2, 1) := by decide +kernel
theorem dL_setTargets_6 : decode cL_setTargets 6 = .ok (.iload_n 3, 1) := by decide +kernel
theorem dL_setTargets_7 : decode cL_setTargets 7 = .ok (.invokevirtual 15, 3) := by decide +kernel
theorem dL_setTargets_10 : decode cL_setTargets 10 = .ok (.i2l, 1) := by decide +kernel
theorem dL_setTargets_11 : decode cL_setTargets 11 = .ok (.lastore, 1) := by decide +kernel
theorem dL_setTargets_12 : decode cL_setTargets 12 = .ok (.goto 11, 3) := by decide +kernel
theorem dL_setTargets_15 : decode cL_setTargets 15 = .ok (.astore 5, 2) := by decide +kernel
theorem dL_setTargets_17 : decode cL_setTargets 17 = .ok (.iconst 1, 1) := by decide +kernel
theorem dL_setTargets_18 : decode cL_setTargets 18 = .ok (.ireturn, 1) := by decide +kernel
theorem dL_setTargets_19 : decode cL_setTargets 19 = .ok (.astore 5, 2) := by decide +kernel
theorem dL_setTargets_21 : decode cL_setTargets 21 = .ok (.iconst 2, 1) := by decide +kernel
theorem dL_setTargets_22 : decode cL_setTargets 22 = .ok (.ireturn, 1) := by decide +kernel
theorem dL_setTargets_23 : decode cL_setTargets 23 = .ok (.iconst 0, 1) := by decide +kernel
theorem dL_setTargets_24 : decode cL_setTargets 24 = .ok (.ireturn, 1) := by decide +kernel
theorem dL_service_0 : decode cL_service 0 = .ok (.aload_n 3, 1) := by decide +kernel
theorem dL_service_1 : decode cL_service 1 = .ok (.iconst 0, 1) := by decide +kernel
theorem dL_service_2 : decode cL_service 2 = .ok (.aload_n 0, 1) := by decide +kernel
theorem dL_service_3 : decode cL_service 3 = .ok (.iload_n 1, 1) := by decide +kernel
theorem dL_service_4 : decode cL_service 4 = .ok (.iload_n 2, 1) := by decide +kernel
theorem dL_service_5 : decode cL_service 5 = .ok (.invokevirtual 21, 3) := by decide +kernel
theorem dL_service_8 : decode cL_service 8 = .ok (.i2l, 1) := by decide +kernel
theorem dL_service_9 : decode cL_service 9 = .ok (.lastore, 1) := by decide +kernel
theorem dL_service_10 : decode cL_service 10 = .ok (.goto 7, 3) := by decide +kernel
theorem dL_service_13 : decode cL_service 13 = .ok (.astore 4, 2) := by decide +kernel
theorem dL_service_15 : decode cL_service 15 = .ok (.iconst 1, 1) := by decide +kernel
theorem dL_service_16 : decode cL_service 16 = .ok (.ireturn, 1) := by decide +kernel
theorem dL_service_17 : decode cL_service 17 = .ok (.iconst 0, 1) := by decide +kernel
theorem dL_service_18 : decode cL_service 18 = .ok (.ireturn, 1) := by decide +kernel
theorem dL_addAgent_0 : decode cL_addAgent 0 = .ok (.aload 5, 2) := by decide +kernel
theorem dL_addAgent_2 : decode cL_addAgent 2 = .ok (.iconst 0, 1) := by decide +kernel
theorem dL_addAgent_3 : decode cL_addAgent 3 = .ok (.aload_n 0, 1) := by decide +kernel
theorem dL_addAgent_4 : decode cL_addAgent 4 = .ok (.iload_n 1, 1) := by decide +kernel
theorem dL_addAgent_5 : decode cL_addAgent 5 = .ok (.iload_n 2, 1) := by decide +kernel
theorem dL_addAgent_6 : decode cL_addAgent 6 = .ok (.iload_n 3, 1) := by decide +kernel
theorem dL_addAgent_7 : decode cL_addAgent 7 = .ok (.iload 4, 2) := by decide +kernel
theorem dL_addAgent_9 : decode cL_addAgent 9 = .ok (.invokevirtual 25, 3) := by decide +kernel
theorem dL_addAgent_12 : decode cL_addAgent 12 = .ok (.i2l, 1) := by decide +kernel
theorem dL_addAgent_13 : decode cL_addAgent 13 = .ok (.lastore, 1) := by decide +kernel
theorem dL_addAgent_14 : decode cL_addAgent 14 = .ok (.goto 11, 3) := by decide +kernel
theorem dL_addAgent_17 : decode cL_addAgent 17 = .ok (.astore 6, 2) := by decide +kernel
theorem dL_addAgent_19 : decode cL_addAgent 19 = .ok (.iconst 1, 1) := by decide +kernel
theorem dL_addAgent_20 : decode cL_addAgent 20 = .ok (.ireturn, 1) := by decide +kernel
theorem dL_addAgent_21 : decode cL_addAgent 21 = .ok (.astore 6, 2) := by decide +kernel
theorem dL_addAgent_23 : decode cL_addAgent 23 = .ok (.iconst 2, 1) := by decide +kernel
theorem dL_addAgent_24 : decode cL_addAgent 24 = .ok (.ireturn, 1) := by decide +kernel
theorem dL_addAgent_25 : decode cL_addAgent 25 = .ok (.iconst 0, 1) := by decide +kernel
theorem dL_addAgent_26 : decode cL_addAgent 26 = .ok (.ireturn, 1) := by decide +kernel
theorem dL_setSkills_0 : decode cL_setSkills 0 = .ok (.aload_n 3, 1) := by decide +kernel
theorem dL_setSkills_1 : decode cL_setSkills 1 = .ok (.iconst 0, 1) := by decide +kernel
theorem dL_setSkills_2 : decode cL_setSkills 2 = .ok (.aload_n 0, 1) := by decide +kernel
theorem dL_setSkills_3 : decode cL_setSkills 3 = .ok (.iload_n 1, 1) := by decide +kernel
theorem dL_setSkills_4 : decode cL_setSkills 4 = .ok (.iload_n 2, 1) := by decide +kernel
theorem dL_setSkills_5 : decode cL_setSkills 5 = .ok (.invokevirtual 31, 3) := by decide +kernel
theorem dL_setSkills_8 : decode cL_setSkills 8 = .ok (.i2l, 1) := by decide +kernel
theorem dL_setSkills_9 : decode cL_setSkills 9 = .ok (.lastore, 1) := by decide +kernel
theorem dL_setSkills_10 : decode cL_setSkills 10 = .ok (.goto 11, 3) := by decide +kernel
theorem dL_setSkills_13 : decode cL_setSkills 13 = .ok (.astore 4, 2) := by decide +kernel
theorem dL_setSkills_15 : decode cL_setSkills 15 = .ok (.iconst 1, 1) := by decide +kernel
theorem dL_setSkills_16 : decode cL_setSkills 16 = .ok (.ireturn, 1) := by decide +kernel
theorem dL_setSkills_17 : decode cL_setSkills 17 = .ok (.astore 4, 2) := by decide +kernel
theorem dL_setSkills_19 : decode cL_setSkills 19 = .ok (.iconst 2, 1) := by decide +kernel
theorem dL_setSkills_20 : decode cL_setSkills 20 = .ok (.ireturn, 1) := by decide +kernel
theorem dL_setSkills_21 : decode cL_setSkills 21 = .ok (.iconst 0, 1) := by decide +kernel
theorem dL_setSkills_22 : decode cL_setSkills 22 = .ok (.ireturn, 1) := by decide +kernel
theorem dL_agent_0 : decode cL_agent 0 = .ok (.aload_n 3, 1) := by decide +kernel
theorem dL_agent_1 : decode cL_agent 1 = .ok (.iconst 0, 1) := by decide +kernel
theorem dL_agent_2 : decode cL_agent 2 = .ok (.aload_n 0, 1) := by decide +kernel
theorem dL_agent_3 : decode cL_agent 3 = .ok (.iload_n 1, 1) := by decide +kernel
theorem dL_agent_4 : decode cL_agent 4 = .ok (.iload_n 2, 1) := by decide +kernel
theorem dL_agent_5 : decode cL_agent 5 = .ok (.invokevirtual 34, 3) := by decide +kernel
theorem dL_agent_8 : decode cL_agent 8 = .ok (.i2l, 1) := by decide +kernel
theorem dL_agent_9 : decode cL_agent 9 = .ok (.lastore, 1) := by decide +kernel
theorem dL_agent_10 : decode cL_agent 10 = .ok (.goto 7, 3) := by decide +kernel
theorem dL_agent_13 : decode cL_agent 13 = .ok (.astore 4, 2) := by decide +kernel
theorem dL_agent_15 : decode cL_agent 15 = .ok (.iconst 1, 1) := by decide +kernel
theorem dL_agent_16 : decode cL_agent 16 = .ok (.ireturn, 1) := by decide +kernel
theorem dL_agent_17 : decode cL_agent 17 = .ok (.iconst 0, 1) := by decide +kernel
theorem dL_agent_18 : decode cL_agent 18 = .ok (.ireturn, 1) := by decide +kernel
theorem dL_next_0 : decode cL_next 0 = .ok (.aload_n 2, 1) := by decide +kernel
theorem dL_next_1 : decode cL_next 1 = .ok (.iconst 0, 1) := by decide +kernel
theorem dL_next_2 : decode cL_next 2 = .ok (.aload_n 0, 1) := by decide +kernel
theorem dL_next_3 : decode cL_next 3 = .ok (.iload_n 1, 1) := by decide +kernel
theorem dL_next_4 : decode cL_next 4 = .ok (.invokevirtual 37, 3) := by decide +kernel
theorem dL_next_7 : decode cL_next 7 = .ok (.i2l, 1) := by decide +kernel
theorem dL_next_8 : decode cL_next 8 = .ok (.lastore, 1) := by decide +kernel
theorem dL_next_9 : decode cL_next 9 = .ok (.goto 6, 3) := by decide +kernel
theorem dL_next_12 : decode cL_next 12 = .ok (.astore_n 3, 1) := by decide +kernel
theorem dL_next_13 : decode cL_next 13 = .ok (.iconst 1, 1) := by decide +kernel
theorem dL_next_14 : decode cL_next 14 = .ok (.ireturn, 1) := by decide +kernel
theorem dL_next_15 : decode cL_next 15 = .ok (.iconst 0, 1) := by decide +kernel
theorem dL_next_16 : decode cL_next 16 = .ok (.ireturn, 1) := by decide +kernel
theorem dL_open_0 : decode cL_open 0 = .ok (.aload 5, 2) := by decide +kernel
theorem dL_open_2 : decode cL_open 2 = .ok (.iconst 0, 1) := by decide +kernel
theorem dL_open_3 : decode cL_open 3 = .ok (.aload_n 0, 1) := by decide +kernel
theorem dL_open_4 : decode cL_open 4 = .ok (.iload_n 1, 1) := by decide +kernel
theorem dL_open_5 : decode cL_open 5 = .ok (.iload_n 2, 1) := by decide +kernel
theorem dL_open_6 : decode cL_open 6 = .ok (.iload_n 3, 1) := by decide +kernel
theorem dL_open_7 : decode cL_open 7 = .ok (.iload 4, 2) := by decide +kernel
theorem dL_open_9 : decode cL_open 9 = .ok (.invokevirtual 41, 3) := by decide +kernel
theorem dL_open_12 : decode cL_open 12 = .ok (.i2l, 1) := by decide +kernel
theorem dL_open_13 : decode cL_open 13 = .ok (.lastore, 1) := by decide +kernel
theorem dL_open_14 : decode cL_open 14 = .ok (.goto 11, 3) := by decide +kernel
theorem dL_open_17 : decode cL_open 17 = .ok (.astore 6, 2) := by decide +kernel
theorem dL_open_19 : decode cL_open 19 = .ok (.iconst 1, 1) := by decide +kernel
theorem dL_open_20 : decode cL_open 20 = .ok (.ireturn, 1) := by decide +kernel
theorem dL_open_21 : decode cL_open 21 = .ok (.astore 6, 2) := by decide +kernel
theorem dL_open_23 : decode cL_open 23 = .ok (.iconst 2, 1) := by decide +kernel
theorem dL_open_24 : decode cL_open 24 = .ok (.ireturn, 1) := by decide +kernel
theorem dL_open_25 : decode cL_open 25 = .ok (.iconst 0, 1) := by decide +kernel
theorem dL_open_26 : decode cL_open 26 = .ok (.ireturn, 1) := by decide +kernel
theorem dL_setPriority_0 : decode cL_setPriority 0 = .ok (.aload_n 3, 1) := by decide +kernel
theorem dL_setPriority_1 : decode cL_setPriority 1 = .ok (.iconst 0, 1) := by decide +kernel
theorem dL_setPriority_2 : decode cL_setPriority 2 = .ok (.aload_n 0, 1) := by decide +kernel
theorem dL_setPriority_3 : decode cL_setPriority 3 = .ok (.iload_n 1, 1) := by decide +kernel
theorem dL_setPriority_4 : decode cL_setPriority 4 = .ok (.iload_n 2, 1) := by decide +kernel
theorem dL_setPriority_5 : decode cL_setPriority 5 = .ok (.invokevirtual 44, 3) := by decide +kernel
theorem dL_setPriority_8 : decode cL_setPriority 8 = .ok (.i2l, 1) := by decide +kernel
theorem dL_setPriority_9 : decode cL_setPriority 9 = .ok (.lastore, 1) := by decide +kernel
theorem dL_setPriority_10 : decode cL_setPriority 10 = .ok (.goto 15, 3) := by decide +kernel
theorem dL_setPriority_13 : decode cL_setPriority 13 = .ok (.astore 4, 2) := by decide +kernel
theorem dL_setPriority_15 : decode cL_setPriority 15 = .ok (.iconst 1, 1) := by decide +kernel
theorem dL_setPriority_16 : decode cL_setPriority 16 = .ok (.ireturn, 1) := by decide +kernel
theorem dL_setPriority_17 : decode cL_setPriority 17 = .ok (.astore 4, 2) := by decide +kernel
theorem dL_setPriority_19 : decode cL_setPriority 19 = .ok (.iconst 2, 1) := by decide +kernel
theorem dL_setPriority_20 : decode cL_setPriority 20 = .ok (.ireturn, 1) := by decide +kernel
theorem dL_setPriority_21 : decode cL_setPriority 21 = .ok (.astore 4, 2) := by decide +kernel
theorem dL_setPriority_23 : decode cL_setPriority 23 = .ok (.iconst 3, 1) := by decide +kernel
theorem dL_setPriority_24 : decode cL_setPriority 24 = .ok (.ireturn, 1) := by decide +kernel
theorem dL_setPriority_25 : decode cL_setPriority 25 = .ok (.iconst 0, 1) := by decide +kernel
theorem dL_setPriority_26 : decode cL_setPriority 26 = .ok (.ireturn, 1) := by decide +kernel
theorem dL_pause_0 : decode cL_pause 0 = .ok (.aload_n 2, 1) := by decide +kernel
theorem dL_pause_1 : decode cL_pause 1 = .ok (.iconst 0, 1) := by decide +kernel
theorem dL_pause_2 : decode cL_pause 2 = .ok (.aload_n 0, 1) := by decide +kernel
theorem dL_pause_3 : decode cL_pause 3 = .ok (.iload_n 1, 1) := by decide +kernel
theorem dL_pause_4 : decode cL_pause 4 = .ok (.invokevirtual 47, 3) := by decide +kernel
theorem dL_pause_7 : decode cL_pause 7 = .ok (.i2l, 1) := by decide +kernel
theorem dL_pause_8 : decode cL_pause 8 = .ok (.lastore, 1) := by decide +kernel
theorem dL_pause_9 : decode cL_pause 9 = .ok (.goto 9, 3) := by decide +kernel
theorem dL_pause_12 : decode cL_pause 12 = .ok (.astore_n 3, 1) := by decide +kernel
theorem dL_pause_13 : decode cL_pause 13 = .ok (.iconst 1, 1) := by decide +kernel
theorem dL_pause_14 : decode cL_pause 14 = .ok (.ireturn, 1) := by decide +kernel
theorem dL_pause_15 : decode cL_pause 15 = .ok (.astore_n 3, 1) := by decide +kernel
theorem dL_pause_16 : decode cL_pause 16 = .ok (.iconst 2, 1) := by decide +kernel
theorem dL_pause_17 : decode cL_pause 17 = .ok (.ireturn, 1) := by decide +kernel
theorem dL_pause_18 : decode cL_pause 18 = .ok (.iconst 0, 1) := by decide +kernel
theorem dL_pause_19 : decode cL_pause 19 = .ok (.ireturn, 1) := by decide +kernel
theorem dL_resume_0 : decode cL_resume 0 = .ok (.aload_n 2, 1) := by decide +kernel
theorem dL_resume_1 : decode cL_resume 1 = .ok (.iconst 0, 1) := by decide +kernel
theorem dL_resume_2 : decode cL_resume 2 = .ok (.aload_n 0, 1) := by decide +kernel
theorem dL_resume_3 : decode cL_resume 3 = .ok (.iload_n 1, 1) := by decide +kernel
theorem dL_resume_4 : decode cL_resume 4 = .ok (.invokevirtual 50, 3) := by decide +kernel
theorem dL_resume_7 : decode cL_resume 7 = .ok (.i2l, 1) := by decide +kernel
theorem dL_resume_8 : decode cL_resume 8 = .ok (.lastore, 1) := by decide +kernel
theorem dL_resume_9 : decode cL_resume 9 = .ok (.goto 9, 3) := by decide +kernel
theorem dL_resume_12 : decode cL_resume 12 = .ok (.astore_n 3, 1) := by decide +kernel
theorem dL_resume_13 : decode cL_resume 13 = .ok (.iconst 1, 1) := by decide +kernel
theorem dL_resume_14 : decode cL_resume 14 = .ok (.ireturn, 1) := by decide +kernel
theorem dL_resume_15 : decode cL_resume 15 = .ok (.astore_n 3, 1) := by decide +kernel
theorem dL_resume_16 : decode cL_resume 16 = .ok (.iconst 2, 1) := by decide +kernel
theorem dL_resume_17 : decode cL_resume 17 = .ok (.ireturn, 1) := by decide +kernel
theorem dL_resume_18 : decode cL_resume 18 = .ok (.iconst 0, 1) := by decide +kernel
theorem dL_resume_19 : decode cL_resume 19 = .ok (.ireturn, 1) := by decide +kernel
theorem dL_merge_0 : decode cL_merge 0 = .ok (.aload_n 3, 1) := by decide +kernel
theorem dL_merge_1 : decode cL_merge 1 = .ok (.iconst 0, 1) := by decide +kernel
theorem dL_merge_2 : decode cL_merge 2 = .ok (.aload_n 0, 1) := by decide +kernel
theorem dL_merge_3 : decode cL_merge 3 = .ok (.iload_n 1, 1) := by decide +kernel
theorem dL_merge_4 : decode cL_merge 4 = .ok (.iload_n 2, 1) := by decide +kernel
theorem dL_merge_5 : decode cL_merge 5 = .ok (.invokevirtual 53, 3) := by decide +kernel
theorem dL_merge_8 : decode cL_merge 8 = .ok (.i2l, 1) := by decide +kernel
theorem dL_merge_9 : decode cL_merge 9 = .ok (.lastore, 1) := by decide +kernel
theorem dL_merge_10 : decode cL_merge 10 = .ok (.goto 15, 3) := by decide +kernel
theorem dL_merge_13 : decode cL_merge 13 = .ok (.astore 4, 2) := by decide +kernel
theorem dL_merge_15 : decode cL_merge 15 = .ok (.iconst 1, 1) := by decide +kernel
theorem dL_merge_16 : decode cL_merge 16 = .ok (.ireturn, 1) := by decide +kernel
theorem dL_merge_17 : decode cL_merge 17 = .ok (.astore 4, 2) := by decide +kernel
theorem dL_merge_19 : decode cL_merge 19 = .ok (.iconst 2, 1) := by decide +kernel
theorem dL_merge_20 : decode cL_merge 20 = .ok (.ireturn, 1) := by decide +kernel
theorem dL_merge_21 : decode cL_merge 21 = .ok (.astore 4, 2) := by decide +kernel
theorem dL_merge_23 : decode cL_merge 23 = .ok (.iconst 3, 1) := by decide +kernel
theorem dL_merge_24 : decode cL_merge 24 = .ok (.ireturn, 1) := by decide +kernel
theorem dL_merge_25 : decode cL_merge 25 = .ok (.iconst 0, 1) := by decide +kernel
theorem dL_merge_26 : decode cL_merge 26 = .ok (.ireturn, 1) := by decide +kernel
theorem dL_reopen_0 : decode cL_reopen 0 = .ok (.aload_n 3, 1) := by decide +kernel
theorem dL_reopen_1 : decode cL_reopen 1 = .ok (.iconst 0, 1) := by decide +kernel
theorem dL_reopen_2 : decode cL_reopen 2 = .ok (.aload_n 0, 1) := by decide +kernel
theorem dL_reopen_3 : decode cL_reopen 3 = .ok (.iload_n 1, 1) := by decide +kernel
theorem dL_reopen_4 : decode cL_reopen 4 = .ok (.iload_n 2, 1) := by decide +kernel
theorem dL_reopen_5 : decode cL_reopen 5 = .ok (.invokevirtual 56, 3) := by decide +kernel
theorem dL_reopen_8 : decode cL_reopen 8 = .ok (.i2l, 1) := by decide +kernel
theorem dL_reopen_9 : decode cL_reopen 9 = .ok (.lastore, 1) := by decide +kernel
theorem dL_reopen_10 : decode cL_reopen 10 = .ok (.goto 15, 3) := by decide +kernel
theorem dL_reopen_13 : decode cL_reopen 13 = .ok (.astore 4, 2) := by decide +kernel
theorem dL_reopen_15 : decode cL_reopen 15 = .ok (.iconst 1, 1) := by decide +kernel
theorem dL_reopen_16 : decode cL_reopen 16 = .ok (.ireturn, 1) := by decide +kernel
theorem dL_reopen_17 : decode cL_reopen 17 = .ok (.astore 4, 2) := by decide +kernel
theorem dL_reopen_19 : decode cL_reopen 19 = .ok (.iconst 2, 1) := by decide +kernel
theorem dL_reopen_20 : decode cL_reopen 20 = .ok (.ireturn, 1) := by decide +kernel
theorem dL_reopen_21 : decode cL_reopen 21 = .ok (.astore 4, 2) := by decide +kernel
theorem dL_reopen_23 : decode cL_reopen 23 = .ok (.iconst 3, 1) := by decide +kernel
theorem dL_reopen_24 : decode cL_reopen 24 = .ok (.ireturn, 1) := by decide +kernel
theorem dL_reopen_25 : decode cL_reopen 25 = .ok (.iconst 0, 1) := by decide +kernel
theorem dL_reopen_26 : decode cL_reopen 26 = .ok (.ireturn, 1) := by decide +kernel
theorem dL_ticket_0 : decode cL_ticket 0 = .ok (.aload_n 3, 1) := by decide +kernel
theorem dL_ticket_1 : decode cL_ticket 1 = .ok (.iconst 0, 1) := by decide +kernel
theorem dL_ticket_2 : decode cL_ticket 2 = .ok (.aload_n 0, 1) := by decide +kernel
theorem dL_ticket_3 : decode cL_ticket 3 = .ok (.iload_n 1, 1) := by decide +kernel
theorem dL_ticket_4 : decode cL_ticket 4 = .ok (.iload_n 2, 1) := by decide +kernel
theorem dL_ticket_5 : decode cL_ticket 5 = .ok (.invokevirtual 59, 3) := by decide +kernel
theorem dL_ticket_8 : decode cL_ticket 8 = .ok (.i2l, 1) := by decide +kernel
theorem dL_ticket_9 : decode cL_ticket 9 = .ok (.lastore, 1) := by decide +kernel
theorem dL_ticket_10 : decode cL_ticket 10 = .ok (.goto 7, 3) := by decide +kernel
theorem dL_ticket_13 : decode cL_ticket 13 = .ok (.astore 4, 2) := by decide +kernel
theorem dL_ticket_15 : decode cL_ticket 15 = .ok (.iconst 1, 1) := by decide +kernel
theorem dL_ticket_16 : decode cL_ticket 16 = .ok (.ireturn, 1) := by decide +kernel
theorem dL_ticket_17 : decode cL_ticket 17 = .ok (.iconst 0, 1) := by decide +kernel
theorem dL_ticket_18 : decode cL_ticket 18 = .ok (.ireturn, 1) := by decide +kernel
theorem dL_main_0 : decode cL_main 0 = .ok (.aload_n 2, 1) := by decide +kernel
theorem dL_main_1 : decode cL_main 1 = .ok (.iconst 0, 1) := by decide +kernel
theorem dL_main_2 : decode cL_main 2 = .ok (.aload_n 0, 1) := by decide +kernel
theorem dL_main_3 : decode cL_main 3 = .ok (.iload_n 1, 1) := by decide +kernel
theorem dL_main_4 : decode cL_main 4 = .ok (.invokevirtual 62, 3) := by decide +kernel
theorem dL_main_7 : decode cL_main 7 = .ok (.i2l, 1) := by decide +kernel
theorem dL_main_8 : decode cL_main 8 = .ok (.lastore, 1) := by decide +kernel
theorem dL_main_9 : decode cL_main 9 = .ok (.goto 6, 3) := by decide +kernel
theorem dL_main_12 : decode cL_main 12 = .ok (.astore_n 3, 1) := by decide +kernel
theorem dL_main_13 : decode cL_main 13 = .ok (.iconst 1, 1) := by decide +kernel
theorem dL_main_14 : decode cL_main 14 = .ok (.ireturn, 1) := by decide +kernel
theorem dL_main_15 : decode cL_main 15 = .ok (.iconst 0, 1) := by decide +kernel
theorem dL_main_16 : decode cL_main 16 = .ok (.ireturn, 1) := by decide +kernel
theorem dL_customers_0 : decode cL_customers 0 = .ok (.aload_n 2, 1) := by decide +kernel
theorem dL_customers_1 : decode cL_customers 1 = .ok (.iconst 0, 1) := by decide +kernel
theorem dL_customers_2 : decode cL_customers 2 = .ok (.aload_n 0, 1) := by decide +kernel
theorem dL_customers_3 : decode cL_customers 3 = .ok (.iload_n 1, 1) := by decide +kernel
theorem dL_customers_4 : decode cL_customers 4 = .ok (.invokevirtual 65, 3) := by decide +kernel
theorem dL_customers_7 : decode cL_customers 7 = .ok (.i2l, 1) := by decide +kernel
theorem dL_customers_8 : decode cL_customers 8 = .ok (.lastore, 1) := by decide +kernel
theorem dL_customers_9 : decode cL_customers 9 = .ok (.goto 6, 3) := by decide +kernel
theorem dL_customers_12 : decode cL_customers 12 = .ok (.astore_n 3, 1) := by decide +kernel
theorem dL_customers_13 : decode cL_customers 13 = .ok (.iconst 1, 1) := by decide +kernel
theorem dL_customers_14 : decode cL_customers 14 = .ok (.ireturn, 1) := by decide +kernel
theorem dL_customers_15 : decode cL_customers 15 = .ok (.iconst 0, 1) := by decide +kernel
theorem dL_customers_16 : decode cL_customers 16 = .ok (.ireturn, 1) := by decide +kernel
theorem dL_due_0 : decode cL_due 0 = .ok (.aload_n 2, 1) := by decide +kernel
theorem dL_due_1 : decode cL_due 1 = .ok (.iconst 0, 1) := by decide +kernel
theorem dL_due_2 : decode cL_due 2 = .ok (.aload_n 0, 1) := by decide +kernel
theorem dL_due_3 : decode cL_due 3 = .ok (.iload_n 1, 1) := by decide +kernel
theorem dL_due_4 : decode cL_due 4 = .ok (.invokevirtual 68, 3) := by decide +kernel
theorem dL_due_7 : decode cL_due 7 = .ok (.i2l, 1) := by decide +kernel
theorem dL_due_8 : decode cL_due 8 = .ok (.lastore, 1) := by decide +kernel
theorem dL_due_9 : decode cL_due 9 = .ok (.goto 6, 3) := by decide +kernel
theorem dL_due_12 : decode cL_due 12 = .ok (.astore_n 3, 1) := by decide +kernel
theorem dL_due_13 : decode cL_due 13 = .ok (.iconst 1, 1) := by decide +kernel
theorem dL_due_14 : decode cL_due 14 = .ok (.ireturn, 1) := by decide +kernel
theorem dL_due_15 : decode cL_due 15 = .ok (.iconst 0, 1) := by decide +kernel
theorem dL_due_16 : decode cL_due 16 = .ok (.ireturn, 1) := by decide +kernel
theorem dL_pass_0 : decode cL_pass 0 = .ok (.aload_n 2, 1) := by decide +kernel
theorem dL_pass_1 : decode cL_pass 1 = .ok (.iconst 0, 1) := by decide +kernel
theorem dL_pass_2 : decode cL_pass 2 = .ok (.aload_n 0, 1) := by decide +kernel
theorem dL_pass_3 : decode cL_pass 3 = .ok (.iload_n 1, 1) := by decide +kernel
theorem dL_pass_4 : decode cL_pass 4 = .ok (.invokevirtual 71, 3) := by decide +kernel
theorem dL_pass_7 : decode cL_pass 7 = .ok (.i2l, 1) := by decide +kernel
theorem dL_pass_8 : decode cL_pass 8 = .ok (.lastore, 1) := by decide +kernel
theorem dL_pass_9 : decode cL_pass 9 = .ok (.goto 9, 3) := by decide +kernel
theorem dL_pass_12 : decode cL_pass 12 = .ok (.astore_n 3, 1) := by decide +kernel
theorem dL_pass_13 : decode cL_pass 13 = .ok (.iconst 1, 1) := by decide +kernel
theorem dL_pass_14 : decode cL_pass 14 = .ok (.ireturn, 1) := by decide +kernel
theorem dL_pass_15 : decode cL_pass 15 = .ok (.astore_n 3, 1) := by decide +kernel
theorem dL_pass_16 : decode cL_pass 16 = .ok (.iconst 2, 1) := by decide +kernel
theorem dL_pass_17 : decode cL_pass 17 = .ok (.ireturn, 1) := by decide +kernel
theorem dL_pass_18 : decode cL_pass 18 = .ok (.iconst 0, 1) := by decide +kernel
theorem dL_pass_19 : decode cL_pass 19 = .ok (.ireturn, 1) := by decide +kernel
theorem dL_all_0 : decode cL_all 0 = .ok (.aload_n 2, 1) := by decide +kernel
theorem dL_all_1 : decode cL_all 1 = .ok (.iconst 0, 1) := by decide +kernel
theorem dL_all_2 : decode cL_all 2 = .ok (.aload_n 0, 1) := by decide +kernel
theorem dL_all_3 : decode cL_all 3 = .ok (.iload_n 1, 1) := by decide +kernel
theorem dL_all_4 : decode cL_all 4 = .ok (.invokevirtual 74, 3) := by decide +kernel
theorem dL_all_7 : decode cL_all 7 = .ok (.i2l, 1) := by decide +kernel
theorem dL_all_8 : decode cL_all 8 = .ok (.lastore, 1) := by decide +kernel
theorem dL_all_9 : decode cL_all 9 = .ok (.goto 6, 3) := by decide +kernel
theorem dL_all_12 : decode cL_all 12 = .ok (.astore_n 3, 1) := by decide +kernel
theorem dL_all_13 : decode cL_all 13 = .ok (.iconst 1, 1) := by decide +kernel
theorem dL_all_14 : decode cL_all 14 = .ok (.ireturn, 1) := by decide +kernel
theorem dL_all_15 : decode cL_all 15 = .ok (.iconst 0, 1) := by decide +kernel
theorem dL_all_16 : decode cL_all 16 = .ok (.ireturn, 1) := by decide +kernel
theorem dL_law_0 : decode cL_law 0 = .ok (.new 8, 3) := by decide +kernel
theorem dL_law_3 : decode cL_law 3 = .ok (.dup, 1) := by decide +kernel
theorem dL_law_4 : decode cL_law 4 = .ok (.invokespecial 77, 3) := by decide +kernel
theorem dL_law_7 : decode cL_law 7 = .ok (.astore_n 1, 1) := by decide +kernel
theorem dL_law_8 : decode cL_law 8 = .ok (.new 78, 3) := by decide +kernel
theorem dL_law_11 : decode cL_law 11 = .ok (.dup, 1) := by decide +kernel
theorem dL_law_12 : decode cL_law 12 = .ok (.invokespecial 80, 3) := by decide +kernel
theorem dL_law_15 : decode cL_law 15 = .ok (.astore_n 2, 1) := by decide +kernel
theorem dL_law_16 : decode cL_law 16 = .ok (.iconst 1, 1) := by decide +kernel
theorem dL_law_17 : decode cL_law 17 = .ok (.newarray .long, 2) := by decide +kernel
theorem dL_law_19 : decode cL_law 19 = .ok (.astore_n 3, 1) := by decide +kernel
theorem dL_law_20 : decode cL_law 20 = .ok (.iconst 0, 1) := by decide +kernel
theorem dL_law_21 : decode cL_law 21 = .ok (.istore 4, 2) := by decide +kernel
theorem dL_law_23 : decode cL_law 23 = .ok (.iload 4, 2) := by decide +kernel
theorem dL_law_25 : decode cL_law 25 = .ok (.aload_n 0, 1) := by decide +kernel
theorem dL_law_26 : decode cL_law 26 = .ok (.arraylength, 1) := by decide +kernel
theorem dL_law_27 : decode cL_law 27 = .ok (.iconst 5, 1) := by decide +kernel
theorem dL_law_28 : decode cL_law 28 = .ok (.isub, 1) := by decide +kernel
theorem dL_law_29 : decode cL_law 29 = .ok (.if_icmp .gt 1527, 3) := by decide +kernel
theorem dL_law_32 : decode cL_law 32 = .ok (.aload_n 0, 1) := by decide +kernel
theorem dL_law_33 : decode cL_law 33 = .ok (.iload 4, 2) := by decide +kernel
theorem dL_law_35 : decode cL_law 35 = .ok (.iaload, 1) := by decide +kernel
theorem dL_law_36 : decode cL_law 36 = .ok (.bipush 31, 2) := by decide +kernel
theorem dL_law_38 : decode cL_law 38 = .ok (.iand, 1) := by decide +kernel
theorem dL_law_39 : decode cL_law 39 = .ok (.tableswitch 1511 0 24 #[113, 188, 268, 281, 349, 441, 509, 577, 633, 725, 793, 849, 905, 973, 1041, 1054, 1122, 1178, 1234, 1290, 1346, 1402, 1443, 1456, 1497], 113) := by decide +kernel
theorem dL_law_152 : decode cL_law 152 = .ok (.aload_n 1, 1) := by decide +kernel
theorem dL_law_153 : decode cL_law 153 = .ok (.aload_n 0, 1) := by decide +kernel
theorem dL_law_154 : decode cL_law 154 = .ok (.iload 4, 2) := by decide +kernel
theorem dL_law_156 : decode cL_law 156 = .ok (.iconst 1, 1) := by decide +kernel
theorem dL_law_157 : decode cL_law 157 = .ok (.iadd, 1) := by decide +kernel
theorem dL_law_158 : decode cL_law 158 = .ok (.iaload, 1) := by decide +kernel
theorem dL_law_159 : decode cL_law 159 = .ok (.aload_n 0, 1) := by decide +kernel
theorem dL_law_160 : decode cL_law 160 = .ok (.iload 4, 2) := by decide +kernel
theorem dL_law_162 : decode cL_law 162 = .ok (.iconst 2, 1) := by decide +kernel
theorem dL_law_163 : decode cL_law 163 = .ok (.iadd, 1) := by decide +kernel
theorem dL_law_164 : decode cL_law 164 = .ok (.iaload, 1) := by decide +kernel
theorem dL_law_165 : decode cL_law 165 = .ok (.aload_n 3, 1) := by decide +kernel
theorem dL_law_166 : decode cL_law 166 = .ok (.invokestatic 81, 3) := by decide +kernel
theorem dL_law_169 : decode cL_law 169 = .ok (.istore 5, 2) := by decide +kernel
theorem dL_law_171 : decode cL_law 171 = .ok (.aload_n 2, 1) := by decide +kernel
theorem dL_law_172 : decode cL_law 172 = .ok (.aload_n 0, 1) := by decide +kernel
theorem dL_law_173 : decode cL_law 173 = .ok (.iload 4, 2) := by decide +kernel
theorem dL_law_175 : decode cL_law 175 = .ok (.iconst 1, 1) := by decide +kernel
theorem dL_law_176 : decode cL_law 176 = .ok (.iadd, 1) := by decide +kernel
theorem dL_law_177 : decode cL_law 177 = .ok (.iaload, 1) := by decide +kernel
theorem dL_law_178 : decode cL_law 178 = .ok (.aload_n 0, 1) := by decide +kernel
theorem dL_law_179 : decode cL_law 179 = .ok (.iload 4, 2) := by decide +kernel
theorem dL_law_181 : decode cL_law 181 = .ok (.iconst 2, 1) := by decide +kernel
theorem dL_law_182 : decode cL_law 182 = .ok (.iadd, 1) := by decide +kernel
theorem dL_law_183 : decode cL_law 183 = .ok (.iaload, 1) := by decide +kernel
theorem dL_law_184 : decode cL_law 184 = .ok (.invokevirtual 86, 3) := by decide +kernel
theorem dL_law_187 : decode cL_law 187 = .ok (.istore 6, 2) := by decide +kernel
theorem dL_law_189 : decode cL_law 189 = .ok (.aload_n 2, 1) := by decide +kernel
theorem dL_law_190 : decode cL_law 190 = .ok (.invokevirtual 87, 3) := by decide +kernel
theorem dL_law_193 : decode cL_law 193 = .ok (.iload 5, 2) := by decide +kernel
theorem dL_law_195 : decode cL_law 195 = .ok (.if_icmp .eq 5, 3) := by decide +kernel
theorem dL_law_198 : decode cL_law 198 = .ok (.iconst 0, 1) := by decide +kernel
theorem dL_law_199 : decode cL_law 199 = .ok (.ireturn, 1) := by decide +kernel
theorem dL_law_200 : decode cL_law 200 = .ok (.iload 5, 2) := by decide +kernel
theorem dL_law_202 : decode cL_law 202 = .ok (.ifCond .ne 22, 3) := by decide +kernel
theorem dL_law_205 : decode cL_law 205 = .ok (.aload_n 3, 1) := by decide +kernel
theorem dL_law_206 : decode cL_law 206 = .ok (.iconst 0, 1) := by decide +kernel
theorem dL_law_207 : decode cL_law 207 = .ok (.laload, 1) := by decide +kernel
theorem dL_law_208 : decode cL_law 208 = .ok (.iload 6, 2) := by decide +kernel
theorem dL_law_210 : decode cL_law 210 = .ok (.ifCond .eq 7, 3) := by decide +kernel
theorem dL_law_213 : decode cL_law 213 = .ok (.lconst 1, 1) := by decide +kernel
theorem dL_law_214 : decode cL_law 214 = .ok (.goto 4, 3) := by decide +kernel
theorem dL_law_217 : decode cL_law 217 = .ok (.lconst 0, 1) := by decide +kernel
theorem dL_law_218 : decode cL_law 218 = .ok (.lcmp, 1) := by decide +kernel
theorem dL_law_219 : decode cL_law 219 = .ok (.ifCond .eq 5, 3) := by decide +kernel
theorem dL_law_222 : decode cL_law 222 = .ok (.iconst 0, 1) := by decide +kernel
theorem dL_law_223 : decode cL_law 223 = .ok (.ireturn, 1) := by decide +kernel
theorem dL_law_224 : decode cL_law 224 = .ok (.goto 1326, 3) := by decide +kernel
theorem dL_law_227 : decode cL_law 227 = .ok (.aload_n 1, 1) := by decide +kernel
theorem dL_law_228 : decode cL_law 228 = .ok (.aload_n 0, 1) := by decide +kernel
theorem dL_law_229 : decode cL_law 229 = .ok (.iload 4, 2) := by decide +kernel
theorem dL_law_231 : decode cL_law 231 = .ok (.iconst 1, 1) := by decide +kernel
theorem dL_law_232 : decode cL_law 232 = .ok (.iadd, 1) := by decide +kernel
theorem dL_law_233 : decode cL_law 233 = .ok (.iaload, 1) := by decide +kernel
theorem dL_law_234 : decode cL_law 234 = .ok (.aload_n 0, 1) := by decide +kernel
theorem dL_law_235 : decode cL_law 235 = .ok (.iload 4, 2) := by decide +kernel
theorem dL_law_237 : decode cL_law 237 = .ok (.iconst 2, 1) := by decide +kernel
theorem dL_law_238 : decode cL_law 238 = .ok (.iadd, 1) := by decide +kernel
theorem dL_law_239 : decode cL_law 239 = .ok (.iaload, 1) := by decide +kernel
theorem dL_law_240 : decode cL_law 240 = .ok (.aload_n 0, 1) := by decide +kernel
theorem dL_law_241 : decode cL_law 241 = .ok (.iload 4, 2) := by decide +kernel
theorem dL_law_243 : decode cL_law 243 = .ok (.iconst 3, 1) := by decide +kernel
theorem dL_law_244 : decode cL_law 244 = .ok (.iadd, 1) := by decide +kernel
theorem dL_law_245 : decode cL_law 245 = .ok (.iaload, 1) := by decide +kernel
theorem dL_law_246 : decode cL_law 246 = .ok (.aload_n 3, 1) := by decide +kernel
theorem dL_law_247 : decode cL_law 247 = .ok (.invokestatic 91, 3) := by decide +kernel
theorem dL_law_250 : decode cL_law 250 = .ok (.istore 5, 2) := by decide +kernel
theorem dL_law_252 : decode cL_law 252 = .ok (.aload_n 2, 1) := by decide +kernel
theorem dL_law_253 : decode cL_law 253 = .ok (.aload_n 0, 1) := by decide +kernel
theorem dL_law_254 : decode cL_law 254 = .ok (.iload 4, 2) := by decide +kernel
theorem dL_law_256 : decode cL_law 256 = .ok (.iconst 1, 1) := by decide +kernel
theorem dL_law_257 : decode cL_law 257 = .ok (.iadd, 1) := by decide +kernel
theorem dL_law_258 : decode cL_law 258 = .ok (.iaload, 1) := by decide +kernel
theorem dL_law_259 : decode cL_law 259 = .ok (.aload_n 0, 1) := by decide +kernel
theorem dL_law_260 : decode cL_law 260 = .ok (.iload 4, 2) := by decide +kernel
theorem dL_law_262 : decode cL_law 262 = .ok (.iconst 2, 1) := by decide +kernel
theorem dL_law_263 : decode cL_law 263 = .ok (.iadd, 1) := by decide +kernel
theorem dL_law_264 : decode cL_law 264 = .ok (.iaload, 1) := by decide +kernel
theorem dL_law_265 : decode cL_law 265 = .ok (.aload_n 0, 1) := by decide +kernel
theorem dL_law_266 : decode cL_law 266 = .ok (.iload 4, 2) := by decide +kernel
theorem dL_law_268 : decode cL_law 268 = .ok (.iconst 3, 1) := by decide +kernel
theorem dL_law_269 : decode cL_law 269 = .ok (.iadd, 1) := by decide +kernel
theorem dL_law_270 : decode cL_law 270 = .ok (.iaload, 1) := by decide +kernel
theorem dL_law_271 : decode cL_law 271 = .ok (.invokevirtual 94, 3) := by decide +kernel
theorem dL_law_274 : decode cL_law 274 = .ok (.istore 6, 2) := by decide +kernel
theorem dL_law_276 : decode cL_law 276 = .ok (.aload_n 2, 1) := by decide +kernel
theorem dL_law_277 : decode cL_law 277 = .ok (.invokevirtual 87, 3) := by decide +kernel
theorem dL_law_280 : decode cL_law 280 = .ok (.iload 5, 2) := by decide +kernel
theorem dL_law_282 : decode cL_law 282 = .ok (.if_icmp .eq 5, 3) := by decide +kernel
theorem dL_law_285 : decode cL_law 285 = .ok (.iconst 0, 1) := by decide +kernel
theorem dL_law_286 : decode cL_law 286 = .ok (.ireturn, 1) := by decide +kernel
theorem dL_law_287 : decode cL_law 287 = .ok (.iload 5, 2) := by decide +kernel
theorem dL_law_289 : decode cL_law 289 = .ok (.ifCond .ne 15, 3) := by decide +kernel
theorem dL_law_292 : decode cL_law 292 = .ok (.aload_n 3, 1) := by decide +kernel
theorem dL_law_293 : decode cL_law 293 = .ok (.iconst 0, 1) := by decide +kernel
theorem dL_law_294 : decode cL_law 294 = .ok (.laload, 1) := by decide +kernel
theorem dL_law_295 : decode cL_law 295 = .ok (.iload 6, 2) := by decide +kernel
theorem dL_law_297 : decode cL_law 297 = .ok (.i2l, 1) := by decide +kernel
theorem dL_law_298 : decode cL_law 298 = .ok (.lcmp, 1) := by decide +kernel
theorem dL_law_299 : decode cL_law 299 = .ok (.ifCond .eq 5, 3) := by decide +kernel
theorem dL_law_302 : decode cL_law 302 = .ok (.iconst 0, 1) := by decide +kernel
theorem dL_law_303 : decode cL_law 303 = .ok (.ireturn, 1) := by decide +kernel
theorem dL_law_304 : decode cL_law 304 = .ok (.goto 1246, 3) := by decide +kernel
theorem dL_law_307 : decode cL_law 307 = .ok (.aload_n 1, 1) := by decide +kernel
theorem dL_law_308 : decode cL_law 308 = .ok (.invokevirtual 95, 3) := by decide +kernel
theorem dL_law_311 : decode cL_law 311 = .ok (.aload_n 2, 1) := by decide +kernel
theorem dL_law_312 : decode cL_law 312 = .ok (.invokevirtual 98, 3) := by decide +kernel
theorem dL_law_315 : decode cL_law 315 = .ok (.if_icmp .eq 1235, 3) := by decide +kernel
theorem dL_law_318 : decode cL_law 318 = .ok (.iconst 0, 1) := by decide +kernel
theorem dL_law_319 : decode cL_law 319 = .ok (.ireturn, 1) := by decide +kernel
theorem dL_law_320 : decode cL_law 320 = .ok (.aload_n 1, 1) := by decide +kernel
theorem dL_law_321 : decode cL_law 321 = .ok (.aload_n 0, 1) := by decide +kernel
theorem dL_law_322 : decode cL_law 322 = .ok (.iload 4, 2) := by decide +kernel
theorem dL_law_324 : decode cL_law 324 = .ok (.iconst 1, 1) := by decide +kernel
theorem dL_law_325 : decode cL_law 325 = .ok (.iadd, 1) := by decide +kernel
theorem dL_law_326 : decode cL_law 326 = .ok (.iaload, 1) := by decide +kernel
theorem dL_law_327 : decode cL_law 327 = .ok (.aload_n 0, 1) := by decide +kernel
theorem dL_law_328 : decode cL_law 328 = .ok (.iload 4, 2) := by decide +kernel
theorem dL_law_330 : decode cL_law 330 = .ok (.iconst 2, 1) := by decide +kernel
theorem dL_law_331 : decode cL_law 331 = .ok (.iadd, 1) := by decide +kernel
theorem dL_law_332 : decode cL_law 332 = .ok (.iaload, 1) := by decide +kernel
theorem dL_law_333 : decode cL_law 333 = .ok (.aload_n 3, 1) := by decide +kernel
theorem dL_law_334 : decode cL_law 334 = .ok (.invokestatic 99, 3) := by decide +kernel
theorem dL_law_337 : decode cL_law 337 = .ok (.istore 5, 2) := by decide +kernel
theorem dL_law_339 : decode cL_law 339 = .ok (.aload_n 2, 1) := by decide +kernel
theorem dL_law_340 : decode cL_law 340 = .ok (.aload_n 0, 1) := by decide +kernel
theorem dL_law_341 : decode cL_law 341 = .ok (.iload 4, 2) := by decide +kernel
theorem dL_law_343 : decode cL_law 343 = .ok (.iconst 1, 1) := by decide +kernel
theorem dL_law_344 : decode cL_law 344 = .ok (.iadd, 1) := by decide +kernel
theorem dL_law_345 : decode cL_law 345 = .ok (.iaload, 1) := by decide +kernel
theorem dL_law_346 : decode cL_law 346 = .ok (.aload_n 0, 1) := by decide +kernel
theorem dL_law_347 : decode cL_law 347 = .ok (.iload 4, 2) := by decide +kernel
theorem dL_law_349 : decode cL_law 349 = .ok (.iconst 2, 1) := by decide +kernel
theorem dL_law_350 : decode cL_law 350 = .ok (.iadd, 1) := by decide +kernel
theorem dL_law_351 : decode cL_law 351 = .ok (.iaload, 1) := by decide +kernel
theorem dL_law_352 : decode cL_law 352 = .ok (.invokevirtual 101, 3) := by decide +kernel
theorem dL_law_355 : decode cL_law 355 = .ok (.istore 6, 2) := by decide +kernel
theorem dL_law_357 : decode cL_law 357 = .ok (.aload_n 2, 1) := by decide +kernel
theorem dL_law_358 : decode cL_law 358 = .ok (.invokevirtual 87, 3) := by decide +kernel
theorem dL_law_361 : decode cL_law 361 = .ok (.iload 5, 2) := by decide +kernel
theorem dL_law_363 : decode cL_law 363 = .ok (.if_icmp .eq 5, 3) := by decide +kernel
theorem dL_law_366 : decode cL_law 366 = .ok (.iconst 0, 1) := by decide +kernel
theorem dL_law_367 : decode cL_law 367 = .ok (.ireturn, 1) := by decide +kernel
theorem dL_law_368 : decode cL_law 368 = .ok (.iload 5, 2) := by decide +kernel
theorem dL_law_370 : decode cL_law 370 = .ok (.ifCond .ne 15, 3) := by decide +kernel
theorem dL_law_373 : decode cL_law 373 = .ok (.aload_n 3, 1) := by decide +kernel
theorem dL_law_374 : decode cL_law 374 = .ok (.iconst 0, 1) := by decide +kernel
theorem dL_law_375 : decode cL_law 375 = .ok (.laload, 1) := by decide +kernel
theorem dL_law_376 : decode cL_law 376 = .ok (.iload 6, 2) := by decide +kernel
theorem dL_law_378 : decode cL_law 378 = .ok (.i2l, 1) := by decide +kernel
theorem dL_law_379 : decode cL_law 379 = .ok (.lcmp, 1) := by decide +kernel
theorem dL_law_380 : decode cL_law 380 = .ok (.ifCond .eq 5, 3) := by decide +kernel
theorem dL_law_383 : decode cL_law 383 = .ok (.iconst 0, 1) := by decide +kernel
theorem dL_law_384 : decode cL_law 384 = .ok (.ireturn, 1) := by decide +kernel
theorem dL_law_385 : decode cL_law 385 = .ok (.goto 1165, 3) := by decide +kernel
theorem dL_law_388 : decode cL_law 388 = .ok (.aload_n 1, 1) := by decide +kernel
theorem dL_law_389 : decode cL_law 389 = .ok (.aload_n 0, 1) := by decide +kernel
theorem dL_law_390 : decode cL_law 390 = .ok (.iload 4, 2) := by decide +kernel
theorem dL_law_392 : decode cL_law 392 = .ok (.iconst 1, 1) := by decide +kernel
theorem dL_law_393 : decode cL_law 393 = .ok (.iadd, 1) := by decide +kernel
theorem dL_law_394 : decode cL_law 394 = .ok (.iaload, 1) := by decide +kernel
theorem dL_law_395 : decode cL_law 395 = .ok (.aload_n 0, 1) := by decide +kernel
theorem dL_law_396 : decode cL_law 396 = .ok (.iload 4, 2) := by decide +kernel
theorem dL_law_398 : decode cL_law 398 = .ok (.iconst 2, 1) := by decide +kernel
theorem dL_law_399 : decode cL_law 399 = .ok (.iadd, 1) := by decide +kernel
theorem dL_law_400 : decode cL_law 400 = .ok (.iaload, 1) := by decide +kernel
theorem dL_law_401 : decode cL_law 401 = .ok (.aload_n 0, 1) := by decide +kernel
theorem dL_law_402 : decode cL_law 402 = .ok (.iload 4, 2) := by decide +kernel
theorem dL_law_404 : decode cL_law 404 = .ok (.iconst 3, 1) := by decide +kernel
theorem dL_law_405 : decode cL_law 405 = .ok (.iadd, 1) := by decide +kernel
theorem dL_law_406 : decode cL_law 406 = .ok (.iaload, 1) := by decide +kernel
theorem dL_law_407 : decode cL_law 407 = .ok (.aload_n 0, 1) := by decide +kernel
theorem dL_law_408 : decode cL_law 408 = .ok (.iload 4, 2) := by decide +kernel
theorem dL_law_410 : decode cL_law 410 = .ok (.iconst 4, 1) := by decide +kernel
theorem dL_law_411 : decode cL_law 411 = .ok (.iadd, 1) := by decide +kernel
theorem dL_law_412 : decode cL_law 412 = .ok (.iaload, 1) := by decide +kernel
theorem dL_law_413 : decode cL_law 413 = .ok (.aload_n 3, 1) := by decide +kernel
theorem dL_law_414 : decode cL_law 414 = .ok (.invokestatic 102, 3) := by decide +kernel
theorem dL_law_417 : decode cL_law 417 = .ok (.istore 5, 2) := by decide +kernel
theorem dL_law_419 : decode cL_law 419 = .ok (.aload_n 2, 1) := by decide +kernel
theorem dL_law_420 : decode cL_law 420 = .ok (.aload_n 0, 1) := by decide +kernel
theorem dL_law_421 : decode cL_law 421 = .ok (.iload 4, 2) := by decide +kernel
theorem dL_law_423 : decode cL_law 423 = .ok (.iconst 1, 1) := by decide +kernel
theorem dL_law_424 : decode cL_law 424 = .ok (.iadd, 1) := by decide +kernel
theorem dL_law_425 : decode cL_law 425 = .ok (.iaload, 1) := by decide +kernel
theorem dL_law_426 : decode cL_law 426 = .ok (.aload_n 0, 1) := by decide +kernel
theorem dL_law_427 : decode cL_law 427 = .ok (.iload 4, 2) := by decide +kernel
theorem dL_law_429 : decode cL_law 429 = .ok (.iconst 2, 1) := by decide +kernel
theorem dL_law_430 : decode cL_law 430 = .ok (.iadd, 1) := by decide +kernel
theorem dL_law_431 : decode cL_law 431 = .ok (.iaload, 1) := by decide +kernel
theorem dL_law_432 : decode cL_law 432 = .ok (.aload_n 0, 1) := by decide +kernel
theorem dL_law_433 : decode cL_law 433 = .ok (.iload 4, 2) := by decide +kernel
theorem dL_law_435 : decode cL_law 435 = .ok (.iconst 3, 1) := by decide +kernel
theorem dL_law_436 : decode cL_law 436 = .ok (.iadd, 1) := by decide +kernel
theorem dL_law_437 : decode cL_law 437 = .ok (.iaload, 1) := by decide +kernel
theorem dL_law_438 : decode cL_law 438 = .ok (.aload_n 0, 1) := by decide +kernel
theorem dL_law_439 : decode cL_law 439 = .ok (.iload 4, 2) := by decide +kernel
theorem dL_law_441 : decode cL_law 441 = .ok (.iconst 4, 1) := by decide +kernel
theorem dL_law_442 : decode cL_law 442 = .ok (.iadd, 1) := by decide +kernel
theorem dL_law_443 : decode cL_law 443 = .ok (.iaload, 1) := by decide +kernel
theorem dL_law_444 : decode cL_law 444 = .ok (.invokevirtual 105, 3) := by decide +kernel
theorem dL_law_447 : decode cL_law 447 = .ok (.istore 6, 2) := by decide +kernel
theorem dL_law_449 : decode cL_law 449 = .ok (.aload_n 2, 1) := by decide +kernel
theorem dL_law_450 : decode cL_law 450 = .ok (.invokevirtual 87, 3) := by decide +kernel
theorem dL_law_453 : decode cL_law 453 = .ok (.iload 5, 2) := by decide +kernel
theorem dL_law_455 : decode cL_law 455 = .ok (.if_icmp .eq 5, 3) := by decide +kernel
theorem dL_law_458 : decode cL_law 458 = .ok (.iconst 0, 1) := by decide +kernel
theorem dL_law_459 : decode cL_law 459 = .ok (.ireturn, 1) := by decide +kernel
theorem dL_law_460 : decode cL_law 460 = .ok (.iload 5, 2) := by decide +kernel
theorem dL_law_462 : decode cL_law 462 = .ok (.ifCond .ne 15, 3) := by decide +kernel
theorem dL_law_465 : decode cL_law 465 = .ok (.aload_n 3, 1) := by decide +kernel
theorem dL_law_466 : decode cL_law 466 = .ok (.iconst 0, 1) := by decide +kernel
theorem dL_law_467 : decode cL_law 467 = .ok (.laload, 1) := by decide +kernel
theorem dL_law_468 : decode cL_law 468 = .ok (.iload 6, 2) := by decide +kernel
theorem dL_law_470 : decode cL_law 470 = .ok (.i2l, 1) := by decide +kernel
theorem dL_law_471 : decode cL_law 471 = .ok (.lcmp, 1) := by decide +kernel
theorem dL_law_472 : decode cL_law 472 = .ok (.ifCond .eq 5, 3) := by decide +kernel
theorem dL_law_475 : decode cL_law 475 = .ok (.iconst 0, 1) := by decide +kernel
theorem dL_law_476 : decode cL_law 476 = .ok (.ireturn, 1) := by decide +kernel
theorem dL_law_477 : decode cL_law 477 = .ok (.goto 1073, 3) := by decide +kernel
theorem dL_law_480 : decode cL_law 480 = .ok (.aload_n 1, 1) := by decide +kernel
theorem dL_law_481 : decode cL_law 481 = .ok (.aload_n 0, 1) := by decide +kernel
theorem dL_law_482 : decode cL_law 482 = .ok (.iload 4, 2) := by decide +kernel
theorem dL_law_484 : decode cL_law 484 = .ok (.iconst 1, 1) := by decide +kernel
theorem dL_law_485 : decode cL_law 485 = .ok (.iadd, 1) := by decide +kernel
theorem dL_law_486 : decode cL_law 486 = .ok (.iaload, 1) := by decide +kernel
theorem dL_law_487 : decode cL_law 487 = .ok (.aload_n 0, 1) := by decide +kernel
theorem dL_law_488 : decode cL_law 488 = .ok (.iload 4, 2) := by decide +kernel
theorem dL_law_490 : decode cL_law 490 = .ok (.iconst 2, 1) := by decide +kernel
theorem dL_law_491 : decode cL_law 491 = .ok (.iadd, 1) := by decide +kernel
theorem dL_law_492 : decode cL_law 492 = .ok (.iaload, 1) := by decide +kernel
theorem dL_law_493 : decode cL_law 493 = .ok (.aload_n 3, 1) := by decide +kernel
theorem dL_law_494 : decode cL_law 494 = .ok (.invokestatic 106, 3) := by decide +kernel
theorem dL_law_497 : decode cL_law 497 = .ok (.istore 5, 2) := by decide +kernel
theorem dL_law_499 : decode cL_law 499 = .ok (.aload_n 2, 1) := by decide +kernel
theorem dL_law_500 : decode cL_law 500 = .ok (.aload_n 0, 1) := by decide +kernel
theorem dL_law_501 : decode cL_law 501 = .ok (.iload 4, 2) := by decide +kernel
theorem dL_law_503 : decode cL_law 503 = .ok (.iconst 1, 1) := by decide +kernel
theorem dL_law_504 : decode cL_law 504 = .ok (.iadd, 1) := by decide +kernel
theorem dL_law_505 : decode cL_law 505 = .ok (.iaload, 1) := by decide +kernel
theorem dL_law_506 : decode cL_law 506 = .ok (.aload_n 0, 1) := by decide +kernel
theorem dL_law_507 : decode cL_law 507 = .ok (.iload 4, 2) := by decide +kernel
theorem dL_law_509 : decode cL_law 509 = .ok (.iconst 2, 1) := by decide +kernel
theorem dL_law_510 : decode cL_law 510 = .ok (.iadd, 1) := by decide +kernel
theorem dL_law_511 : decode cL_law 511 = .ok (.iaload, 1) := by decide +kernel
theorem dL_law_512 : decode cL_law 512 = .ok (.invokevirtual 108, 3) := by decide +kernel
theorem dL_law_515 : decode cL_law 515 = .ok (.istore 6, 2) := by decide +kernel
theorem dL_law_517 : decode cL_law 517 = .ok (.aload_n 2, 1) := by decide +kernel
theorem dL_law_518 : decode cL_law 518 = .ok (.invokevirtual 87, 3) := by decide +kernel
theorem dL_law_521 : decode cL_law 521 = .ok (.iload 5, 2) := by decide +kernel
theorem dL_law_523 : decode cL_law 523 = .ok (.if_icmp .eq 5, 3) := by decide +kernel
theorem dL_law_526 : decode cL_law 526 = .ok (.iconst 0, 1) := by decide +kernel
theorem dL_law_527 : decode cL_law 527 = .ok (.ireturn, 1) := by decide +kernel
theorem dL_law_528 : decode cL_law 528 = .ok (.iload 5, 2) := by decide +kernel
theorem dL_law_530 : decode cL_law 530 = .ok (.ifCond .ne 15, 3) := by decide +kernel
theorem dL_law_533 : decode cL_law 533 = .ok (.aload_n 3, 1) := by decide +kernel
theorem dL_law_534 : decode cL_law 534 = .ok (.iconst 0, 1) := by decide +kernel
theorem dL_law_535 : decode cL_law 535 = .ok (.laload, 1) := by decide +kernel
theorem dL_law_536 : decode cL_law 536 = .ok (.iload 6, 2) := by decide +kernel
theorem dL_law_538 : decode cL_law 538 = .ok (.i2l, 1) := by decide +kernel
theorem dL_law_539 : decode cL_law 539 = .ok (.lcmp, 1) := by decide +kernel
theorem dL_law_540 : decode cL_law 540 = .ok (.ifCond .eq 5, 3) := by decide +kernel
theorem dL_law_543 : decode cL_law 543 = .ok (.iconst 0, 1) := by decide +kernel
theorem dL_law_544 : decode cL_law 544 = .ok (.ireturn, 1) := by decide +kernel
theorem dL_law_545 : decode cL_law 545 = .ok (.goto 1005, 3) := by decide +kernel
theorem dL_law_548 : decode cL_law 548 = .ok (.aload_n 1, 1) := by decide +kernel
theorem dL_law_549 : decode cL_law 549 = .ok (.aload_n 0, 1) := by decide +kernel
theorem dL_law_550 : decode cL_law 550 = .ok (.iload 4, 2) := by decide +kernel
theorem dL_law_552 : decode cL_law 552 = .ok (.iconst 1, 1) := by decide +kernel
theorem dL_law_553 : decode cL_law 553 = .ok (.iadd, 1) := by decide +kernel
theorem dL_law_554 : decode cL_law 554 = .ok (.iaload, 1) := by decide +kernel
theorem dL_law_555 : decode cL_law 555 = .ok (.aload_n 0, 1) := by decide +kernel
theorem dL_law_556 : decode cL_law 556 = .ok (.iload 4, 2) := by decide +kernel
theorem dL_law_558 : decode cL_law 558 = .ok (.iconst 2, 1) := by decide +kernel
theorem dL_law_559 : decode cL_law 559 = .ok (.iadd, 1) := by decide +kernel
theorem dL_law_560 : decode cL_law 560 = .ok (.iaload, 1) := by decide +kernel
theorem dL_law_561 : decode cL_law 561 = .ok (.aload_n 3, 1) := by decide +kernel
theorem dL_law_562 : decode cL_law 562 = .ok (.invokestatic 109, 3) := by decide +kernel
theorem dL_law_565 : decode cL_law 565 = .ok (.istore 5, 2) := by decide +kernel
theorem dL_law_567 : decode cL_law 567 = .ok (.aload_n 2, 1) := by decide +kernel
theorem dL_law_568 : decode cL_law 568 = .ok (.aload_n 0, 1) := by decide +kernel
theorem dL_law_569 : decode cL_law 569 = .ok (.iload 4, 2) := by decide +kernel
theorem dL_law_571 : decode cL_law 571 = .ok (.iconst 1, 1) := by decide +kernel
theorem dL_law_572 : decode cL_law 572 = .ok (.iadd, 1) := by decide +kernel
theorem dL_law_573 : decode cL_law 573 = .ok (.iaload, 1) := by decide +kernel
theorem dL_law_574 : decode cL_law 574 = .ok (.aload_n 0, 1) := by decide +kernel
theorem dL_law_575 : decode cL_law 575 = .ok (.iload 4, 2) := by decide +kernel
theorem dL_law_577 : decode cL_law 577 = .ok (.iconst 2, 1) := by decide +kernel
theorem dL_law_578 : decode cL_law 578 = .ok (.iadd, 1) := by decide +kernel
theorem dL_law_579 : decode cL_law 579 = .ok (.iaload, 1) := by decide +kernel
theorem dL_law_580 : decode cL_law 580 = .ok (.invokevirtual 111, 3) := by decide +kernel
theorem dL_law_583 : decode cL_law 583 = .ok (.istore 6, 2) := by decide +kernel
theorem dL_law_585 : decode cL_law 585 = .ok (.aload_n 2, 1) := by decide +kernel
theorem dL_law_586 : decode cL_law 586 = .ok (.invokevirtual 87, 3) := by decide +kernel
theorem dL_law_589 : decode cL_law 589 = .ok (.iload 5, 2) := by decide +kernel
theorem dL_law_591 : decode cL_law 591 = .ok (.if_icmp .eq 5, 3) := by decide +kernel
theorem dL_law_594 : decode cL_law 594 = .ok (.iconst 0, 1) := by decide +kernel
theorem dL_law_595 : decode cL_law 595 = .ok (.ireturn, 1) := by decide +kernel
theorem dL_law_596 : decode cL_law 596 = .ok (.iload 5, 2) := by decide +kernel
theorem dL_law_598 : decode cL_law 598 = .ok (.ifCond .ne 15, 3) := by decide +kernel
theorem dL_law_601 : decode cL_law 601 = .ok (.aload_n 3, 1) := by decide +kernel
theorem dL_law_602 : decode cL_law 602 = .ok (.iconst 0, 1) := by decide +kernel
theorem dL_law_603 : decode cL_law 603 = .ok (.laload, 1) := by decide +kernel
theorem dL_law_604 : decode cL_law 604 = .ok (.iload 6, 2) := by decide +kernel
theorem dL_law_606 : decode cL_law 606 = .ok (.i2l, 1) := by decide +kernel
theorem dL_law_607 : decode cL_law 607 = .ok (.lcmp, 1) := by decide +kernel
theorem dL_law_608 : decode cL_law 608 = .ok (.ifCond .eq 5, 3) := by decide +kernel
theorem dL_law_611 : decode cL_law 611 = .ok (.iconst 0, 1) := by decide +kernel
theorem dL_law_612 : decode cL_law 612 = .ok (.ireturn, 1) := by decide +kernel
theorem dL_law_613 : decode cL_law 613 = .ok (.goto 937, 3) := by decide +kernel
theorem dL_law_616 : decode cL_law 616 = .ok (.aload_n 1, 1) := by decide +kernel
theorem dL_law_617 : decode cL_law 617 = .ok (.aload_n 0, 1) := by decide +kernel
theorem dL_law_618 : decode cL_law 618 = .ok (.iload 4, 2) := by decide +kernel
theorem dL_law_620 : decode cL_law 620 = .ok (.iconst 1, 1) := by decide +kernel
theorem dL_law_621 : decode cL_law 621 = .ok (.iadd, 1) := by decide +kernel
theorem dL_law_622 : decode cL_law 622 = .ok (.iaload, 1) := by decide +kernel
theorem dL_law_623 : decode cL_law 623 = .ok (.aload_n 3, 1) := by decide +kernel
theorem dL_law_624 : decode cL_law 624 = .ok (.invokestatic 112, 3) := by decide +kernel
theorem dL_law_627 : decode cL_law 627 = .ok (.istore 5, 2) := by decide +kernel
theorem dL_law_629 : decode cL_law 629 = .ok (.aload_n 2, 1) := by decide +kernel
theorem dL_law_630 : decode cL_law 630 = .ok (.aload_n 0, 1) := by decide +kernel
theorem dL_law_631 : decode cL_law 631 = .ok (.iload 4, 2) := by decide +kernel
theorem dL_law_633 : decode cL_law 633 = .ok (.iconst 1, 1) := by decide +kernel
theorem dL_law_634 : decode cL_law 634 = .ok (.iadd, 1) := by decide +kernel
theorem dL_law_635 : decode cL_law 635 = .ok (.iaload, 1) := by decide +kernel
theorem dL_law_636 : decode cL_law 636 = .ok (.invokevirtual 115, 3) := by decide +kernel
theorem dL_law_639 : decode cL_law 639 = .ok (.istore 6, 2) := by decide +kernel
theorem dL_law_641 : decode cL_law 641 = .ok (.aload_n 2, 1) := by decide +kernel
theorem dL_law_642 : decode cL_law 642 = .ok (.invokevirtual 87, 3) := by decide +kernel
theorem dL_law_645 : decode cL_law 645 = .ok (.iload 5, 2) := by decide +kernel
theorem dL_law_647 : decode cL_law 647 = .ok (.if_icmp .eq 5, 3) := by decide +kernel
theorem dL_law_650 : decode cL_law 650 = .ok (.iconst 0, 1) := by decide +kernel
theorem dL_law_651 : decode cL_law 651 = .ok (.ireturn, 1) := by decide +kernel
theorem dL_law_652 : decode cL_law 652 = .ok (.iload 5, 2) := by decide +kernel
theorem dL_law_654 : decode cL_law 654 = .ok (.ifCond .ne 15, 3) := by decide +kernel
theorem dL_law_657 : decode cL_law 657 = .ok (.aload_n 3, 1) := by decide +kernel
theorem dL_law_658 : decode cL_law 658 = .ok (.iconst 0, 1) := by decide +kernel
theorem dL_law_659 : decode cL_law 659 = .ok (.laload, 1) := by decide +kernel
theorem dL_law_660 : decode cL_law 660 = .ok (.iload 6, 2) := by decide +kernel
theorem dL_law_662 : decode cL_law 662 = .ok (.i2l, 1) := by decide +kernel
theorem dL_law_663 : decode cL_law 663 = .ok (.lcmp, 1) := by decide +kernel
theorem dL_law_664 : decode cL_law 664 = .ok (.ifCond .eq 5, 3) := by decide +kernel
theorem dL_law_667 : decode cL_law 667 = .ok (.iconst 0, 1) := by decide +kernel
theorem dL_law_668 : decode cL_law 668 = .ok (.ireturn, 1) := by decide +kernel
theorem dL_law_669 : decode cL_law 669 = .ok (.goto 881, 3) := by decide +kernel
theorem dL_law_672 : decode cL_law 672 = .ok (.aload_n 1, 1) := by decide +kernel
theorem dL_law_673 : decode cL_law 673 = .ok (.aload_n 0, 1) := by decide +kernel
theorem dL_law_674 : decode cL_law 674 = .ok (.iload 4, 2) := by decide +kernel
theorem dL_law_676 : decode cL_law 676 = .ok (.iconst 1, 1) := by decide +kernel
theorem dL_law_677 : decode cL_law 677 = .ok (.iadd, 1) := by decide +kernel
theorem dL_law_678 : decode cL_law 678 = .ok (.iaload, 1) := by decide +kernel
theorem dL_law_679 : decode cL_law 679 = .ok (.aload_n 0, 1) := by decide +kernel
theorem dL_law_680 : decode cL_law 680 = .ok (.iload 4, 2) := by decide +kernel
theorem dL_law_682 : decode cL_law 682 = .ok (.iconst 2, 1) := by decide +kernel
theorem dL_law_683 : decode cL_law 683 = .ok (.iadd, 1) := by decide +kernel
theorem dL_law_684 : decode cL_law 684 = .ok (.iaload, 1) := by decide +kernel
theorem dL_law_685 : decode cL_law 685 = .ok (.aload_n 0, 1) := by decide +kernel
theorem dL_law_686 : decode cL_law 686 = .ok (.iload 4, 2) := by decide +kernel
theorem dL_law_688 : decode cL_law 688 = .ok (.iconst 3, 1) := by decide +kernel
theorem dL_law_689 : decode cL_law 689 = .ok (.iadd, 1) := by decide +kernel
theorem dL_law_690 : decode cL_law 690 = .ok (.iaload, 1) := by decide +kernel
theorem dL_law_691 : decode cL_law 691 = .ok (.aload_n 0, 1) := by decide +kernel
theorem dL_law_692 : decode cL_law 692 = .ok (.iload 4, 2) := by decide +kernel
theorem dL_law_694 : decode cL_law 694 = .ok (.iconst 4, 1) := by decide +kernel
theorem dL_law_695 : decode cL_law 695 = .ok (.iadd, 1) := by decide +kernel
theorem dL_law_696 : decode cL_law 696 = .ok (.iaload, 1) := by decide +kernel
theorem dL_law_697 : decode cL_law 697 = .ok (.aload_n 3, 1) := by decide +kernel
theorem dL_law_698 : decode cL_law 698 = .ok (.invokestatic 116, 3) := by decide +kernel
theorem dL_law_701 : decode cL_law 701 = .ok (.istore 5, 2) := by decide +kernel
theorem dL_law_703 : decode cL_law 703 = .ok (.aload_n 2, 1) := by decide +kernel
theorem dL_law_704 : decode cL_law 704 = .ok (.aload_n 0, 1) := by decide +kernel
theorem dL_law_705 : decode cL_law 705 = .ok (.iload 4, 2) := by decide +kernel
theorem dL_law_707 : decode cL_law 707 = .ok (.iconst 1, 1) := by decide +kernel
theorem dL_law_708 : decode cL_law 708 = .ok (.iadd, 1) := by decide +kernel
theorem dL_law_709 : decode cL_law 709 = .ok (.iaload, 1) := by decide +kernel
theorem dL_law_710 : decode cL_law 710 = .ok (.aload_n 0, 1) := by decide +kernel
theorem dL_law_711 : decode cL_law 711 = .ok (.iload 4, 2) := by decide +kernel
theorem dL_law_713 : decode cL_law 713 = .ok (.iconst 2, 1) := by decide +kernel
theorem dL_law_714 : decode cL_law 714 = .ok (.iadd, 1) := by decide +kernel
theorem dL_law_715 : decode cL_law 715 = .ok (.iaload, 1) := by decide +kernel
theorem dL_law_716 : decode cL_law 716 = .ok (.aload_n 0, 1) := by decide +kernel
theorem dL_law_717 : decode cL_law 717 = .ok (.iload 4, 2) := by decide +kernel
theorem dL_law_719 : decode cL_law 719 = .ok (.iconst 3, 1) := by decide +kernel
theorem dL_law_720 : decode cL_law 720 = .ok (.iadd, 1) := by decide +kernel
theorem dL_law_721 : decode cL_law 721 = .ok (.iaload, 1) := by decide +kernel
theorem dL_law_722 : decode cL_law 722 = .ok (.aload_n 0, 1) := by decide +kernel
theorem dL_law_723 : decode cL_law 723 = .ok (.iload 4, 2) := by decide +kernel
theorem dL_law_725 : decode cL_law 725 = .ok (.iconst 4, 1) := by decide +kernel
theorem dL_law_726 : decode cL_law 726 = .ok (.iadd, 1) := by decide +kernel
theorem dL_law_727 : decode cL_law 727 = .ok (.iaload, 1) := by decide +kernel
theorem dL_law_728 : decode cL_law 728 = .ok (.invokevirtual 118, 3) := by decide +kernel
theorem dL_law_731 : decode cL_law 731 = .ok (.istore 6, 2) := by decide +kernel
theorem dL_law_733 : decode cL_law 733 = .ok (.aload_n 2, 1) := by decide +kernel
theorem dL_law_734 : decode cL_law 734 = .ok (.invokevirtual 87, 3) := by decide +kernel
theorem dL_law_737 : decode cL_law 737 = .ok (.iload 5, 2) := by decide +kernel
theorem dL_law_739 : decode cL_law 739 = .ok (.if_icmp .eq 5, 3) := by decide +kernel
theorem dL_law_742 : decode cL_law 742 = .ok (.iconst 0, 1) := by decide +kernel
theorem dL_law_743 : decode cL_law 743 = .ok (.ireturn, 1) := by decide +kernel
theorem dL_law_744 : decode cL_law 744 = .ok (.iload 5, 2) := by decide +kernel
theorem dL_law_746 : decode cL_law 746 = .ok (.ifCond .ne 15, 3) := by decide +kernel
theorem dL_law_749 : decode cL_law 749 = .ok (.aload_n 3, 1) := by decide +kernel
theorem dL_law_750 : decode cL_law 750 = .ok (.iconst 0, 1) := by decide +kernel
theorem dL_law_751 : decode cL_law 751 = .ok (.laload, 1) := by decide +kernel
theorem dL_law_752 : decode cL_law 752 = .ok (.iload 6, 2) := by decide +kernel
theorem dL_law_754 : decode cL_law 754 = .ok (.i2l, 1) := by decide +kernel
theorem dL_law_755 : decode cL_law 755 = .ok (.lcmp, 1) := by decide +kernel
theorem dL_law_756 : decode cL_law 756 = .ok (.ifCond .eq 5, 3) := by decide +kernel
theorem dL_law_759 : decode cL_law 759 = .ok (.iconst 0, 1) := by decide +kernel
theorem dL_law_760 : decode cL_law 760 = .ok (.ireturn, 1) := by decide +kernel
theorem dL_law_761 : decode cL_law 761 = .ok (.goto 789, 3) := by decide +kernel
theorem dL_law_764 : decode cL_law 764 = .ok (.aload_n 1, 1) := by decide +kernel
theorem dL_law_765 : decode cL_law 765 = .ok (.aload_n 0, 1) := by decide +kernel
theorem dL_law_766 : decode cL_law 766 = .ok (.iload 4, 2) := by decide +kernel
theorem dL_law_768 : decode cL_law 768 = .ok (.iconst 1, 1) := by decide +kernel
theorem dL_law_769 : decode cL_law 769 = .ok (.iadd, 1) := by decide +kernel
theorem dL_law_770 : decode cL_law 770 = .ok (.iaload, 1) := by decide +kernel
theorem dL_law_771 : decode cL_law 771 = .ok (.aload_n 0, 1) := by decide +kernel
theorem dL_law_772 : decode cL_law 772 = .ok (.iload 4, 2) := by decide +kernel
theorem dL_law_774 : decode cL_law 774 = .ok (.iconst 2, 1) := by decide +kernel
theorem dL_law_775 : decode cL_law 775 = .ok (.iadd, 1) := by decide +kernel
theorem dL_law_776 : decode cL_law 776 = .ok (.iaload, 1) := by decide +kernel
theorem dL_law_777 : decode cL_law 777 = .ok (.aload_n 3, 1) := by decide +kernel
theorem dL_law_778 : decode cL_law 778 = .ok (.invokestatic 119, 3) := by decide +kernel
theorem dL_law_781 : decode cL_law 781 = .ok (.istore 5, 2) := by decide +kernel
theorem dL_law_783 : decode cL_law 783 = .ok (.aload_n 2, 1) := by decide +kernel
theorem dL_law_784 : decode cL_law 784 = .ok (.aload_n 0, 1) := by decide +kernel
theorem dL_law_785 : decode cL_law 785 = .ok (.iload 4, 2) := by decide +kernel
theorem dL_law_787 : decode cL_law 787 = .ok (.iconst 1, 1) := by decide +kernel
theorem dL_law_788 : decode cL_law 788 = .ok (.iadd, 1) := by decide +kernel
theorem dL_law_789 : decode cL_law 789 = .ok (.iaload, 1) := by decide +kernel
theorem dL_law_790 : decode cL_law 790 = .ok (.aload_n 0, 1) := by decide +kernel
theorem dL_law_791 : decode cL_law 791 = .ok (.iload 4, 2) := by decide +kernel
theorem dL_law_793 : decode cL_law 793 = .ok (.iconst 2, 1) := by decide +kernel
theorem dL_law_794 : decode cL_law 794 = .ok (.iadd, 1) := by decide +kernel
theorem dL_law_795 : decode cL_law 795 = .ok (.iaload, 1) := by decide +kernel
theorem dL_law_796 : decode cL_law 796 = .ok (.invokevirtual 121, 3) := by decide +kernel
theorem dL_law_799 : decode cL_law 799 = .ok (.istore 6, 2) := by decide +kernel
theorem dL_law_801 : decode cL_law 801 = .ok (.aload_n 2, 1) := by decide +kernel
theorem dL_law_802 : decode cL_law 802 = .ok (.invokevirtual 87, 3) := by decide +kernel
theorem dL_law_805 : decode cL_law 805 = .ok (.iload 5, 2) := by decide +kernel
theorem dL_law_807 : decode cL_law 807 = .ok (.if_icmp .eq 5, 3) := by decide +kernel
theorem dL_law_810 : decode cL_law 810 = .ok (.iconst 0, 1) := by decide +kernel
theorem dL_law_811 : decode cL_law 811 = .ok (.ireturn, 1) := by decide +kernel
theorem dL_law_812 : decode cL_law 812 = .ok (.iload 5, 2) := by decide +kernel
theorem dL_law_814 : decode cL_law 814 = .ok (.ifCond .ne 15, 3) := by decide +kernel
theorem dL_law_817 : decode cL_law 817 = .ok (.aload_n 3, 1) := by decide +kernel
theorem dL_law_818 : decode cL_law 818 = .ok (.iconst 0, 1) := by decide +kernel
theorem dL_law_819 : decode cL_law 819 = .ok (.laload, 1) := by decide +kernel
theorem dL_law_820 : decode cL_law 820 = .ok (.iload 6, 2) := by decide +kernel
theorem dL_law_822 : decode cL_law 822 = .ok (.i2l, 1) := by decide +kernel
theorem dL_law_823 : decode cL_law 823 = .ok (.lcmp, 1) := by decide +kernel
theorem dL_law_824 : decode cL_law 824 = .ok (.ifCond .eq 5, 3) := by decide +kernel
theorem dL_law_827 : decode cL_law 827 = .ok (.iconst 0, 1) := by decide +kernel
theorem dL_law_828 : decode cL_law 828 = .ok (.ireturn, 1) := by decide +kernel
theorem dL_law_829 : decode cL_law 829 = .ok (.goto 721, 3) := by decide +kernel
theorem dL_law_832 : decode cL_law 832 = .ok (.aload_n 1, 1) := by decide +kernel
theorem dL_law_833 : decode cL_law 833 = .ok (.aload_n 0, 1) := by decide +kernel
theorem dL_law_834 : decode cL_law 834 = .ok (.iload 4, 2) := by decide +kernel
theorem dL_law_836 : decode cL_law 836 = .ok (.iconst 1, 1) := by decide +kernel
theorem dL_law_837 : decode cL_law 837 = .ok (.iadd, 1) := by decide +kernel
theorem dL_law_838 : decode cL_law 838 = .ok (.iaload, 1) := by decide +kernel
theorem dL_law_839 : decode cL_law 839 = .ok (.aload_n 3, 1) := by decide +kernel
theorem dL_law_840 : decode cL_law 840 = .ok (.invokestatic 122, 3) := by decide +kernel
theorem dL_law_843 : decode cL_law 843 = .ok (.istore 5, 2) := by decide +kernel
theorem dL_law_845 : decode cL_law 845 = .ok (.aload_n 2, 1) := by decide +kernel
theorem dL_law_846 : decode cL_law 846 = .ok (.aload_n 0, 1) := by decide +kernel
theorem dL_law_847 : decode cL_law 847 = .ok (.iload 4, 2) := by decide +kernel
theorem dL_law_849 : decode cL_law 849 = .ok (.iconst 1, 1) := by decide +kernel
theorem dL_law_850 : decode cL_law 850 = .ok (.iadd, 1) := by decide +kernel
theorem dL_law_851 : decode cL_law 851 = .ok (.iaload, 1) := by decide +kernel
theorem dL_law_852 : decode cL_law 852 = .ok (.invokevirtual 124, 3) := by decide +kernel
theorem dL_law_855 : decode cL_law 855 = .ok (.istore 6, 2) := by decide +kernel
theorem dL_law_857 : decode cL_law 857 = .ok (.aload_n 2, 1) := by decide +kernel
theorem dL_law_858 : decode cL_law 858 = .ok (.invokevirtual 87, 3) := by decide +kernel
theorem dL_law_861 : decode cL_law 861 = .ok (.iload 5, 2) := by decide +kernel
theorem dL_law_863 : decode cL_law 863 = .ok (.if_icmp .eq 5, 3) := by decide +kernel
theorem dL_law_866 : decode cL_law 866 = .ok (.iconst 0, 1) := by decide +kernel
theorem dL_law_867 : decode cL_law 867 = .ok (.ireturn, 1) := by decide +kernel
theorem dL_law_868 : decode cL_law 868 = .ok (.iload 5, 2) := by decide +kernel
theorem dL_law_870 : decode cL_law 870 = .ok (.ifCond .ne 15, 3) := by decide +kernel
theorem dL_law_873 : decode cL_law 873 = .ok (.aload_n 3, 1) := by decide +kernel
theorem dL_law_874 : decode cL_law 874 = .ok (.iconst 0, 1) := by decide +kernel
theorem dL_law_875 : decode cL_law 875 = .ok (.laload, 1) := by decide +kernel
theorem dL_law_876 : decode cL_law 876 = .ok (.iload 6, 2) := by decide +kernel
theorem dL_law_878 : decode cL_law 878 = .ok (.i2l, 1) := by decide +kernel
theorem dL_law_879 : decode cL_law 879 = .ok (.lcmp, 1) := by decide +kernel
theorem dL_law_880 : decode cL_law 880 = .ok (.ifCond .eq 5, 3) := by decide +kernel
theorem dL_law_883 : decode cL_law 883 = .ok (.iconst 0, 1) := by decide +kernel
theorem dL_law_884 : decode cL_law 884 = .ok (.ireturn, 1) := by decide +kernel
theorem dL_law_885 : decode cL_law 885 = .ok (.goto 665, 3) := by decide +kernel
theorem dL_law_888 : decode cL_law 888 = .ok (.aload_n 1, 1) := by decide +kernel
theorem dL_law_889 : decode cL_law 889 = .ok (.aload_n 0, 1) := by decide +kernel
theorem dL_law_890 : decode cL_law 890 = .ok (.iload 4, 2) := by decide +kernel
theorem dL_law_892 : decode cL_law 892 = .ok (.iconst 1, 1) := by decide +kernel
theorem dL_law_893 : decode cL_law 893 = .ok (.iadd, 1) := by decide +kernel
theorem dL_law_894 : decode cL_law 894 = .ok (.iaload, 1) := by decide +kernel
theorem dL_law_895 : decode cL_law 895 = .ok (.aload_n 3, 1) := by decide +kernel
theorem dL_law_896 : decode cL_law 896 = .ok (.invokestatic 125, 3) := by decide +kernel
theorem dL_law_899 : decode cL_law 899 = .ok (.istore 5, 2) := by decide +kernel
theorem dL_law_901 : decode cL_law 901 = .ok (.aload_n 2, 1) := by decide +kernel
theorem dL_law_902 : decode cL_law 902 = .ok (.aload_n 0, 1) := by decide +kernel
theorem dL_law_903 : decode cL_law 903 = .ok (.iload 4, 2) := by decide +kernel
theorem dL_law_905 : decode cL_law 905 = .ok (.iconst 1, 1) := by decide +kernel
theorem dL_law_906 : decode cL_law 906 = .ok (.iadd, 1) := by decide +kernel
theorem dL_law_907 : decode cL_law 907 = .ok (.iaload, 1) := by decide +kernel
theorem dL_law_908 : decode cL_law 908 = .ok (.invokevirtual 127, 3) := by decide +kernel
theorem dL_law_911 : decode cL_law 911 = .ok (.istore 6, 2) := by decide +kernel
theorem dL_law_913 : decode cL_law 913 = .ok (.aload_n 2, 1) := by decide +kernel
theorem dL_law_914 : decode cL_law 914 = .ok (.invokevirtual 87, 3) := by decide +kernel
theorem dL_law_917 : decode cL_law 917 = .ok (.iload 5, 2) := by decide +kernel
theorem dL_law_919 : decode cL_law 919 = .ok (.if_icmp .eq 5, 3) := by decide +kernel
theorem dL_law_922 : decode cL_law 922 = .ok (.iconst 0, 1) := by decide +kernel
theorem dL_law_923 : decode cL_law 923 = .ok (.ireturn, 1) := by decide +kernel
theorem dL_law_924 : decode cL_law 924 = .ok (.iload 5, 2) := by decide +kernel
theorem dL_law_926 : decode cL_law 926 = .ok (.ifCond .ne 15, 3) := by decide +kernel
theorem dL_law_929 : decode cL_law 929 = .ok (.aload_n 3, 1) := by decide +kernel
theorem dL_law_930 : decode cL_law 930 = .ok (.iconst 0, 1) := by decide +kernel
theorem dL_law_931 : decode cL_law 931 = .ok (.laload, 1) := by decide +kernel
theorem dL_law_932 : decode cL_law 932 = .ok (.iload 6, 2) := by decide +kernel
theorem dL_law_934 : decode cL_law 934 = .ok (.i2l, 1) := by decide +kernel
theorem dL_law_935 : decode cL_law 935 = .ok (.lcmp, 1) := by decide +kernel
theorem dL_law_936 : decode cL_law 936 = .ok (.ifCond .eq 5, 3) := by decide +kernel
theorem dL_law_939 : decode cL_law 939 = .ok (.iconst 0, 1) := by decide +kernel
theorem dL_law_940 : decode cL_law 940 = .ok (.ireturn, 1) := by decide +kernel
theorem dL_law_941 : decode cL_law 941 = .ok (.goto 609, 3) := by decide +kernel
theorem dL_law_944 : decode cL_law 944 = .ok (.aload_n 1, 1) := by decide +kernel
theorem dL_law_945 : decode cL_law 945 = .ok (.aload_n 0, 1) := by decide +kernel
theorem dL_law_946 : decode cL_law 946 = .ok (.iload 4, 2) := by decide +kernel
theorem dL_law_948 : decode cL_law 948 = .ok (.iconst 1, 1) := by decide +kernel
theorem dL_law_949 : decode cL_law 949 = .ok (.iadd, 1) := by decide +kernel
theorem dL_law_950 : decode cL_law 950 = .ok (.iaload, 1) := by decide +kernel
theorem dL_law_951 : decode cL_law 951 = .ok (.aload_n 0, 1) := by decide +kernel
theorem dL_law_952 : decode cL_law 952 = .ok (.iload 4, 2) := by decide +kernel
theorem dL_law_954 : decode cL_law 954 = .ok (.iconst 2, 1) := by decide +kernel
theorem dL_law_955 : decode cL_law 955 = .ok (.iadd, 1) := by decide +kernel
theorem dL_law_956 : decode cL_law 956 = .ok (.iaload, 1) := by decide +kernel
theorem dL_law_957 : decode cL_law 957 = .ok (.aload_n 3, 1) := by decide +kernel
theorem dL_law_958 : decode cL_law 958 = .ok (.invokestatic 128, 3) := by decide +kernel
theorem dL_law_961 : decode cL_law 961 = .ok (.istore 5, 2) := by decide +kernel
theorem dL_law_963 : decode cL_law 963 = .ok (.aload_n 2, 1) := by decide +kernel
theorem dL_law_964 : decode cL_law 964 = .ok (.aload_n 0, 1) := by decide +kernel
theorem dL_law_965 : decode cL_law 965 = .ok (.iload 4, 2) := by decide +kernel
theorem dL_law_967 : decode cL_law 967 = .ok (.iconst 1, 1) := by decide +kernel
theorem dL_law_968 : decode cL_law 968 = .ok (.iadd, 1) := by decide +kernel
theorem dL_law_969 : decode cL_law 969 = .ok (.iaload, 1) := by decide +kernel
theorem dL_law_970 : decode cL_law 970 = .ok (.aload_n 0, 1) := by decide +kernel
theorem dL_law_971 : decode cL_law 971 = .ok (.iload 4, 2) := by decide +kernel
theorem dL_law_973 : decode cL_law 973 = .ok (.iconst 2, 1) := by decide +kernel
theorem dL_law_974 : decode cL_law 974 = .ok (.iadd, 1) := by decide +kernel
theorem dL_law_975 : decode cL_law 975 = .ok (.iaload, 1) := by decide +kernel
theorem dL_law_976 : decode cL_law 976 = .ok (.invokevirtual 130, 3) := by decide +kernel
theorem dL_law_979 : decode cL_law 979 = .ok (.istore 6, 2) := by decide +kernel
theorem dL_law_981 : decode cL_law 981 = .ok (.aload_n 2, 1) := by decide +kernel
theorem dL_law_982 : decode cL_law 982 = .ok (.invokevirtual 87, 3) := by decide +kernel
theorem dL_law_985 : decode cL_law 985 = .ok (.iload 5, 2) := by decide +kernel
theorem dL_law_987 : decode cL_law 987 = .ok (.if_icmp .eq 5, 3) := by decide +kernel
theorem dL_law_990 : decode cL_law 990 = .ok (.iconst 0, 1) := by decide +kernel
theorem dL_law_991 : decode cL_law 991 = .ok (.ireturn, 1) := by decide +kernel
theorem dL_law_992 : decode cL_law 992 = .ok (.iload 5, 2) := by decide +kernel
theorem dL_law_994 : decode cL_law 994 = .ok (.ifCond .ne 15, 3) := by decide +kernel
theorem dL_law_997 : decode cL_law 997 = .ok (.aload_n 3, 1) := by decide +kernel
theorem dL_law_998 : decode cL_law 998 = .ok (.iconst 0, 1) := by decide +kernel
theorem dL_law_999 : decode cL_law 999 = .ok (.laload, 1) := by decide +kernel
theorem dL_law_1000 : decode cL_law 1000 = .ok (.iload 6, 2) := by decide +kernel
theorem dL_law_1002 : decode cL_law 1002 = .ok (.i2l, 1) := by decide +kernel
theorem dL_law_1003 : decode cL_law 1003 = .ok (.lcmp, 1) := by decide +kernel
theorem dL_law_1004 : decode cL_law 1004 = .ok (.ifCond .eq 5, 3) := by decide +kernel
theorem dL_law_1007 : decode cL_law 1007 = .ok (.iconst 0, 1) := by decide +kernel
theorem dL_law_1008 : decode cL_law 1008 = .ok (.ireturn, 1) := by decide +kernel
theorem dL_law_1009 : decode cL_law 1009 = .ok (.goto 541, 3) := by decide +kernel
theorem dL_law_1012 : decode cL_law 1012 = .ok (.aload_n 1, 1) := by decide +kernel
theorem dL_law_1013 : decode cL_law 1013 = .ok (.aload_n 0, 1) := by decide +kernel
theorem dL_law_1014 : decode cL_law 1014 = .ok (.iload 4, 2) := by decide +kernel
theorem dL_law_1016 : decode cL_law 1016 = .ok (.iconst 1, 1) := by decide +kernel
theorem dL_law_1017 : decode cL_law 1017 = .ok (.iadd, 1) := by decide +kernel
theorem dL_law_1018 : decode cL_law 1018 = .ok (.iaload, 1) := by decide +kernel
theorem dL_law_1019 : decode cL_law 1019 = .ok (.aload_n 0, 1) := by decide +kernel
theorem dL_law_1020 : decode cL_law 1020 = .ok (.iload 4, 2) := by decide +kernel
theorem dL_law_1022 : decode cL_law 1022 = .ok (.iconst 2, 1) := by decide +kernel
theorem dL_law_1023 : decode cL_law 1023 = .ok (.iadd, 1) := by decide +kernel
theorem dL_law_1024 : decode cL_law 1024 = .ok (.iaload, 1) := by decide +kernel
theorem dL_law_1025 : decode cL_law 1025 = .ok (.aload_n 3, 1) := by decide +kernel
theorem dL_law_1026 : decode cL_law 1026 = .ok (.invokestatic 131, 3) := by decide +kernel
theorem dL_law_1029 : decode cL_law 1029 = .ok (.istore 5, 2) := by decide +kernel
theorem dL_law_1031 : decode cL_law 1031 = .ok (.aload_n 2, 1) := by decide +kernel
theorem dL_law_1032 : decode cL_law 1032 = .ok (.aload_n 0, 1) := by decide +kernel
theorem dL_law_1033 : decode cL_law 1033 = .ok (.iload 4, 2) := by decide +kernel
theorem dL_law_1035 : decode cL_law 1035 = .ok (.iconst 1, 1) := by decide +kernel
theorem dL_law_1036 : decode cL_law 1036 = .ok (.iadd, 1) := by decide +kernel
theorem dL_law_1037 : decode cL_law 1037 = .ok (.iaload, 1) := by decide +kernel
theorem dL_law_1038 : decode cL_law 1038 = .ok (.aload_n 0, 1) := by decide +kernel
theorem dL_law_1039 : decode cL_law 1039 = .ok (.iload 4, 2) := by decide +kernel
theorem dL_law_1041 : decode cL_law 1041 = .ok (.iconst 2, 1) := by decide +kernel
theorem dL_law_1042 : decode cL_law 1042 = .ok (.iadd, 1) := by decide +kernel
theorem dL_law_1043 : decode cL_law 1043 = .ok (.iaload, 1) := by decide +kernel
theorem dL_law_1044 : decode cL_law 1044 = .ok (.invokevirtual 133, 3) := by decide +kernel
theorem dL_law_1047 : decode cL_law 1047 = .ok (.istore 6, 2) := by decide +kernel
theorem dL_law_1049 : decode cL_law 1049 = .ok (.aload_n 2, 1) := by decide +kernel
theorem dL_law_1050 : decode cL_law 1050 = .ok (.invokevirtual 87, 3) := by decide +kernel
theorem dL_law_1053 : decode cL_law 1053 = .ok (.iload 5, 2) := by decide +kernel
theorem dL_law_1055 : decode cL_law 1055 = .ok (.if_icmp .eq 5, 3) := by decide +kernel
theorem dL_law_1058 : decode cL_law 1058 = .ok (.iconst 0, 1) := by decide +kernel
theorem dL_law_1059 : decode cL_law 1059 = .ok (.ireturn, 1) := by decide +kernel
theorem dL_law_1060 : decode cL_law 1060 = .ok (.iload 5, 2) := by decide +kernel
theorem dL_law_1062 : decode cL_law 1062 = .ok (.ifCond .ne 15, 3) := by decide +kernel
theorem dL_law_1065 : decode cL_law 1065 = .ok (.aload_n 3, 1) := by decide +kernel
theorem dL_law_1066 : decode cL_law 1066 = .ok (.iconst 0, 1) := by decide +kernel
theorem dL_law_1067 : decode cL_law 1067 = .ok (.laload, 1) := by decide +kernel
theorem dL_law_1068 : decode cL_law 1068 = .ok (.iload 6, 2) := by decide +kernel
theorem dL_law_1070 : decode cL_law 1070 = .ok (.i2l, 1) := by decide +kernel
theorem dL_law_1071 : decode cL_law 1071 = .ok (.lcmp, 1) := by decide +kernel
theorem dL_law_1072 : decode cL_law 1072 = .ok (.ifCond .eq 5, 3) := by decide +kernel
theorem dL_law_1075 : decode cL_law 1075 = .ok (.iconst 0, 1) := by decide +kernel
theorem dL_law_1076 : decode cL_law 1076 = .ok (.ireturn, 1) := by decide +kernel
theorem dL_law_1077 : decode cL_law 1077 = .ok (.goto 473, 3) := by decide +kernel
theorem dL_law_1080 : decode cL_law 1080 = .ok (.aload_n 1, 1) := by decide +kernel
theorem dL_law_1081 : decode cL_law 1081 = .ok (.invokevirtual 134, 3) := by decide +kernel
theorem dL_law_1084 : decode cL_law 1084 = .ok (.aload_n 2, 1) := by decide +kernel
theorem dL_law_1085 : decode cL_law 1085 = .ok (.invokevirtual 137, 3) := by decide +kernel
theorem dL_law_1088 : decode cL_law 1088 = .ok (.if_icmp .eq 462, 3) := by decide +kernel
theorem dL_law_1091 : decode cL_law 1091 = .ok (.iconst 0, 1) := by decide +kernel
theorem dL_law_1092 : decode cL_law 1092 = .ok (.ireturn, 1) := by decide +kernel
theorem dL_law_1093 : decode cL_law 1093 = .ok (.aload_n 1, 1) := by decide +kernel
theorem dL_law_1094 : decode cL_law 1094 = .ok (.aload_n 0, 1) := by decide +kernel
theorem dL_law_1095 : decode cL_law 1095 = .ok (.iload 4, 2) := by decide +kernel
theorem dL_law_1097 : decode cL_law 1097 = .ok (.iconst 1, 1) := by decide +kernel
theorem dL_law_1098 : decode cL_law 1098 = .ok (.iadd, 1) := by decide +kernel
theorem dL_law_1099 : decode cL_law 1099 = .ok (.iaload, 1) := by decide +kernel
theorem dL_law_1100 : decode cL_law 1100 = .ok (.aload_n 0, 1) := by decide +kernel
theorem dL_law_1101 : decode cL_law 1101 = .ok (.iload 4, 2) := by decide +kernel
theorem dL_law_1103 : decode cL_law 1103 = .ok (.iconst 2, 1) := by decide +kernel
theorem dL_law_1104 : decode cL_law 1104 = .ok (.iadd, 1) := by decide +kernel
theorem dL_law_1105 : decode cL_law 1105 = .ok (.iaload, 1) := by decide +kernel
theorem dL_law_1106 : decode cL_law 1106 = .ok (.aload_n 3, 1) := by decide +kernel
theorem dL_law_1107 : decode cL_law 1107 = .ok (.invokestatic 138, 3) := by decide +kernel
theorem dL_law_1110 : decode cL_law 1110 = .ok (.istore 5, 2) := by decide +kernel
theorem dL_law_1112 : decode cL_law 1112 = .ok (.aload_n 2, 1) := by decide +kernel
theorem dL_law_1113 : decode cL_law 1113 = .ok (.aload_n 0, 1) := by decide +kernel
theorem dL_law_1114 : decode cL_law 1114 = .ok (.iload 4, 2) := by decide +kernel
theorem dL_law_1116 : decode cL_law 1116 = .ok (.iconst 1, 1) := by decide +kernel
theorem dL_law_1117 : decode cL_law 1117 = .ok (.iadd, 1) := by decide +kernel
theorem dL_law_1118 : decode cL_law 1118 = .ok (.iaload, 1) := by decide +kernel
theorem dL_law_1119 : decode cL_law 1119 = .ok (.aload_n 0, 1) := by decide +kernel
theorem dL_law_1120 : decode cL_law 1120 = .ok (.iload 4, 2) := by decide +kernel
theorem dL_law_1122 : decode cL_law 1122 = .ok (.iconst 2, 1) := by decide +kernel
theorem dL_law_1123 : decode cL_law 1123 = .ok (.iadd, 1) := by decide +kernel
theorem dL_law_1124 : decode cL_law 1124 = .ok (.iaload, 1) := by decide +kernel
theorem dL_law_1125 : decode cL_law 1125 = .ok (.invokevirtual 140, 3) := by decide +kernel
theorem dL_law_1128 : decode cL_law 1128 = .ok (.istore 6, 2) := by decide +kernel
theorem dL_law_1130 : decode cL_law 1130 = .ok (.aload_n 2, 1) := by decide +kernel
theorem dL_law_1131 : decode cL_law 1131 = .ok (.invokevirtual 87, 3) := by decide +kernel
theorem dL_law_1134 : decode cL_law 1134 = .ok (.iload 5, 2) := by decide +kernel
theorem dL_law_1136 : decode cL_law 1136 = .ok (.if_icmp .eq 5, 3) := by decide +kernel
theorem dL_law_1139 : decode cL_law 1139 = .ok (.iconst 0, 1) := by decide +kernel
theorem dL_law_1140 : decode cL_law 1140 = .ok (.ireturn, 1) := by decide +kernel
theorem dL_law_1141 : decode cL_law 1141 = .ok (.iload 5, 2) := by decide +kernel
theorem dL_law_1143 : decode cL_law 1143 = .ok (.ifCond .ne 15, 3) := by decide +kernel
theorem dL_law_1146 : decode cL_law 1146 = .ok (.aload_n 3, 1) := by decide +kernel
theorem dL_law_1147 : decode cL_law 1147 = .ok (.iconst 0, 1) := by decide +kernel
theorem dL_law_1148 : decode cL_law 1148 = .ok (.laload, 1) := by decide +kernel
theorem dL_law_1149 : decode cL_law 1149 = .ok (.iload 6, 2) := by decide +kernel
theorem dL_law_1151 : decode cL_law 1151 = .ok (.i2l, 1) := by decide +kernel
theorem dL_law_1152 : decode cL_law 1152 = .ok (.lcmp, 1) := by decide +kernel
theorem dL_law_1153 : decode cL_law 1153 = .ok (.ifCond .eq 5, 3) := by decide +kernel
theorem dL_law_1156 : decode cL_law 1156 = .ok (.iconst 0, 1) := by decide +kernel
theorem dL_law_1157 : decode cL_law 1157 = .ok (.ireturn, 1) := by decide +kernel
theorem dL_law_1158 : decode cL_law 1158 = .ok (.goto 392, 3) := by decide +kernel
theorem dL_law_1161 : decode cL_law 1161 = .ok (.aload_n 1, 1) := by decide +kernel
theorem dL_law_1162 : decode cL_law 1162 = .ok (.aload_n 0, 1) := by decide +kernel
theorem dL_law_1163 : decode cL_law 1163 = .ok (.iload 4, 2) := by decide +kernel
theorem dL_law_1165 : decode cL_law 1165 = .ok (.iconst 1, 1) := by decide +kernel
theorem dL_law_1166 : decode cL_law 1166 = .ok (.iadd, 1) := by decide +kernel
theorem dL_law_1167 : decode cL_law 1167 = .ok (.iaload, 1) := by decide +kernel
theorem dL_law_1168 : decode cL_law 1168 = .ok (.aload_n 3, 1) := by decide +kernel
theorem dL_law_1169 : decode cL_law 1169 = .ok (.invokestatic 141, 3) := by decide +kernel
theorem dL_law_1172 : decode cL_law 1172 = .ok (.istore 5, 2) := by decide +kernel
theorem dL_law_1174 : decode cL_law 1174 = .ok (.aload_n 2, 1) := by decide +kernel
theorem dL_law_1175 : decode cL_law 1175 = .ok (.aload_n 0, 1) := by decide +kernel
theorem dL_law_1176 : decode cL_law 1176 = .ok (.iload 4, 2) := by decide +kernel
theorem dL_law_1178 : decode cL_law 1178 = .ok (.iconst 1, 1) := by decide +kernel
theorem dL_law_1179 : decode cL_law 1179 = .ok (.iadd, 1) := by decide +kernel
theorem dL_law_1180 : decode cL_law 1180 = .ok (.iaload, 1) := by decide +kernel
theorem dL_law_1181 : decode cL_law 1181 = .ok (.invokevirtual 143, 3) := by decide +kernel
theorem dL_law_1184 : decode cL_law 1184 = .ok (.istore 6, 2) := by decide +kernel
theorem dL_law_1186 : decode cL_law 1186 = .ok (.aload_n 2, 1) := by decide +kernel
theorem dL_law_1187 : decode cL_law 1187 = .ok (.invokevirtual 87, 3) := by decide +kernel
theorem dL_law_1190 : decode cL_law 1190 = .ok (.iload 5, 2) := by decide +kernel
theorem dL_law_1192 : decode cL_law 1192 = .ok (.if_icmp .eq 5, 3) := by decide +kernel
theorem dL_law_1195 : decode cL_law 1195 = .ok (.iconst 0, 1) := by decide +kernel
theorem dL_law_1196 : decode cL_law 1196 = .ok (.ireturn, 1) := by decide +kernel
theorem dL_law_1197 : decode cL_law 1197 = .ok (.iload 5, 2) := by decide +kernel
theorem dL_law_1199 : decode cL_law 1199 = .ok (.ifCond .ne 15, 3) := by decide +kernel
theorem dL_law_1202 : decode cL_law 1202 = .ok (.aload_n 3, 1) := by decide +kernel
theorem dL_law_1203 : decode cL_law 1203 = .ok (.iconst 0, 1) := by decide +kernel
theorem dL_law_1204 : decode cL_law 1204 = .ok (.laload, 1) := by decide +kernel
theorem dL_law_1205 : decode cL_law 1205 = .ok (.iload 6, 2) := by decide +kernel
theorem dL_law_1207 : decode cL_law 1207 = .ok (.i2l, 1) := by decide +kernel
theorem dL_law_1208 : decode cL_law 1208 = .ok (.lcmp, 1) := by decide +kernel
theorem dL_law_1209 : decode cL_law 1209 = .ok (.ifCond .eq 5, 3) := by decide +kernel
theorem dL_law_1212 : decode cL_law 1212 = .ok (.iconst 0, 1) := by decide +kernel
theorem dL_law_1213 : decode cL_law 1213 = .ok (.ireturn, 1) := by decide +kernel
theorem dL_law_1214 : decode cL_law 1214 = .ok (.goto 336, 3) := by decide +kernel
theorem dL_law_1217 : decode cL_law 1217 = .ok (.aload_n 1, 1) := by decide +kernel
theorem dL_law_1218 : decode cL_law 1218 = .ok (.aload_n 0, 1) := by decide +kernel
theorem dL_law_1219 : decode cL_law 1219 = .ok (.iload 4, 2) := by decide +kernel
theorem dL_law_1221 : decode cL_law 1221 = .ok (.iconst 1, 1) := by decide +kernel
theorem dL_law_1222 : decode cL_law 1222 = .ok (.iadd, 1) := by decide +kernel
theorem dL_law_1223 : decode cL_law 1223 = .ok (.iaload, 1) := by decide +kernel
theorem dL_law_1224 : decode cL_law 1224 = .ok (.aload_n 3, 1) := by decide +kernel
theorem dL_law_1225 : decode cL_law 1225 = .ok (.invokestatic 144, 3) := by decide +kernel
theorem dL_law_1228 : decode cL_law 1228 = .ok (.istore 5, 2) := by decide +kernel
theorem dL_law_1230 : decode cL_law 1230 = .ok (.aload_n 2, 1) := by decide +kernel
theorem dL_law_1231 : decode cL_law 1231 = .ok (.aload_n 0, 1) := by decide +kernel
theorem dL_law_1232 : decode cL_law 1232 = .ok (.iload 4, 2) := by decide +kernel
theorem dL_law_1234 : decode cL_law 1234 = .ok (.iconst 1, 1) := by decide +kernel
theorem dL_law_1235 : decode cL_law 1235 = .ok (.iadd, 1) := by decide +kernel
theorem dL_law_1236 : decode cL_law 1236 = .ok (.iaload, 1) := by decide +kernel
theorem dL_law_1237 : decode cL_law 1237 = .ok (.invokevirtual 146, 3) := by decide +kernel
theorem dL_law_1240 : decode cL_law 1240 = .ok (.istore 6, 2) := by decide +kernel
theorem dL_law_1242 : decode cL_law 1242 = .ok (.aload_n 2, 1) := by decide +kernel
theorem dL_law_1243 : decode cL_law 1243 = .ok (.invokevirtual 87, 3) := by decide +kernel
theorem dL_law_1246 : decode cL_law 1246 = .ok (.iload 5, 2) := by decide +kernel
theorem dL_law_1248 : decode cL_law 1248 = .ok (.if_icmp .eq 5, 3) := by decide +kernel
theorem dL_law_1251 : decode cL_law 1251 = .ok (.iconst 0, 1) := by decide +kernel
theorem dL_law_1252 : decode cL_law 1252 = .ok (.ireturn, 1) := by decide +kernel
theorem dL_law_1253 : decode cL_law 1253 = .ok (.iload 5, 2) := by decide +kernel
theorem dL_law_1255 : decode cL_law 1255 = .ok (.ifCond .ne 15, 3) := by decide +kernel
theorem dL_law_1258 : decode cL_law 1258 = .ok (.aload_n 3, 1) := by decide +kernel
theorem dL_law_1259 : decode cL_law 1259 = .ok (.iconst 0, 1) := by decide +kernel
theorem dL_law_1260 : decode cL_law 1260 = .ok (.laload, 1) := by decide +kernel
theorem dL_law_1261 : decode cL_law 1261 = .ok (.iload 6, 2) := by decide +kernel
theorem dL_law_1263 : decode cL_law 1263 = .ok (.i2l, 1) := by decide +kernel
theorem dL_law_1264 : decode cL_law 1264 = .ok (.lcmp, 1) := by decide +kernel
theorem dL_law_1265 : decode cL_law 1265 = .ok (.ifCond .eq 5, 3) := by decide +kernel
theorem dL_law_1268 : decode cL_law 1268 = .ok (.iconst 0, 1) := by decide +kernel
theorem dL_law_1269 : decode cL_law 1269 = .ok (.ireturn, 1) := by decide +kernel
theorem dL_law_1270 : decode cL_law 1270 = .ok (.goto 280, 3) := by decide +kernel
theorem dL_law_1273 : decode cL_law 1273 = .ok (.aload_n 1, 1) := by decide +kernel
theorem dL_law_1274 : decode cL_law 1274 = .ok (.aload_n 0, 1) := by decide +kernel
theorem dL_law_1275 : decode cL_law 1275 = .ok (.iload 4, 2) := by decide +kernel
theorem dL_law_1277 : decode cL_law 1277 = .ok (.iconst 1, 1) := by decide +kernel
theorem dL_law_1278 : decode cL_law 1278 = .ok (.iadd, 1) := by decide +kernel
theorem dL_law_1279 : decode cL_law 1279 = .ok (.iaload, 1) := by decide +kernel
theorem dL_law_1280 : decode cL_law 1280 = .ok (.aload_n 3, 1) := by decide +kernel
theorem dL_law_1281 : decode cL_law 1281 = .ok (.invokestatic 147, 3) := by decide +kernel
theorem dL_law_1284 : decode cL_law 1284 = .ok (.istore 5, 2) := by decide +kernel
theorem dL_law_1286 : decode cL_law 1286 = .ok (.aload_n 2, 1) := by decide +kernel
theorem dL_law_1287 : decode cL_law 1287 = .ok (.aload_n 0, 1) := by decide +kernel
theorem dL_law_1288 : decode cL_law 1288 = .ok (.iload 4, 2) := by decide +kernel
theorem dL_law_1290 : decode cL_law 1290 = .ok (.iconst 1, 1) := by decide +kernel
theorem dL_law_1291 : decode cL_law 1291 = .ok (.iadd, 1) := by decide +kernel
theorem dL_law_1292 : decode cL_law 1292 = .ok (.iaload, 1) := by decide +kernel
theorem dL_law_1293 : decode cL_law 1293 = .ok (.invokevirtual 149, 3) := by decide +kernel
theorem dL_law_1296 : decode cL_law 1296 = .ok (.istore 6, 2) := by decide +kernel
theorem dL_law_1298 : decode cL_law 1298 = .ok (.aload_n 2, 1) := by decide +kernel
theorem dL_law_1299 : decode cL_law 1299 = .ok (.invokevirtual 87, 3) := by decide +kernel
theorem dL_law_1302 : decode cL_law 1302 = .ok (.iload 5, 2) := by decide +kernel
theorem dL_law_1304 : decode cL_law 1304 = .ok (.if_icmp .eq 5, 3) := by decide +kernel
theorem dL_law_1307 : decode cL_law 1307 = .ok (.iconst 0, 1) := by decide +kernel
theorem dL_law_1308 : decode cL_law 1308 = .ok (.ireturn, 1) := by decide +kernel
theorem dL_law_1309 : decode cL_law 1309 = .ok (.iload 5, 2) := by decide +kernel
theorem dL_law_1311 : decode cL_law 1311 = .ok (.ifCond .ne 15, 3) := by decide +kernel
theorem dL_law_1314 : decode cL_law 1314 = .ok (.aload_n 3, 1) := by decide +kernel
theorem dL_law_1315 : decode cL_law 1315 = .ok (.iconst 0, 1) := by decide +kernel
theorem dL_law_1316 : decode cL_law 1316 = .ok (.laload, 1) := by decide +kernel
theorem dL_law_1317 : decode cL_law 1317 = .ok (.iload 6, 2) := by decide +kernel
theorem dL_law_1319 : decode cL_law 1319 = .ok (.i2l, 1) := by decide +kernel
theorem dL_law_1320 : decode cL_law 1320 = .ok (.lcmp, 1) := by decide +kernel
theorem dL_law_1321 : decode cL_law 1321 = .ok (.ifCond .eq 5, 3) := by decide +kernel
theorem dL_law_1324 : decode cL_law 1324 = .ok (.iconst 0, 1) := by decide +kernel
theorem dL_law_1325 : decode cL_law 1325 = .ok (.ireturn, 1) := by decide +kernel
theorem dL_law_1326 : decode cL_law 1326 = .ok (.goto 224, 3) := by decide +kernel
theorem dL_law_1329 : decode cL_law 1329 = .ok (.aload_n 1, 1) := by decide +kernel
theorem dL_law_1330 : decode cL_law 1330 = .ok (.aload_n 0, 1) := by decide +kernel
theorem dL_law_1331 : decode cL_law 1331 = .ok (.iload 4, 2) := by decide +kernel
theorem dL_law_1333 : decode cL_law 1333 = .ok (.iconst 1, 1) := by decide +kernel
theorem dL_law_1334 : decode cL_law 1334 = .ok (.iadd, 1) := by decide +kernel
theorem dL_law_1335 : decode cL_law 1335 = .ok (.iaload, 1) := by decide +kernel
theorem dL_law_1336 : decode cL_law 1336 = .ok (.aload_n 3, 1) := by decide +kernel
theorem dL_law_1337 : decode cL_law 1337 = .ok (.invokestatic 150, 3) := by decide +kernel
theorem dL_law_1340 : decode cL_law 1340 = .ok (.istore 5, 2) := by decide +kernel
theorem dL_law_1342 : decode cL_law 1342 = .ok (.aload_n 2, 1) := by decide +kernel
theorem dL_law_1343 : decode cL_law 1343 = .ok (.aload_n 0, 1) := by decide +kernel
theorem dL_law_1344 : decode cL_law 1344 = .ok (.iload 4, 2) := by decide +kernel
theorem dL_law_1346 : decode cL_law 1346 = .ok (.iconst 1, 1) := by decide +kernel
theorem dL_law_1347 : decode cL_law 1347 = .ok (.iadd, 1) := by decide +kernel
theorem dL_law_1348 : decode cL_law 1348 = .ok (.iaload, 1) := by decide +kernel
theorem dL_law_1349 : decode cL_law 1349 = .ok (.invokevirtual 152, 3) := by decide +kernel
theorem dL_law_1352 : decode cL_law 1352 = .ok (.istore 6, 2) := by decide +kernel
theorem dL_law_1354 : decode cL_law 1354 = .ok (.aload_n 2, 1) := by decide +kernel
theorem dL_law_1355 : decode cL_law 1355 = .ok (.invokevirtual 87, 3) := by decide +kernel
theorem dL_law_1358 : decode cL_law 1358 = .ok (.iload 5, 2) := by decide +kernel
theorem dL_law_1360 : decode cL_law 1360 = .ok (.if_icmp .eq 5, 3) := by decide +kernel
theorem dL_law_1363 : decode cL_law 1363 = .ok (.iconst 0, 1) := by decide +kernel
theorem dL_law_1364 : decode cL_law 1364 = .ok (.ireturn, 1) := by decide +kernel
theorem dL_law_1365 : decode cL_law 1365 = .ok (.iload 5, 2) := by decide +kernel
theorem dL_law_1367 : decode cL_law 1367 = .ok (.ifCond .ne 15, 3) := by decide +kernel
theorem dL_law_1370 : decode cL_law 1370 = .ok (.aload_n 3, 1) := by decide +kernel
theorem dL_law_1371 : decode cL_law 1371 = .ok (.iconst 0, 1) := by decide +kernel
theorem dL_law_1372 : decode cL_law 1372 = .ok (.laload, 1) := by decide +kernel
theorem dL_law_1373 : decode cL_law 1373 = .ok (.iload 6, 2) := by decide +kernel
theorem dL_law_1375 : decode cL_law 1375 = .ok (.i2l, 1) := by decide +kernel
theorem dL_law_1376 : decode cL_law 1376 = .ok (.lcmp, 1) := by decide +kernel
theorem dL_law_1377 : decode cL_law 1377 = .ok (.ifCond .eq 5, 3) := by decide +kernel
theorem dL_law_1380 : decode cL_law 1380 = .ok (.iconst 0, 1) := by decide +kernel
theorem dL_law_1381 : decode cL_law 1381 = .ok (.ireturn, 1) := by decide +kernel
theorem dL_law_1382 : decode cL_law 1382 = .ok (.goto 168, 3) := by decide +kernel
theorem dL_law_1385 : decode cL_law 1385 = .ok (.aload_n 1, 1) := by decide +kernel
theorem dL_law_1386 : decode cL_law 1386 = .ok (.aload_n 0, 1) := by decide +kernel
theorem dL_law_1387 : decode cL_law 1387 = .ok (.iload 4, 2) := by decide +kernel
theorem dL_law_1389 : decode cL_law 1389 = .ok (.iconst 1, 1) := by decide +kernel
theorem dL_law_1390 : decode cL_law 1390 = .ok (.iadd, 1) := by decide +kernel
theorem dL_law_1391 : decode cL_law 1391 = .ok (.iaload, 1) := by decide +kernel
theorem dL_law_1392 : decode cL_law 1392 = .ok (.aload_n 3, 1) := by decide +kernel
theorem dL_law_1393 : decode cL_law 1393 = .ok (.invokestatic 153, 3) := by decide +kernel
theorem dL_law_1396 : decode cL_law 1396 = .ok (.istore 5, 2) := by decide +kernel
theorem dL_law_1398 : decode cL_law 1398 = .ok (.aload_n 2, 1) := by decide +kernel
theorem dL_law_1399 : decode cL_law 1399 = .ok (.aload_n 0, 1) := by decide +kernel
theorem dL_law_1400 : decode cL_law 1400 = .ok (.iload 4, 2) := by decide +kernel
theorem dL_law_1402 : decode cL_law 1402 = .ok (.iconst 1, 1) := by decide +kernel
theorem dL_law_1403 : decode cL_law 1403 = .ok (.iadd, 1) := by decide +kernel
theorem dL_law_1404 : decode cL_law 1404 = .ok (.iaload, 1) := by decide +kernel
theorem dL_law_1405 : decode cL_law 1405 = .ok (.invokevirtual 155, 3) := by decide +kernel
theorem dL_law_1408 : decode cL_law 1408 = .ok (.istore 6, 2) := by decide +kernel
theorem dL_law_1410 : decode cL_law 1410 = .ok (.aload_n 2, 1) := by decide +kernel
theorem dL_law_1411 : decode cL_law 1411 = .ok (.invokevirtual 87, 3) := by decide +kernel
theorem dL_law_1414 : decode cL_law 1414 = .ok (.iload 5, 2) := by decide +kernel
theorem dL_law_1416 : decode cL_law 1416 = .ok (.if_icmp .eq 5, 3) := by decide +kernel
theorem dL_law_1419 : decode cL_law 1419 = .ok (.iconst 0, 1) := by decide +kernel
theorem dL_law_1420 : decode cL_law 1420 = .ok (.ireturn, 1) := by decide +kernel
theorem dL_law_1421 : decode cL_law 1421 = .ok (.iload 5, 2) := by decide +kernel
theorem dL_law_1423 : decode cL_law 1423 = .ok (.ifCond .ne 15, 3) := by decide +kernel
theorem dL_law_1426 : decode cL_law 1426 = .ok (.aload_n 3, 1) := by decide +kernel
theorem dL_law_1427 : decode cL_law 1427 = .ok (.iconst 0, 1) := by decide +kernel
theorem dL_law_1428 : decode cL_law 1428 = .ok (.laload, 1) := by decide +kernel
theorem dL_law_1429 : decode cL_law 1429 = .ok (.iload 6, 2) := by decide +kernel
theorem dL_law_1431 : decode cL_law 1431 = .ok (.i2l, 1) := by decide +kernel
theorem dL_law_1432 : decode cL_law 1432 = .ok (.lcmp, 1) := by decide +kernel
theorem dL_law_1433 : decode cL_law 1433 = .ok (.ifCond .eq 5, 3) := by decide +kernel
theorem dL_law_1436 : decode cL_law 1436 = .ok (.iconst 0, 1) := by decide +kernel
theorem dL_law_1437 : decode cL_law 1437 = .ok (.ireturn, 1) := by decide +kernel
theorem dL_law_1438 : decode cL_law 1438 = .ok (.goto 112, 3) := by decide +kernel
theorem dL_law_1441 : decode cL_law 1441 = .ok (.aload_n 1, 1) := by decide +kernel
theorem dL_law_1442 : decode cL_law 1442 = .ok (.aload_n 0, 1) := by decide +kernel
theorem dL_law_1443 : decode cL_law 1443 = .ok (.iload 4, 2) := by decide +kernel
theorem dL_law_1445 : decode cL_law 1445 = .ok (.iconst 1, 1) := by decide +kernel
theorem dL_law_1446 : decode cL_law 1446 = .ok (.iadd, 1) := by decide +kernel
theorem dL_law_1447 : decode cL_law 1447 = .ok (.iaload, 1) := by decide +kernel
theorem dL_law_1448 : decode cL_law 1448 = .ok (.ifCond .eq 7, 3) := by decide +kernel
theorem dL_law_1451 : decode cL_law 1451 = .ok (.iconst 1, 1) := by decide +kernel
theorem dL_law_1452 : decode cL_law 1452 = .ok (.goto 4, 3) := by decide +kernel
theorem dL_law_1455 : decode cL_law 1455 = .ok (.iconst 0, 1) := by decide +kernel
theorem dL_law_1456 : decode cL_law 1456 = .ok (.invokevirtual 156, 3) := by decide +kernel
theorem dL_law_1459 : decode cL_law 1459 = .ok (.aload_n 2, 1) := by decide +kernel
theorem dL_law_1460 : decode cL_law 1460 = .ok (.aload_n 0, 1) := by decide +kernel
theorem dL_law_1461 : decode cL_law 1461 = .ok (.iload 4, 2) := by decide +kernel
theorem dL_law_1463 : decode cL_law 1463 = .ok (.iconst 1, 1) := by decide +kernel
theorem dL_law_1464 : decode cL_law 1464 = .ok (.iadd, 1) := by decide +kernel
theorem dL_law_1465 : decode cL_law 1465 = .ok (.iaload, 1) := by decide +kernel
theorem dL_law_1466 : decode cL_law 1466 = .ok (.ifCond .eq 7, 3) := by decide +kernel
theorem dL_law_1469 : decode cL_law 1469 = .ok (.iconst 1, 1) := by decide +kernel
theorem dL_law_1470 : decode cL_law 1470 = .ok (.goto 4, 3) := by decide +kernel
theorem dL_law_1473 : decode cL_law 1473 = .ok (.iconst 0, 1) := by decide +kernel
theorem dL_law_1474 : decode cL_law 1474 = .ok (.invokevirtual 160, 3) := by decide +kernel
theorem dL_law_1477 : decode cL_law 1477 = .ok (.if_icmp .eq 73, 3) := by decide +kernel
theorem dL_law_1480 : decode cL_law 1480 = .ok (.iconst 0, 1) := by decide +kernel
theorem dL_law_1481 : decode cL_law 1481 = .ok (.ireturn, 1) := by decide +kernel
theorem dL_law_1482 : decode cL_law 1482 = .ok (.aload_n 1, 1) := by decide +kernel
theorem dL_law_1483 : decode cL_law 1483 = .ok (.invokevirtual 161, 3) := by decide +kernel
theorem dL_law_1486 : decode cL_law 1486 = .ok (.aload_n 2, 1) := by decide +kernel
theorem dL_law_1487 : decode cL_law 1487 = .ok (.invokevirtual 164, 3) := by decide +kernel
theorem dL_law_1490 : decode cL_law 1490 = .ok (.if_icmp .eq 60, 3) := by decide +kernel
theorem dL_law_1493 : decode cL_law 1493 = .ok (.iconst 0, 1) := by decide +kernel
theorem dL_law_1494 : decode cL_law 1494 = .ok (.ireturn, 1) := by decide +kernel
theorem dL_law_1495 : decode cL_law 1495 = .ok (.aload_n 1, 1) := by decide +kernel
theorem dL_law_1496 : decode cL_law 1496 = .ok (.invokevirtual 165, 3) := by decide +kernel
theorem dL_law_1499 : decode cL_law 1499 = .ok (.dstore 5, 2) := by decide +kernel
theorem dL_law_1501 : decode cL_law 1501 = .ok (.aload_n 2, 1) := by decide +kernel
theorem dL_law_1502 : decode cL_law 1502 = .ok (.invokevirtual 169, 3) := by decide +kernel
theorem dL_law_1505 : decode cL_law 1505 = .ok (.dstore 7, 2) := by decide +kernel
theorem dL_law_1507 : decode cL_law 1507 = .ok (.dload 5, 2) := by decide +kernel
theorem dL_law_1509 : decode cL_law 1509 = .ok (.dload 7, 2) := by decide +kernel
theorem dL_law_1511 : decode cL_law 1511 = .ok (.dcmp .l, 1) := by decide +kernel
theorem dL_law_1512 : decode cL_law 1512 = .ok (.ifCond .eq 21, 3) := by decide +kernel
theorem dL_law_1515 : decode cL_law 1515 = .ok (.dload 5, 2) := by decide +kernel
theorem dL_law_1517 : decode cL_law 1517 = .ok (.dload 5, 2) := by decide +kernel
theorem dL_law_1519 : decode cL_law 1519 = .ok (.dcmp .l, 1) := by decide +kernel
theorem dL_law_1520 : decode cL_law 1520 = .ok (.ifCond .eq 11, 3) := by decide +kernel
theorem dL_law_1523 : decode cL_law 1523 = .ok (.dload 7, 2) := by decide +kernel
theorem dL_law_1525 : decode cL_law 1525 = .ok (.dload 7, 2) := by decide +kernel
theorem dL_law_1527 : decode cL_law 1527 = .ok (.dcmp .l, 1) := by decide +kernel
theorem dL_law_1528 : decode cL_law 1528 = .ok (.ifCond .ne 5, 3) := by decide +kernel
theorem dL_law_1531 : decode cL_law 1531 = .ok (.iconst 0, 1) := by decide +kernel
theorem dL_law_1532 : decode cL_law 1532 = .ok (.ireturn, 1) := by decide +kernel
theorem dL_law_1533 : decode cL_law 1533 = .ok (.goto 17, 3) := by decide +kernel
theorem dL_law_1536 : decode cL_law 1536 = .ok (.aload_n 1, 1) := by decide +kernel
theorem dL_law_1537 : decode cL_law 1537 = .ok (.invokevirtual 170, 3) := by decide +kernel
theorem dL_law_1540 : decode cL_law 1540 = .ok (.aload_n 2, 1) := by decide +kernel
theorem dL_law_1541 : decode cL_law 1541 = .ok (.invokevirtual 174, 3) := by decide +kernel
theorem dL_law_1544 : decode cL_law 1544 = .ok (.lcmp, 1) := by decide +kernel
theorem dL_law_1545 : decode cL_law 1545 = .ok (.ifCond .eq 5, 3) := by decide +kernel
theorem dL_law_1548 : decode cL_law 1548 = .ok (.iconst 0, 1) := by decide +kernel
theorem dL_law_1549 : decode cL_law 1549 = .ok (.ireturn, 1) := by decide +kernel
theorem dL_law_1550 : decode cL_law 1550 = .ok (.iinc 4 5, 3) := by decide +kernel
theorem dL_law_1553 : decode cL_law 1553 = .ok (.goto (-1530), 3) := by decide +kernel
theorem dL_law_1556 : decode cL_law 1556 = .ok (.iconst 1, 1) := by decide +kernel
theorem dL_law_1557 : decode cL_law 1557 = .ok (.ireturn, 1) := by decide +kernel
end
section
/-! THE BASE. J: the judgement of a body over a world 'ws' (a list of cells), locals 'lv' by their slots, stack 'st'; what stays the same in a body is in k : Kx. -/
def Kx : Type := Program × Launch × Env × Room × State × MethodId × Array Value × List Frame × Method × Code × (State → Prop) × va_G × (Nat → Prop) × Bool × Nat
def kp (k : Kx) : Program := k.1
def kl (k : Kx) : Launch := k.2.1
def ke (k : Kx) : Env := k.2.2.1
def kR (k : Kx) : Room := k.2.2.2.1
def ks (k : Kx) : State := k.2.2.2.2.1
def km (k : Kx) : MethodId := k.2.2.2.2.2.1
def kargs (k : Kx) : Array Value := k.2.2.2.2.2.2.1
def kbelow (k : Kx) : List Frame := k.2.2.2.2.2.2.2.1
def kmeth (k : Kx) : Method := k.2.2.2.2.2.2.2.2.1
def kc (k : Kx) : Code := k.2.2.2.2.2.2.2.2.2.1
def kQ (k : Kx) : State → Prop := k.2.2.2.2.2.2.2.2.2.2.1
def kD (k : Kx) : va_G := k.2.2.2.2.2.2.2.2.2.2.2.1
def kA (k : Kx) : Nat → Prop := k.2.2.2.2.2.2.2.2.2.2.2.2.1
def kw (k : Kx) : Bool := k.2.2.2.2.2.2.2.2.2.2.2.2.2.1
def kn (k : Kx) : Nat := k.2.2.2.2.2.2.2.2.2.2.2.2.2.2
def mkK (p : Program) (l : Launch) (e : Env) (R : Room) (s : State) (m : MethodId) (args : Array Value) (below : List Frame) (meth : Method) (c : Code) (Q : State → Prop) (D : va_G) (A : Nat → Prop) (w : Bool) (n : Nat) : Kx := (p, l, e, R, s, m, args, below, meth, c, Q, D, A, w, n)
/-- the array classes: ints, references to anything, longs; the address of ArrayList's shared empty array -/
abbrev tysD (D : va_G) : List (ClassId × FieldType) := [(D.1 100, .int), (D.1 101, .object "java/lang/Object"), (D.1 102, .long)]
abbrev dE (D : va_G) : Nat := D.2 1000 0
/-- the tables' words that go over a call -/
def Uw : List Cond := lw_tbl.filter goodWord
theorem Uw_of {w : Cond} {i : Nat} (h : lw_tbl[i]? = some w) (g : goodWord w = true) : w ∈ Uw := List.mem_filter.mpr ⟨List.mem_of_getElem? h, g⟩
abbrev wU (y : MethodName) (cc : ByteArray) (maxL : Nat) (ret : Option FieldType) : List Cond := Cond.code y cc maxL ret :: Uw
theorem Uw_good {w : Cond} (h : w ∈ Uw) : goodWord w = true := (List.mem_filter.mp h).2
theorem Uw_in {w : Cond} (h : w ∈ Uw) : GoodIn Uw [w] := fun v hv => by
  rw [List.mem_singleton.mp hv]
  exact ⟨h, good_of_word (Uw_good h)⟩
theorem wU_good {y : MethodName} {cc : ByteArray} {maxL : Nat} {ret : Option FieldType} (h : Cond.code y cc maxL ret ∈ Uw) : GoodIn Uw (wU y cc maxL ret) := fun w hw => by
  rcases List.mem_cons.mp hw with e | e
  · rw [e]
    exact ⟨h, good_of_word (Uw_good h)⟩
  · exact ⟨e, good_of_word (Uw_good e)⟩
/-- what the tables say besides: links of nest mates, casts, the class of Object arrays, the Strings -/
abbrev eA : String := "java/lang/IllegalArgumentException"
abbrev eS : String := "java/lang/IllegalStateException"
abbrev eI : String := "java/lang/IndexOutOfBoundsException"
def strs : List (Nat × String) := [(43, "no such hours"), (60, "no such priority"), (63, "no such targets"), (66, "no such span of minutes"), (75, "no such agent can be added"), (83, "there are as many agents as there may be"), (307, "no such agent"), (102, "no such set of skills"), (123, "no such thing is told of an agent"), (137, "no such ticket can be opened"), (139, "there are as many tickets as there may be"), (309, "no such ticket"), (150, "the ticket is merged"), (155, "the ticket is neither waiting nor worked at"), (169, "the ticket is not paused"), (171, "a ticket is not merged into itself"), (177, "one of the tickets is not open"), (196, "no such greater effort"), (201, "the ticket is not solved, or was so long ago"), (206, "no such thing is told of a ticket"), (222, "no such number of minutes"), (224, "it would be later than the last minute"), (229, "no such state")]
def ncs : List (String × String) := [(eA, eI), (eA, eS), (eS, eI), (eS, eA), (eI, eA), (eI, eS)]
def dcl : List MethodName := [⟨"java/lang/RuntimeException", "<init>", "(Ljava/lang/String;)V"⟩, ⟨"java/lang/Exception", "<init>", "(Ljava/lang/String;)V"⟩, ⟨"java/lang/Throwable", "<init>", "(Ljava/lang/String;)V"⟩]
def cas : List (String × String) := [(RX0, "java/lang/Object"), (RX2, "java/lang/Object"), (eA, eA), (eS, eS), (eI, eI)]
def KK (D : va_G) (U : State) : Prop := va_K D vwCl (tysD D) U ∧ va_Nw (.methodLinkNest RX0 27 yX3_dayOfWeek RX3) U ∧ va_Nw (.methodLinkNest RX1 18 yX3_dayOfWeek RX3) U ∧ (∀ q ∈ cas, va_Nw (.castable q.1 q.2) U) ∧ va_AO "java/lang/Object" U ∧ (∃ mi, va_Mi "[Ljava/lang/Object;" mi U) ∧ va_Dc U ∧ (∀ q ∈ ncs, va_Nc q.1 q.2 U) ∧ (∀ q ∈ strs, ∃ a, vk_R RX3 q.1 q.2 a U) ∧ ∀ x ∈ dcl, va_Nw (.declares x) U
theorem KK.warm {D : va_G} {s U : State} (hW : s.WarmedH U.vm) (h : KK D s) : KK D U := by
  obtain ⟨h1, h2, h3, h4, h5, ⟨mi, h6⟩, h7, h8, h9, h10⟩ := h
  exact ⟨va_K.moved hW.alike h1, va_Nw.warmM hW h2, va_Nw.warmM hW h3, fun q hq => va_Nw.warmC hW (h4 q hq), va_AO.moved hW.alike h5, ⟨mi, va_Mi.moved hW.alike h6⟩, va_Dc.moved hW.alike h7, fun q hq => va_Nc.moved hW.alike (h8 q hq), fun q hq => ⟨_, vk_R.warm hW (h9 q hq).choose_spec⟩, fun x hx => va_Nw.warmD hW (h10 x hx)⟩
theorem KK.calling {D : va_G} {U : State} {g : JFrame} {mk : MethodId} {a : Array Value} (h : KK D U) : KK D (U.calling g mk a) := KK.warm (U := U.calling g mk a) (State.WarmedH.refl U) h
/-- the statics: Throwable's two, ArrayList's shared empty array -/
def ZZ (D : va_G) (A : Nat → Prop) (U : State) (H : Heap) : Prop := vx_Zq Bundle.tN "UNASSIGNED_STACK" Bundle.steD A U H ∧ vx_Zq Bundle.tN "SUPPRESSED_SENTINEL" Bundle.listD A U H ∧ va_Z "java/util/ArrayList" "DEFAULTCAPACITY_EMPTY_ELEMENTDATA" "[Ljava/lang/Object;" (.ref (dE D)) A U H ∧ va_T (.object "java/lang/Object") (dE D) 0 (fun _ => .null) A U H
theorem ZZ.moved {D : va_G} {A : Nat → Prop} {u U : State} {H : Heap} (hvm : u.vm.Alike U.vm) (h : ZZ D A u H) : ZZ D A U H := ⟨h.1.moved hvm, h.2.1.moved hvm, h.2.2.1.moved hvm, h.2.2.2.moved hvm⟩
theorem ZZ.kept {D : va_G} {A : Nat → Prop} {U : State} {H H1 : Heap} (h : ZZ D A U H) (hq : ∀ a : Nat, a < H.size → ¬ A a → H1[a]? = H[a]?) : ZZ D A U H1 := ⟨h.1.kept hq, h.2.1.kept hq, h.2.2.1.kept hq, h.2.2.2.kept hq⟩
theorem ZZ.narrow {D : va_G} {A B : Nat → Prop} {U : State} {H : Heap} (h : ZZ D A U H) (hAB : ∀ q, B q → A q) : ZZ D B U H := ⟨h.1.narrow hAB, h.2.1.narrow hAB, h.2.2.1.narrow hAB, h.2.2.2.narrow hAB⟩
abbrev rm4 (fr c n lo : Nat) : Room := { frames := fr, cells := c, slots := n, locals := lo }
/-- what stays in a body -/
def Fx (k : Kx) (cc : ByteArray) (own : String) (R : Room) (nL : Nat) : Prop :=
  (kp k).tables.exec = Jvm.exec ∧ (kc k).code = cc ∧ (kc k).maxLocals = nL ∧ kn k = nL ∧ kR k = R ∧ (ks k).vm.findClass own = some (km k).cls ∧ (∀ w ∈ Uw, w.before (kargs k) (ks k) = true) ∧ KK (kD k) (ks k) ∧ (∀ q, (ks k).heap.size ≤ q → kw k = true → kA k q) ∧ (kw k = true → ZZ (kD k) (kA k) (ks k) (ks k).heap) ∧ (kl k).stackTraces = false ∧ (kmeth k).locks = false
section FX
variable {k : Kx} {cc : ByteArray} {own : String} {R : Room} {nL : Nat}
theorem Fx.hx (F : Fx k cc own R nL) : (kp k).tables.exec = Jvm.exec := F.1
theorem Fx.hb (F : Fx k cc own R nL) : (kc k).code = cc := F.2.1
theorem Fx.hml (F : Fx k cc own R nL) : (kc k).maxLocals = nL := F.2.2.1
theorem Fx.hn (F : Fx k cc own R nL) : kn k = nL := F.2.2.2.1
theorem Fx.hR (F : Fx k cc own R nL) : kR k = R := F.2.2.2.2.1
theorem Fx.hown (F : Fx k cc own R nL) : (ks k).vm.findClass own = some (km k).cls := F.2.2.2.2.2.1
theorem Fx.hts (F : Fx k cc own R nL) {w : Cond} (h : w ∈ Uw) : w.before (kargs k) (ks k) = true := F.2.2.2.2.2.2.1 w h
theorem Fx.hK (F : Fx k cc own R nL) : KK (kD k) (ks k) := F.2.2.2.2.2.2.2.1
theorem Fx.hA (F : Fx k cc own R nL) (hw : kw k = true) : ∀ q, (ks k).heap.size ≤ q → kA k q := fun q h => F.2.2.2.2.2.2.2.2.1 q h hw
theorem Fx.hZ (F : Fx k cc own R nL) (hw : kw k = true) : ZZ (kD k) (kA k) (ks k) (ks k).heap := F.2.2.2.2.2.2.2.2.2.1 hw
theorem Fx.hl (F : Fx k cc own R nL) : (kl k).stackTraces = false := F.2.2.2.2.2.2.2.2.2.2.1
theorem Fx.hlk (F : Fx k cc own R nL) : (kmeth k).locks = false := F.2.2.2.2.2.2.2.2.2.2.2
theorem Fx.fix (F : Fx k cc own R nL) : CallFix (kp k) (km k) (kc k) cc nL (ks k) (kargs k) Uw own := ⟨F.hx, F.hb, F.hml, F.hown, fun _ h => F.hts h⟩
end FX
/-- the heap holds the world -/
def Wd (k : Kx) (ws : va_W) (H : Heap) (locs : List Loc) : Prop := va_P (kD k) vwCl ws H ∧ (kw k = true → va_D (kA k) ws) ∧ va_S (kA k) (ks k).heap H locs ∧ (kw k = false → H = (ks k).heap ∧ locs = [])
/-- the locals, by their slots -/
def prs : Nat → List (Option Value) → List (Nat × Value)
  | _, [] => []
  | i, none :: t => prs (i + 1) t
  | i, some v :: t => (i, v) :: prs (i + 1) t
theorem prs_iff : ∀ (l : List (Option Value)) (i j : Nat) (v : Value), (j, v) ∈ prs i l ↔ ∃ n, j = i + n ∧ l[n]? = some (some v)
  | [], i, j, v => by simp [prs]
  | none :: t, i, j, v => by
    rw [prs, prs_iff t (i + 1) j v]
    constructor
    · rintro ⟨n, h1, h2⟩
      exact ⟨n + 1, by omega, by simpa using h2⟩
    · rintro ⟨n, h1, h2⟩
      cases n with
      | zero => simp at h2
      | succ n => exact ⟨n, by omega, by simpa using h2⟩
  | some w :: t, i, j, v => by
    rw [prs, List.mem_cons, prs_iff t (i + 1) j v]
    constructor
    · rintro (h | ⟨n, h1, h2⟩)
      · cases h
        exact ⟨0, rfl, rfl⟩
      · exact ⟨n + 1, by omega, by simpa using h2⟩
    · rintro ⟨n, h1, h2⟩
      cases n with
      | zero =>
        simp at h2
        exact Or.inl (by rw [h1, h2]; rfl)
      | succ n => exact Or.inr ⟨n, by omega, by simpa using h2⟩
def lvh (ls : Array Slot) (n : Nat) (lv : List (Option Value)) : Prop := lv_has ls n (prs 0 lv)
theorem lvh.at {ls : Array Slot} {n : Nat} {lv : List (Option Value)} (h : lvh ls n lv) {i : Nat} {v : Value} (hv : lv[i]? = some (some v)) : ls[i]? = some (.val v) := h.2.2 (i, v) ((prs_iff lv 0 i v).mpr ⟨i, by omega, hv⟩)
/-- a slot's store spoils no long in front of it -/
def okst : List (Option Value) → Nat → Bool
  | _, 0 => true
  | [], _ => true
  | [_], _ => true
  | some v :: _ :: _, 1 => v.category == 1
  | none :: _ :: _, 1 => true
  | _ :: t, i + 1 => okst t i
theorem okst_spec : ∀ (l : List (Option Value)) (i : Nat) (v : Value), okst l (i + 1) = true → i + 1 < l.length → l[i]? = some (some v) → v.category = 1
  | [], _, _, _, h, _ => by simp at h
  | [_], _, _, _, h, _ => by simp at h
  | some w :: b :: t, 0, v, h, _, e => by
    simp [okst] at h e
    rw [← e]; exact h
  | none :: b :: t, 0, v, h, _, e => by simp at e
  | a :: b :: t, i + 1, v, h, hl, e => by
    have h' : okst (b :: t) (i + 1) = true := by
      cases a <;> simpa [okst] using h
    exact okst_spec (b :: t) i v h' (by simpa using hl) (by simpa using e)
theorem lvh.put {ls' : Array Slot} {n : Nat} {lv lv' : List (Option Value)} {i : Nat} {v : Value} (ho : (Nat.blt i lv.length && okst lv i) = true) (e : lv.set i (some v) = lv')
    (h : lv_has ls' n ((i, v) :: (prs 0 lv).filter (fun q => !(q.1 == i) && !(q.1 + 1 == i && q.2.category == 2)))) : lvh ls' n lv' := by
  subst e
  simp only [Bool.and_eq_true, Nat.blt_eq] at ho
  refine ⟨h.1, h.2.1, fun q hq => h.2.2 q ?_⟩
  obtain ⟨j, w⟩ := q
  obtain ⟨m, e1, e2⟩ := (prs_iff _ 0 j w).mp hq
  rw [Nat.zero_add] at e1
  subst e1
  by_cases hj : j = i
  · subst hj
    rw [List.getElem?_set_self ho.1] at e2
    cases e2
    exact List.mem_cons_self
  · rw [List.getElem?_set_ne (fun z => hj z.symm)] at e2
    refine List.mem_cons_of_mem _ (List.mem_filter.mpr ⟨(prs_iff lv 0 j w).mpr ⟨j, by omega, e2⟩, ?_⟩)
    simp only [Bool.and_eq_true, Bool.not_eq_true', beq_eq_false_iff_ne, Bool.and_eq_false_imp, beq_iff_eq]
    refine ⟨hj, fun hji => ?_⟩
    subst hji
    have := okst_spec lv j w ho.2 ho.1 e2
    show ¬ w.category = 2
    omega
theorem lvh.put2 {ls' : Array Slot} {n : Nat} {lv lv' : List (Option Value)} {i : Nat} {v : Value} (ho : (Nat.blt (i + 1) lv.length && okst lv i) = true) (e : (lv.set i (some v)).set (i + 1) none = lv')
    (h : lv_has ls' n ((i, v) :: (prs 0 lv).filter (fun q => !(q.1 == i) && (!(q.1 == i + 1) && !(q.1 + 1 == i && q.2.category == 2))))) : lvh ls' n lv' := by
  subst e
  simp only [Bool.and_eq_true, Nat.blt_eq] at ho
  refine ⟨h.1, h.2.1, fun q hq => h.2.2 q ?_⟩
  obtain ⟨j, w⟩ := q
  obtain ⟨m, e1, e2⟩ := (prs_iff _ 0 j w).mp hq
  rw [Nat.zero_add] at e1
  subst e1
  by_cases hj1 : j = i + 1
  · subst hj1
    rw [List.getElem?_set_self (by rw [List.length_set]; exact ho.1)] at e2
    cases e2
  rw [List.getElem?_set_ne (fun z => hj1 z.symm)] at e2
  by_cases hj : j = i
  · subst hj
    rw [List.getElem?_set_self (by omega)] at e2
    cases e2
    exact List.mem_cons_self
  · rw [List.getElem?_set_ne (fun z => hj z.symm)] at e2
    refine List.mem_cons_of_mem _ (List.mem_filter.mpr ⟨(prs_iff lv 0 j w).mpr ⟨j, by omega, e2⟩, ?_⟩)
    simp only [Bool.and_eq_true, Bool.not_eq_true', beq_eq_false_iff_ne, Bool.and_eq_false_imp, beq_iff_eq]
    refine ⟨hj, hj1, fun hji => ?_⟩
    subst hji
    have := okst_spec lv j w ho.2 (by omega) e2
    show ¬ w.category = 2
    omega
def J (k : Kx) (ws : va_W) (c n pc : Nat) (lv : List (Option Value)) (st : List Value) : Prop :=
  ∀ (H : Heap) (locs : List Loc) (ls : Array Slot), Wd k ws H locs → lvh ls (kn k) lv → W (kp k) (kl k) (ke k) (kR k) (ks k) (km k) (kargs k) (kbelow k) (kmeth k) (kc k) H locs c n (kQ k) (F0 (km k) pc ls st)
section ROWS
variable {k : Kx} {cc : ByteArray} {own : String} {R : Room} {nL : Nat} {ws : va_W} {c n pc : Nat} {lv lv' : List (Option Value)} {st : List Value}
theorem j_iconst (F : Fx k cc own R nL) {q : Int} {v : Int32} (hd : decode cc pc = .ok (.iconst q, 1)) (hv : Int32.ofInt q = v) (K : J k ws c n (pc + 1) lv (.int v :: st)) : J k ws c n pc lv (st) := fun H locs ls hP hL => lv_iconst F.hx F.hb hd hv (K H locs ls hP hL)
theorem j_bipush (F : Fx k cc own R nL) {q : Int} {v : Int32} (hd : decode cc pc = .ok (.bipush q, 2)) (hv : (Int8.ofInt q).toInt32 = v) (K : J k ws c n (pc + 2) lv (.int v :: st)) : J k ws c n pc lv (st) := fun H locs ls hP hL => lv_bipush F.hx F.hb hd hv (K H locs ls hP hL)
theorem j_sipush (F : Fx k cc own R nL) {q : Int} {v : Int32} (hd : decode cc pc = .ok (.sipush q, 3)) (hv : (Int16.ofInt q).toInt32 = v) (K : J k ws c n (pc + 3) lv (.int v :: st)) : J k ws c n pc lv (st) := fun H locs ls hP hL => lv_sipush F.hx F.hb hd hv (K H locs ls hP hL)
theorem j_lconst (F : Fx k cc own R nL) {q : Fin 2} {v : Int64} (hd : decode cc pc = .ok (.lconst q, 1)) (hv : Int64.ofNat (q : Nat) = v) (K : J k ws c n (pc + 1) lv (.long v :: st)) : J k ws c n pc lv (st) := fun H locs ls hP hL => lv_lconst F.hx F.hb hd hv (K H locs ls hP hL)
theorem j_iloadn (F : Fx k cc own R nL) {i : Fin 4} {x : Int32} (hd : decode cc pc = .ok (.iload_n i, 1)) (hl : lv[i.val]? = some (some (.int x))) (K : J k ws c n (pc + 1) lv (.int x :: st)) : J k ws c n pc lv (st) := fun H locs ls hP hL => lv_iload_n F.hx F.hb hd rfl (hL.at hl) (K H locs ls hP hL)
theorem j_iload (F : Fx k cc own R nL) {i : Nat} {x : Int32} (hd : decode cc pc = .ok (.iload i, 2)) (hl : lv[i]? = some (some (.int x))) (K : J k ws c n (pc + 2) lv (.int x :: st)) : J k ws c n pc lv (st) := fun H locs ls hP hL => lv_iload F.hx F.hb hd (hL.at hl) (K H locs ls hP hL)
theorem j_lloadn (F : Fx k cc own R nL) {i : Fin 4} {x : Int64} (hd : decode cc pc = .ok (.lload_n i, 1)) (hl : lv[i.val]? = some (some (.long x))) (K : J k ws c n (pc + 1) lv (.long x :: st)) : J k ws c n pc lv (st) := fun H locs ls hP hL => lv_lload_n F.hx F.hb hd rfl (hL.at hl) (K H locs ls hP hL)
theorem j_lload (F : Fx k cc own R nL) {i : Nat} {x : Int64} (hd : decode cc pc = .ok (.lload i, 2)) (hl : lv[i]? = some (some (.long x))) (K : J k ws c n (pc + 2) lv (.long x :: st)) : J k ws c n pc lv (st) := fun H locs ls hP hL => lv_lload F.hx F.hb hd (hL.at hl) (K H locs ls hP hL)
theorem j_dload (F : Fx k cc own R nL) {i : Nat} {x : UInt64} (hd : decode cc pc = .ok (.dload i, 2)) (hl : lv[i]? = some (some (.double x))) (K : J k ws c n (pc + 2) lv (.double x :: st)) : J k ws c n pc lv (st) := fun H locs ls hP hL => lv_dload F.hx F.hb hd (hL.at hl) (K H locs ls hP hL)
theorem j_aloadn (F : Fx k cc own R nL) {i : Fin 4} {x : Nat} (hd : decode cc pc = .ok (.aload_n i, 1)) (hl : lv[i.val]? = some (some (.ref x))) (K : J k ws c n (pc + 1) lv (.ref x :: st)) : J k ws c n pc lv (st) := fun H locs ls hP hL => lv_aload_n F.hx F.hb hd rfl (hL.at hl) (K H locs ls hP hL)
theorem j_aload (F : Fx k cc own R nL) {i : Nat} {x : Nat} (hd : decode cc pc = .ok (.aload i, 2)) (hl : lv[i]? = some (some (.ref x))) (K : J k ws c n (pc + 2) lv (.ref x :: st)) : J k ws c n pc lv (st) := fun H locs ls hP hL => lv_aload F.hx F.hb hd (hL.at hl) (K H locs ls hP hL)
theorem j_aloadnq (F : Fx k cc own R nL) {i : Fin 4} {x : Option Nat} (hd : decode cc pc = .ok (.aload_n i, 1)) (hl : lv[i.val]? = some (some (va_rf x))) (K : J k ws c n (pc + 1) lv (va_rf x :: st)) : J k ws c n pc lv st := by
  cases x with
  | none => exact fun H locs ls hP hL => lv_aload_nN F.hx F.hb hd rfl (hL.at hl) (K H locs ls hP hL)
  | some a => exact j_aloadn F hd hl K
theorem j_aloadq (F : Fx k cc own R nL) {i : Nat} {x : Option Nat} (hd : decode cc pc = .ok (.aload i, 2)) (hl : lv[i]? = some (some (va_rf x))) (K : J k ws c n (pc + 2) lv (va_rf x :: st)) : J k ws c n pc lv st := by
  cases x with
  | none => exact fun H locs ls hP hL => lv_aloadN F.hx F.hb hd (hL.at hl) (K H locs ls hP hL)
  | some a => exact j_aload F hd hl K
theorem j_istoren (F : Fx k cc own R nL) {i : Fin 4} {x : Int32} (lv' : List (Option Value)) (hd : decode cc pc = .ok (.istore_n i, 1)) (ho : (Nat.blt i.val lv.length && okst lv i.val) = true) (hn : Nat.blt i.val nL = true) (he : lv.set i.val (some (.int x)) = lv') (K : J k ws c n (pc + 1) lv' st) : J k ws c n pc lv (.int x :: st) := fun H locs ls hP hL => lv_istore_n F.hx F.hb hd rfl hL (by rw [F.hn]; simpa using hn) rfl fun ls' h => K H locs ls' hP (lvh.put ho he h)
theorem j_istore (F : Fx k cc own R nL) {i : Nat} {x : Int32} (lv' : List (Option Value)) (hd : decode cc pc = .ok (.istore i, 2)) (ho : (Nat.blt i lv.length && okst lv i) = true) (hn : Nat.blt i nL = true) (he : lv.set i (some (.int x)) = lv') (K : J k ws c n (pc + 2) lv' st) : J k ws c n pc lv (.int x :: st) := fun H locs ls hP hL => lv_istore F.hx F.hb hd hL (by rw [F.hn]; simpa using hn) rfl fun ls' h => K H locs ls' hP (lvh.put ho he h)
theorem j_astoren (F : Fx k cc own R nL) {i : Fin 4} {x : Nat} (lv' : List (Option Value)) (hd : decode cc pc = .ok (.astore_n i, 1)) (ho : (Nat.blt i.val lv.length && okst lv i.val) = true) (hn : Nat.blt i.val nL = true) (he : lv.set i.val (some (.ref x)) = lv') (K : J k ws c n (pc + 1) lv' st) : J k ws c n pc lv (.ref x :: st) := fun H locs ls hP hL => lv_astore_n F.hx F.hb hd rfl hL (by rw [F.hn]; simpa using hn) rfl fun ls' h => K H locs ls' hP (lvh.put ho he h)
theorem j_astore (F : Fx k cc own R nL) {i : Nat} {x : Nat} (lv' : List (Option Value)) (hd : decode cc pc = .ok (.astore i, 2)) (ho : (Nat.blt i lv.length && okst lv i) = true) (hn : Nat.blt i nL = true) (he : lv.set i (some (.ref x)) = lv') (K : J k ws c n (pc + 2) lv' st) : J k ws c n pc lv (.ref x :: st) := fun H locs ls hP hL => lv_astore F.hx F.hb hd hL (by rw [F.hn]; simpa using hn) rfl fun ls' h => K H locs ls' hP (lvh.put ho he h)
theorem j_lstoren (F : Fx k cc own R nL) {i : Fin 4} {x : Int64} (lv' : List (Option Value)) (hd : decode cc pc = .ok (.lstore_n i, 1)) (ho : (Nat.blt (i.val + 1) lv.length && okst lv i.val) = true) (hn : Nat.blt (i.val + 1) nL = true) (he : (lv.set i.val (some (.long x))).set (i.val + 1) none = lv') (K : J k ws c n (pc + 1) lv' st) : J k ws c n pc lv (.long x :: st) := fun H locs ls hP hL => lv_lstore_n F.hx F.hb hd rfl hL (by rw [F.hn]; simpa using hn) rfl fun ls' h => K H locs ls' hP (lvh.put2 ho he h)
theorem j_lstore (F : Fx k cc own R nL) {i : Nat} {x : Int64} (lv' : List (Option Value)) (hd : decode cc pc = .ok (.lstore i, 2)) (ho : (Nat.blt (i + 1) lv.length && okst lv i) = true) (hn : Nat.blt (i + 1) nL = true) (he : (lv.set i (some (.long x))).set (i + 1) none = lv') (K : J k ws c n (pc + 2) lv' st) : J k ws c n pc lv (.long x :: st) := fun H locs ls hP hL => lv_lstore F.hx F.hb hd hL (by rw [F.hn]; simpa using hn) rfl fun ls' h => K H locs ls' hP (lvh.put2 ho he h)
theorem j_dstore (F : Fx k cc own R nL) {i : Nat} {x : UInt64} (lv' : List (Option Value)) (hd : decode cc pc = .ok (.dstore i, 2)) (ho : (Nat.blt (i + 1) lv.length && okst lv i) = true) (hn : Nat.blt (i + 1) nL = true) (he : (lv.set i (some (.double x))).set (i + 1) none = lv') (K : J k ws c n (pc + 2) lv' st) : J k ws c n pc lv (.double x :: st) := fun H locs ls hP hL => lv_dstore F.hx F.hb hd hL (by rw [F.hn]; simpa using hn) rfl fun ls' h => K H locs ls' hP (lvh.put2 ho he h)
theorem j_astorenN (F : Fx k cc own R nL) {i : Fin 4}  (lv' : List (Option Value)) (hd : decode cc pc = .ok (.astore_n i, 1)) (ho : (Nat.blt i.val lv.length && okst lv i.val) = true) (hn : Nat.blt i.val nL = true) (he : lv.set i.val (some (.null)) = lv') (K : J k ws c n (pc + 1) lv' st) : J k ws c n pc lv (.null :: st) := fun H locs ls hP hL => lv_astore_nN F.hx F.hb hd rfl hL (by rw [F.hn]; simpa using hn) rfl fun ls' h => K H locs ls' hP (lvh.put ho he h)
theorem j_astoreN (F : Fx k cc own R nL) {i : Nat}  (lv' : List (Option Value)) (hd : decode cc pc = .ok (.astore i, 2)) (ho : (Nat.blt i lv.length && okst lv i) = true) (hn : Nat.blt i nL = true) (he : lv.set i (some (.null)) = lv') (K : J k ws c n (pc + 2) lv' st) : J k ws c n pc lv (.null :: st) := fun H locs ls hP hL => lv_astoreN F.hx F.hb hd hL (by rw [F.hn]; simpa using hn) rfl fun ls' h => K H locs ls' hP (lvh.put ho he h)
theorem j_astorenq (F : Fx k cc own R nL) {i : Fin 4} {x : Option Nat} (lv' : List (Option Value)) (hd : decode cc pc = .ok (.astore_n i, 1)) (ho : (Nat.blt i.val lv.length && okst lv i.val) = true) (hn : Nat.blt i.val nL = true) (he : lv.set i.val (some (va_rf x)) = lv') (K : J k ws c n (pc + 1) lv' st) : J k ws c n pc lv (va_rf x :: st) := by
  cases x with
  | none => exact j_astorenN F lv' hd ho hn he K
  | some a => exact j_astoren F lv' hd ho hn he K
theorem j_astoreq (F : Fx k cc own R nL) {i : Nat} {x : Option Nat} (lv' : List (Option Value)) (hd : decode cc pc = .ok (.astore i, 2)) (ho : (Nat.blt i lv.length && okst lv i) = true) (hn : Nat.blt i nL = true) (he : lv.set i (some (va_rf x)) = lv') (K : J k ws c n (pc + 2) lv' st) : J k ws c n pc lv (va_rf x :: st) := by
  cases x with
  | none => exact j_astoreN F lv' hd ho hn he K
  | some a => exact j_astore F lv' hd ho hn he K
theorem j_iinc (F : Fx k cc own R nL) {i : Nat} {d : Int} {x v : Int32} (lv' : List (Option Value)) (hd : decode cc pc = .ok (.iinc i d, 3)) (hl : lv[i]? = some (some (.int x))) (hv : x + Int32.ofInt d = v) (ho : (Nat.blt i lv.length && okst lv i) = true) (hn : Nat.blt i nL = true) (he : lv.set i (some (.int v)) = lv') (K : J k ws c n (pc + 3) lv' st) : J k ws c n pc lv st := fun H locs ls hP hL => by
  obtain ⟨j, hj⟩ := List.getElem?_of_mem ((prs_iff lv 0 i (.int x)).mpr ⟨i, by omega, hl⟩)
  exact lv_iinc F.hx F.hb hd hL hj hv (by rw [F.hn]; simpa using hn) rfl fun ls' h => K H locs ls' hP (lvh.put ho he h)
theorem j_iadd (F : Fx k cc own R nL) {x y : Int32} (hd : decode cc pc = .ok (.iadd, 1)) (K : J k ws c n (pc + 1) lv (.int (x + y) :: st)) : J k ws c n pc lv (.int y :: .int x :: st) := fun H locs ls hP hL => lv_iadd F.hx F.hb hd (K H locs ls hP hL)
theorem j_isub (F : Fx k cc own R nL) {x y : Int32} (hd : decode cc pc = .ok (.isub, 1)) (K : J k ws c n (pc + 1) lv (.int (x - y) :: st)) : J k ws c n pc lv (.int y :: .int x :: st) := fun H locs ls hP hL => lv_isub F.hx F.hb hd (K H locs ls hP hL)
theorem j_imul (F : Fx k cc own R nL) {x y : Int32} (hd : decode cc pc = .ok (.imul, 1)) (K : J k ws c n (pc + 1) lv (.int (x * y) :: st)) : J k ws c n pc lv (.int y :: .int x :: st) := fun H locs ls hP hL => lv_imul F.hx F.hb hd (K H locs ls hP hL)
theorem j_iand (F : Fx k cc own R nL) {x y : Int32} (hd : decode cc pc = .ok (.iand, 1)) (K : J k ws c n (pc + 1) lv (.int (x &&& y) :: st)) : J k ws c n pc lv (.int y :: .int x :: st) := fun H locs ls hP hL => lv_iand F.hx F.hb hd (K H locs ls hP hL)
theorem j_ior (F : Fx k cc own R nL) {x y : Int32} (hd : decode cc pc = .ok (.ior, 1)) (K : J k ws c n (pc + 1) lv (.int (x ||| y) :: st)) : J k ws c n pc lv (.int y :: .int x :: st) := fun H locs ls hP hL => lv_ior F.hx F.hb hd (K H locs ls hP hL)
theorem j_ixor (F : Fx k cc own R nL) {x y : Int32} (hd : decode cc pc = .ok (.ixor, 1)) (K : J k ws c n (pc + 1) lv (.int (x ^^^ y) :: st)) : J k ws c n pc lv (.int y :: .int x :: st) := fun H locs ls hP hL => lv_ixor F.hx F.hb hd (K H locs ls hP hL)
theorem j_ishl (F : Fx k cc own R nL) {x y : Int32} (hd : decode cc pc = .ok (.ishl, 1)) (K : J k ws c n (pc + 1) lv (.int (x <<< (y &&& 31)) :: st)) : J k ws c n pc lv (.int y :: .int x :: st) := fun H locs ls hP hL => lv_ishl F.hx F.hb hd (K H locs ls hP hL)
theorem j_ishr (F : Fx k cc own R nL) {x y : Int32} (hd : decode cc pc = .ok (.ishr, 1)) (K : J k ws c n (pc + 1) lv (.int (x >>> (y &&& 31)) :: st)) : J k ws c n pc lv (.int y :: .int x :: st) := fun H locs ls hP hL => lv_ishr F.hx F.hb hd (K H locs ls hP hL)
theorem j_idiv (F : Fx k cc own R nL) {x y : Int32} (hd : decode cc pc = .ok (.idiv, 1)) (h0 : ¬ y = 0) (K : J k ws c n (pc + 1) lv (.int (x / y) :: st)) : J k ws c n pc lv (.int y :: .int x :: st) := fun H locs ls hP hL => lv_idiv F.hx F.hb hd h0 (K H locs ls hP hL)
theorem j_irem (F : Fx k cc own R nL) {x y : Int32} (hd : decode cc pc = .ok (.irem, 1)) (h0 : ¬ y = 0) (K : J k ws c n (pc + 1) lv (.int (x - x / y * y) :: st)) : J k ws c n pc lv (.int y :: .int x :: st) := fun H locs ls hP hL => lv_irem F.hx F.hb hd h0 (K H locs ls hP hL)
theorem j_ladd (F : Fx k cc own R nL) {x y : Int64} (hd : decode cc pc = .ok (.ladd, 1)) (K : J k ws c n (pc + 1) lv (.long (x + y) :: st)) : J k ws c n pc lv (.long y :: .long x :: st) := fun H locs ls hP hL => lv_ladd F.hx F.hb hd (K H locs ls hP hL)
theorem j_lmul (F : Fx k cc own R nL) {x y : Int64} (hd : decode cc pc = .ok (.lmul, 1)) (K : J k ws c n (pc + 1) lv (.long (x * y) :: st)) : J k ws c n pc lv (.long y :: .long x :: st) := fun H locs ls hP hL => lv_lmul F.hx F.hb hd (K H locs ls hP hL)
theorem j_i2l (F : Fx k cc own R nL) {x : Int32} (hd : decode cc pc = .ok (.i2l, 1)) (K : J k ws c n (pc + 1) lv (.long x.toInt64 :: st)) : J k ws c n pc lv (.int x :: st) := fun H locs ls hP hL => lv_i2l F.hx F.hb hd rfl (K H locs ls hP hL)
theorem j_lcmp (F : Fx k cc own R nL) {x y : Int64} (hd : decode cc pc = .ok (.lcmp, 1)) (K : J k ws c n (pc + 1) lv (.int (lg_cmp x y) :: st)) : J k ws c n pc lv (.long y :: .long x :: st) := fun H locs ls hP hL => W.lcmp F.hx F.hb hd (K H locs ls hP hL)
theorem j_i2d (F : Fx k cc own R nL) {x : Int32} (hd : decode cc pc = .ok (.i2d, 1)) (K : J k ws c n (pc + 1) lv (.double (FP.i2d x) :: st)) : J k ws c n pc lv (.int x :: st) := fun H locs ls hP hL => lv_i2d F.hx F.hb hd (K H locs ls hP hL)
theorem j_ddiv (F : Fx k cc own R nL) {x y : UInt64} (hd : decode cc pc = .ok (.ddiv, 1)) (hne : vf_n64 (FP.ddiv x y)) (K : J k ws c n (pc + 1) lv (.double (FP.ddiv x y) :: st)) : J k ws c n pc lv (.double y :: .double x :: st) := fun H locs ls hP hL => lv_ddiv F.hx F.hb hd hne (K H locs ls hP hL)
theorem j_dcmp (F : Fx k cc own R nL) {x y : UInt64} {op : CmpOp} (hd : decode cc pc = .ok (.dcmp op, 1)) (K : J k ws c n (pc + 1) lv (.int (Op.cmpValue (FP.dcmp x y) op) :: st)) : J k ws c n pc lv (.double y :: .double x :: st) := fun H locs ls hP hL => lv_dcmp F.hx F.hb hd (K H locs ls hP hL)
theorem j_dconst1 (F : Fx k cc own R nL) (hd : decode cc pc = .ok (.dconst 1, 1)) (K : J k ws c n (pc + 1) lv (.double FP.dconst1 :: st)) : J k ws c n pc lv (st) := fun H locs ls hP hL => lv_dconst1 F.hx F.hb hd (K H locs ls hP hL)
theorem j_null (F : Fx k cc own R nL) (hd : decode cc pc = .ok (.aconst_null, 1)) (K : J k ws c n (pc + 1) lv (.null :: st)) : J k ws c n pc lv (st) := fun H locs ls hP hL => lv_null F.hx F.hb hd (K H locs ls hP hL)
theorem j_dup (F : Fx k cc own R nL) {v : Value} (hd : decode cc pc = .ok (.dup, 1)) (hv : v.category = 1) (K : J k ws c n (pc + 1) lv (v :: v :: st)) : J k ws c n pc lv (v :: st) := fun H locs ls hP hL => lv_dup F.hx F.hb hd hv (K H locs ls hP hL)
theorem j_pop (F : Fx k cc own R nL) {v : Value} (hd : decode cc pc = .ok (.pop, 1)) (hv : v.category = 1) (K : J k ws c n (pc + 1) lv (st)) : J k ws c n pc lv (v :: st) := fun H locs ls hP hL => lv_pop F.hx F.hb hd hv (K H locs ls hP hL)
theorem j_dup2 (F : Fx k cc own R nL) {v w : Value} (hd : decode cc pc = .ok (.dup2, 1)) (hv : v.category = 1) (hw : w.category = 1) (K : J k ws c n (pc + 1) lv (v :: w :: v :: w :: st)) : J k ws c n pc lv (v :: w :: st) := fun H locs ls hP hL => lv_dup2_11 F.hx F.hb hd hv hw (K H locs ls hP hL)
theorem j_dupx1 (F : Fx k cc own R nL) {v w : Value} (hd : decode cc pc = .ok (.dup_x1, 1)) (hv : v.category = 1) (hw : w.category = 1) (K : J k ws c n (pc + 1) lv (v :: w :: v :: st)) : J k ws c n pc lv (v :: w :: st) := fun H locs ls hP hL => lv_dup_x1 F.hx F.hb hd hv hw (K H locs ls hP hL)
theorem j_goto (F : Fx k cc own R nL) {off : Int} {tgt : Nat} (hd : decode cc pc = .ok (.goto off, 3)) (ht : (pc : Int) + off = (tgt : Int)) (K : J k ws c n (tgt) lv (st)) : J k ws c n pc lv (st) := fun H locs ls hP hL => lv_goto F.hx F.hb hd ht (K H locs ls hP hL)
theorem j_ifnonnull (F : Fx k cc own R nL) {x : Nat} {off : Int} {tgt : Nat} (hd : decode cc pc = .ok (.ifnonnull off, 3)) (ht : (pc : Int) + off = (tgt : Int)) (K : J k ws c n (tgt) lv (st)) : J k ws c n pc lv (.ref x :: st) := fun H locs ls hP hL => lv_ifnonnull F.hx F.hb hd ht (K H locs ls hP hL)
theorem j_ifnonnullN (F : Fx k cc own R nL) {off : Int} (hd : decode cc pc = .ok (.ifnonnull off, 3)) (K : J k ws c n (pc + 3) lv (st)) : J k ws c n pc lv (.null :: st) := fun H locs ls hP hL => lv_ifnonnullN F.hx F.hb hd (K H locs ls hP hL)
theorem j_ifnull (F : Fx k cc own R nL) {x : Nat} {off : Int} (hd : decode cc pc = .ok (.ifnull off, 3)) (K : J k ws c n (pc + 3) lv (st)) : J k ws c n pc lv (.ref x :: st) := fun H locs ls hP hL => lv_ifnull F.hx F.hb hd (K H locs ls hP hL)
theorem j_ifnullN (F : Fx k cc own R nL) {off : Int} {tgt : Nat} (hd : decode cc pc = .ok (.ifnull off, 3)) (ht : (pc : Int) + off = (tgt : Int)) (K : J k ws c n (tgt) lv (st)) : J k ws c n pc lv (.null :: st) := fun H locs ls hP hL => lv_ifnullN F.hx F.hb hd ht (K H locs ls hP hL)
theorem j_ifnullq (F : Fx k cc own R nL) {x : Option Nat} {off : Int} {tgt : Nat} (hd : decode cc pc = .ok (.ifnull off, 3)) (ht : (pc : Int) + off = (tgt : Int)) (K1 : x = none → J k ws c n tgt lv st) (K2 : ∀ a, x = some a → J k ws c n (pc + 3) lv st) : J k ws c n pc lv (va_rf x :: st) := by
  cases x with
  | none => exact j_ifnullN F hd ht (K1 rfl)
  | some a => exact j_ifnull F hd (K2 a rfl)
theorem j_ifnonnullq (F : Fx k cc own R nL) {x : Option Nat} {off : Int} {tgt : Nat} (hd : decode cc pc = .ok (.ifnonnull off, 3)) (ht : (pc : Int) + off = (tgt : Int)) (K1 : ∀ a, x = some a → J k ws c n tgt lv st) (K2 : x = none → J k ws c n (pc + 3) lv st) : J k ws c n pc lv (va_rf x :: st) := by
  cases x with
  | none => exact j_ifnonnullN F hd (K2 rfl)
  | some a => exact j_ifnonnull F hd ht (K1 a rfl)
theorem j_ifeq (F : Fx k cc own R nL) {x : Int32} {off : Int} {tgt : Nat} (hd : decode cc pc = .ok (.ifCond .eq off, 3)) (ht : (pc : Int) + off = (tgt : Int)) (K1 : x = 0 → J k ws c n tgt lv st) (K2 : ¬ x = 0 → J k ws c n (pc + 3) lv st) : J k ws c n pc lv (.int x :: st) := fun H locs ls hP hL => lv_if_eq F.hx F.hb hd ht (fun h => K1 h H locs ls hP hL) (fun h => K2 h H locs ls hP hL)
theorem j_ifne (F : Fx k cc own R nL) {x : Int32} {off : Int} {tgt : Nat} (hd : decode cc pc = .ok (.ifCond .ne off, 3)) (ht : (pc : Int) + off = (tgt : Int)) (K1 : ¬ x = 0 → J k ws c n tgt lv st) (K2 : x = 0 → J k ws c n (pc + 3) lv st) : J k ws c n pc lv (.int x :: st) := fun H locs ls hP hL => lv_if_ne F.hx F.hb hd ht (fun h => K1 h H locs ls hP hL) (fun h => K2 h H locs ls hP hL)
theorem j_iflt (F : Fx k cc own R nL) {x : Int32} {off : Int} {tgt : Nat} (hd : decode cc pc = .ok (.ifCond .lt off, 3)) (ht : (pc : Int) + off = (tgt : Int)) (K1 : x < 0 → J k ws c n tgt lv st) (K2 : ¬ x < 0 → J k ws c n (pc + 3) lv st) : J k ws c n pc lv (.int x :: st) := fun H locs ls hP hL => lv_if_lt F.hx F.hb hd ht (fun h => K1 h H locs ls hP hL) (fun h => K2 h H locs ls hP hL)
theorem j_ifge (F : Fx k cc own R nL) {x : Int32} {off : Int} {tgt : Nat} (hd : decode cc pc = .ok (.ifCond .ge off, 3)) (ht : (pc : Int) + off = (tgt : Int)) (K1 : 0 ≤ x → J k ws c n tgt lv st) (K2 : ¬ 0 ≤ x → J k ws c n (pc + 3) lv st) : J k ws c n pc lv (.int x :: st) := fun H locs ls hP hL => lv_if_ge F.hx F.hb hd ht (fun h => K1 h H locs ls hP hL) (fun h => K2 h H locs ls hP hL)
theorem j_ifgt (F : Fx k cc own R nL) {x : Int32} {off : Int} {tgt : Nat} (hd : decode cc pc = .ok (.ifCond .gt off, 3)) (ht : (pc : Int) + off = (tgt : Int)) (K1 : 0 < x → J k ws c n tgt lv st) (K2 : ¬ 0 < x → J k ws c n (pc + 3) lv st) : J k ws c n pc lv (.int x :: st) := fun H locs ls hP hL => lv_if_gt F.hx F.hb hd ht (fun h => K1 h H locs ls hP hL) (fun h => K2 h H locs ls hP hL)
theorem j_ifle (F : Fx k cc own R nL) {x : Int32} {off : Int} {tgt : Nat} (hd : decode cc pc = .ok (.ifCond .le off, 3)) (ht : (pc : Int) + off = (tgt : Int)) (K1 : x ≤ 0 → J k ws c n tgt lv st) (K2 : ¬ x ≤ 0 → J k ws c n (pc + 3) lv st) : J k ws c n pc lv (.int x :: st) := fun H locs ls hP hL => lv_if_le F.hx F.hb hd ht (fun h => K1 h H locs ls hP hL) (fun h => K2 h H locs ls hP hL)
theorem j_iceq (F : Fx k cc own R nL) {x y : Int32} {off : Int} {tgt : Nat} (hd : decode cc pc = .ok (.if_icmp .eq off, 3)) (ht : (pc : Int) + off = (tgt : Int)) (K1 : x = y → J k ws c n tgt lv st) (K2 : ¬ x = y → J k ws c n (pc + 3) lv st) : J k ws c n pc lv (.int y :: .int x :: st) := fun H locs ls hP hL => lv_icmp_eq F.hx F.hb hd ht (fun h => K1 h H locs ls hP hL) (fun h => K2 h H locs ls hP hL)
theorem j_icne (F : Fx k cc own R nL) {x y : Int32} {off : Int} {tgt : Nat} (hd : decode cc pc = .ok (.if_icmp .ne off, 3)) (ht : (pc : Int) + off = (tgt : Int)) (K1 : ¬ x = y → J k ws c n tgt lv st) (K2 : x = y → J k ws c n (pc + 3) lv st) : J k ws c n pc lv (.int y :: .int x :: st) := fun H locs ls hP hL => lv_icmp_ne F.hx F.hb hd ht (fun h => K1 h H locs ls hP hL) (fun h => K2 h H locs ls hP hL)
theorem j_iclt (F : Fx k cc own R nL) {x y : Int32} {off : Int} {tgt : Nat} (hd : decode cc pc = .ok (.if_icmp .lt off, 3)) (ht : (pc : Int) + off = (tgt : Int)) (K1 : x < y → J k ws c n tgt lv st) (K2 : ¬ x < y → J k ws c n (pc + 3) lv st) : J k ws c n pc lv (.int y :: .int x :: st) := fun H locs ls hP hL => lv_icmp_lt F.hx F.hb hd ht (fun h => K1 h H locs ls hP hL) (fun h => K2 h H locs ls hP hL)
theorem j_icge (F : Fx k cc own R nL) {x y : Int32} {off : Int} {tgt : Nat} (hd : decode cc pc = .ok (.if_icmp .ge off, 3)) (ht : (pc : Int) + off = (tgt : Int)) (K1 : y ≤ x → J k ws c n tgt lv st) (K2 : ¬ y ≤ x → J k ws c n (pc + 3) lv st) : J k ws c n pc lv (.int y :: .int x :: st) := fun H locs ls hP hL => lv_icmp_ge F.hx F.hb hd ht (fun h => K1 h H locs ls hP hL) (fun h => K2 h H locs ls hP hL)
theorem j_icgt (F : Fx k cc own R nL) {x y : Int32} {off : Int} {tgt : Nat} (hd : decode cc pc = .ok (.if_icmp .gt off, 3)) (ht : (pc : Int) + off = (tgt : Int)) (K1 : y < x → J k ws c n tgt lv st) (K2 : ¬ y < x → J k ws c n (pc + 3) lv st) : J k ws c n pc lv (.int y :: .int x :: st) := fun H locs ls hP hL => lv_icmp_gt F.hx F.hb hd ht (fun h => K1 h H locs ls hP hL) (fun h => K2 h H locs ls hP hL)
theorem j_icle (F : Fx k cc own R nL) {x y : Int32} {off : Int} {tgt : Nat} (hd : decode cc pc = .ok (.if_icmp .le off, 3)) (ht : (pc : Int) + off = (tgt : Int)) (K1 : x ≤ y → J k ws c n tgt lv st) (K2 : ¬ x ≤ y → J k ws c n (pc + 3) lv st) : J k ws c n pc lv (.int y :: .int x :: st) := fun H locs ls hP hL => lv_icmp_le F.hx F.hb hd ht (fun h => K1 h H locs ls hP hL) (fun h => K2 h H locs ls hP hL)
theorem j_acne (F : Fx k cc own R nL) {x y : Option Nat} {off : Int} {tgt : Nat} (hd : decode cc pc = .ok (.if_acmp .ne off, 3)) (ht : (pc : Int) + off = (tgt : Int)) (K1 : ¬ x = y → J k ws c n tgt lv st) (K2 : x = y → J k ws c n (pc + 3) lv st) : J k ws c n pc lv (va_rf y :: va_rf x :: st) := fun H locs ls hP hL => lv_acmp_ne F.hx F.hb hd ht (fun h => K1 h H locs ls hP hL) (fun h => K2 h H locs ls hP hL)
theorem j_aceq (F : Fx k cc own R nL) {x y : Option Nat} {off : Int} {tgt : Nat} (hd : decode cc pc = .ok (.if_acmp .eq off, 3)) (ht : (pc : Int) + off = (tgt : Int)) (K1 : x = y → J k ws c n tgt lv st) (K2 : ¬ x = y → J k ws c n (pc + 3) lv st) : J k ws c n pc lv (va_rf y :: va_rf x :: st) := fun H locs ls hP hL => lv_acmp_eq F.hx F.hb hd ht (fun h => K1 h H locs ls hP hL) (fun h => K2 h H locs ls hP hL)
theorem j_ldc (F : Fx k cc own R nL) {i : Nat} {v : Int32} (hu : Cond.constant own i v ∈ Uw) (hd : decode cc pc = .ok (.ldc i, 2)) (K : J k ws c n (pc + 2) lv (.int v :: st)) : J k ws c n pc lv st := fun H locs ls hP hL => lv_ldc F.hx F.hb F.hown (F.hts hu) hd (K H locs ls hP hL)
theorem j_ldc2 (F : Fx k cc own R nL) {i : Nat} {v : Int64} (hu : Cond.constantLong own i v ∈ Uw) (hd : decode cc pc = .ok (.ldc2_w i, 3)) (K : J k ws c n (pc + 3) lv (.long v :: st)) : J k ws c n pc lv st := fun H locs ls hP hL => lv_ldc2 F.hx F.hb F.hown (F.hts hu) hd (K H locs ls hP hL)
theorem j_tabout (F : Fx k cc own R nL) {dflt lo hi : Int} {offs : Array Int} {len : Nat} {x : Int32} {tgt : Nat} (hd : decode cc pc = .ok (.tableswitch dflt lo hi offs, len)) (h : x.toInt < lo ∨ hi < x.toInt) (ht : (pc : Int) + dflt = (tgt : Int)) (K : J k ws c n tgt lv st) : J k ws c n pc lv (.int x :: st) := fun H locs ls hP hL => lv_tableOut F.hx F.hb hd h ht (K H locs ls hP hL)
theorem j_tabin (F : Fx k cc own R nL) {dflt lo hi : Int} {offs : Array Int} {len : Nat} {x : Int32} {off : Int} {tgt : Nat} (hd : decode cc pc = .ok (.tableswitch dflt lo hi offs, len)) (h1 : ¬ x.toInt < lo) (h2 : ¬ hi < x.toInt) (ho : offs[(x.toInt - lo).toNat]? = some off) (ht : (pc : Int) + off = (tgt : Int)) (K : J k ws c n tgt lv st) : J k ws c n pc lv (.int x :: st) := fun H locs ls hP hL => lv_tableIn F.hx F.hb hd h1 h2 ho ht (K H locs ls hP hL)
/-- the same, written otherwise -/
theorem j_lv (lv' : List (Option Value)) (h : ∀ (i : Nat) (v : Value), lv'[i]? = some (some v) → lv[i]? = some (some v)) (K : J k ws c n pc lv' st) : J k ws c n pc lv st := fun H locs ls hP hL => K H locs ls hP ⟨hL.1, hL.2.1, fun q hq => by
  obtain ⟨j, v⟩ := q
  obtain ⟨m, e1, e2⟩ := (prs_iff lv' 0 j v).mp hq
  rw [Nat.zero_add] at e1
  subst e1
  exact hL.at (h _ _ e2)⟩
theorem j_ws (ws' : va_W) (h : ws = ws') (K : J k ws' c n pc lv st) : J k ws c n pc lv st := h ▸ K
theorem j_st (st' : List Value) (h : st = st') (K : J k ws c n pc lv st') : J k ws c n pc lv st := h ▸ K
theorem j_widen (c' n' : Nat) (h1 : c ≤ c') (h2 : n ≤ n') (K : J k ws c' n' pc lv st) : J k ws c n pc lv st := fun H locs ls hP hL => W.widen h1 h2 (K H locs ls hP hL)
end ROWS
end
section
/-! HEAP ROWS AND CONTRACTS -/
section HROWS
variable {k : Kx} {cc : ByteArray} {own : String} {R : Room} {nL : Nat} {ws ws' : va_W} {c n pc : Nat} {lv lv' : List (Option Value)} {st : List Value}
theorem Wd.put {H H1 : Heap} {locs locs1 : List Loc} (hw : kw k = true) (h : Wd k ws H locs) (hP : va_P (kD k) vwCl ws' H1) (hD : va_D (kA k) ws') (hS : va_S (kA k) (ks k).heap H1 locs1) : Wd k ws' H1 locs1 := ⟨hP, fun _ => hD, hS, fun e => by rw [hw] at e; cases e⟩
/-- a field is read: 'q' the object's place in the world -/
theorem j_getf (F : Fx k cc own R nL) {ref C : String} {T : u_T} {N ci idx a : Nat} {fs : List Value} {v : Value} (f : Nat) (hin : ∀ w ∈ u_ws C T N, w ∈ Uw) (hc : vwCl[ci]? = some (C, T, N)) (hf : f < N) (hu : Cond.fieldLink own idx ref (T f).2.1 (T f).2.2.1 ∈ Uw) (hs : ∀ x, (ks k).fieldFound? (T f).1 (T f).2.1 (T f).2.2.1 = some x → (ks k).fieldFound? ref (T f).2.1 (T f).2.2.1 = some x)
    (hd : decode cc pc = .ok (.getfield idx, 3)) (q : Nat) (hq : ws[q]? = some (a, .inr (ci, fs))) (hv : fs[f]? = some v) (K : J k ws c n (pc + 3) lv (v :: st)) : J k ws c n pc lv (.ref a :: st) := fun H locs ls hP hL =>
  va_get F.hx F.hb (fun w h => F.hts h) hin F.hown F.hK.1 hP.1 q hq hc f hf (F.hts hu) hs hv hd (K H locs ls hP hL)
theorem j_putf (F : Fx k cc own R nL) (hw : kw k = true) {ref C : String} {T : u_T} {N ci idx a : Nat} {fs : List Value} {v : Value} {ty : FieldType} (f : Nat) (hin : ∀ w ∈ u_ws C T N, w ∈ Uw) (ty0 : Nat → FieldType) (hty : ∀ k, k < N → parseFieldDescriptor (T k).2.2.1 = some (ty0 k)) (hnm : ∀ a, a < N → ∀ b, b < N → a ≠ b → (T a).2.1 ≠ (T b).2.1) (hc : vwCl[ci]? = some (C, T, N)) (hf : f < N) (hu : Cond.fieldLink own idx ref (T f).2.1 (T f).2.2.1 ∈ Uw) (hs : ∀ x, (ks k).fieldFound? (T f).1 (T f).2.1 (T f).2.2.1 = some x → (ks k).fieldFound? ref (T f).2.1 (T f).2.2.1 = some x)
    (hfin : (T f).2.2.2 = false) (hdt : parseFieldDescriptor (T f).2.2.1 = some ty) (hd : decode cc pc = .ok (.putfield idx, 3)) (hnr : narrow ty v = v) (hfit : fits ty v = true) (q : Nat) (hq : ws[q]? = some (a, .inr (ci, fs))) (hl : f < fs.length) (ws' : va_W) (he : ws.set q (a, .inr (ci, fs.set f v)) = ws') (K : J k ws' c n (pc + 3) lv st) : J k ws c n pc lv (v :: .ref a :: st) := fun H locs ls hP hL =>
  va_put F.hx F.hb (fun w h => F.hts h) hin ty0 hty hnm F.hown F.hK.1 hP.1 (hP.2.1 hw) hP.2.2.1 q hq hc f hf (F.hts hu) hs hfin hdt hnr hfit hl hd (fun H1 locs1 h1 h2 h3 => by
    subst he
    exact K H1 locs1 ls (hP.put hw h1 h2 h3) hL)
theorem j_iald (F : Fx k cc own R nL) {a N : Nat} {f : Nat → Int32} {i : Int32} (hd : decode cc pc = .ok (.iaload, 1)) (q : Nat) (hq : ws[q]? = some (a, .inl ((kD k).1 100, N, .inl f))) (hin : vp_in i N) (K : J k ws c n (pc + 1) lv (.int (f i.toNatClampNeg) :: st)) : J k ws c n pc lv (.int i :: .ref a :: st) := fun H locs ls hP hL =>
  va_iald F.hx F.hb F.hK.1 hP.1 q 0 hq rfl hin hd (K H locs ls hP hL)
theorem j_lald (F : Fx k cc own R nL) {a N : Nat} {f : Nat → Int64} {i : Int32} (hd : decode cc pc = .ok (.laload, 1)) (q : Nat) (hq : ws[q]? = some (a, .inl ((kD k).1 102, N, .inr (.inl f)))) (hin : vp_in i N) (K : J k ws c n (pc + 1) lv (.long (f i.toNatClampNeg) :: st)) : J k ws c n pc lv (.int i :: .ref a :: st) := fun H locs ls hP hL =>
  va_lald F.hx F.hb F.hK.1 hP.1 q 2 hq rfl hin hd (K H locs ls hP hL)
theorem j_iast (F : Fx k cc own R nL) (hw : kw k = true) {a N : Nat} {f : Nat → Int32} {i x : Int32} (hd : decode cc pc = .ok (.iastore, 1)) (q : Nat) (hq : ws[q]? = some (a, .inl ((kD k).1 100, N, .inl f))) (hin : vp_in i N) (ws' : va_W) (he : ws.set q (a, .inl ((kD k).1 100, N, .inl (upd f i.toNatClampNeg x))) = ws') (K : J k ws' c n (pc + 1) lv st) : J k ws c n pc lv (.int x :: .int i :: .ref a :: st) := fun H locs ls hP hL =>
  va_iast F.hx F.hb F.hK.1 hP.1 (hP.2.1 hw) hP.2.2.1 q 0 hq rfl hin hd (fun H1 locs1 h1 h2 h3 => by
    subst he
    exact K H1 locs1 ls (hP.put hw h1 h2 h3) hL)
theorem j_last (F : Fx k cc own R nL) (hw : kw k = true) {a N : Nat} {f : Nat → Int64} {i : Int32} {x : Int64} (hd : decode cc pc = .ok (.lastore, 1)) (q : Nat) (hq : ws[q]? = some (a, .inl ((kD k).1 102, N, .inr (.inl f)))) (hin : vp_in i N) (ws' : va_W) (he : ws.set q (a, .inl ((kD k).1 102, N, .inr (.inl (vp_updL f i.toNatClampNeg x)))) = ws') (K : J k ws' c n (pc + 1) lv st) : J k ws c n pc lv (.long x :: .int i :: .ref a :: st) := fun H locs ls hP hL =>
  va_last F.hx F.hb F.hK.1 hP.1 (hP.2.1 hw) hP.2.2.1 q 2 hq rfl hin hd (fun H1 locs1 h1 h2 h3 => by
    subst he
    exact K H1 locs1 ls (hP.put hw h1 h2 h3) hL)
theorem j_aald (F : Fx k cc own R nL) {a N : Nat} {f : Nat → Option Nat} {i : Int32} (hd : decode cc pc = .ok (.aaload, 1)) (q : Nat) (hq : ws[q]? = some (a, .inl ((kD k).1 101, N, .inr (.inr (.inr (.inr f)))))) (hin : vp_in i N) (K : J k ws c n (pc + 1) lv (va_rf (f i.toNatClampNeg) :: st)) : J k ws c n pc lv (.int i :: .ref a :: st) := fun H locs ls hP hL =>
  va_aldq F.hx F.hb F.hK.1 hP.1 q 1 hq rfl hin hd (K H locs ls hP hL)
/-- the length of an array of the world -/
theorem j_alen (F : Fx k cc own R nL) {a t0 : Nat} {cA : ClassId} {x : vp_A} {ty : FieldType} {v : Int32} (hd : decode cc pc = .ok (.arraylength, 1)) (q : Nat) (hq : ws[q]? = some (a, .inl (cA, x))) (ht : (tysD (kD k))[t0]? = some (cA, ty)) (hv : Int32.ofNat x.1 = v) (K : J k ws c n (pc + 1) lv (.int v :: st)) : J k ws c n pc lv (.ref a :: st) := fun H locs ls hP hL =>
  va_alen F.hx F.hb F.hK.1 hP.1 q t0 hq ht hv hd (K H locs ls hP hL)
/-- the place of a thing in a world's permutation -/
theorem va_P.perm {D : va_G} {cl : List vw_C} {a b : va_W} {H : Heap} (h : a.Perm b) (hP : va_P D cl a H) : va_P D cl b H := fun i q hq => by
  obtain ⟨j, hj⟩ := List.getElem?_of_mem (h.mem_iff.mpr (List.mem_of_getElem? hq))
  exact hP j q hj
theorem va_D.iff {A : Nat → Prop} {a : va_W} : va_D A a ↔ (a.map (·.1)).Nodup ∧ ∀ q ∈ a, A q.1 := by
  constructor
  · intro h
    refine ⟨List.nodup_iff_pairwise_ne.mpr (List.pairwise_iff_getElem.mpr fun i j hi hj hij => ?_), fun q hq => ?_⟩
    · intro e
      have hi' : i < a.length := by simpa using hi
      have hj' : j < a.length := by simpa using hj
      have := h.1 i j a[i] a[j] (List.getElem?_eq_getElem hi') (List.getElem?_eq_getElem hj') (by simpa using e)
      omega
    · obtain ⟨j, hj⟩ := List.getElem?_of_mem hq
      exact h.2 j q hj
  · rintro ⟨h1, h2⟩
    refine ⟨fun i j p q hp hq e => ?_, fun i q hq => h2 q (List.mem_of_getElem? hq)⟩
    have hi : i < a.length := (List.getElem?_eq_some_iff.mp hp).1
    have hj : j < a.length := (List.getElem?_eq_some_iff.mp hq).1
    have e1 : a[i] = p := (List.getElem?_eq_some_iff.mp hp).2
    have e2 : a[j] = q := (List.getElem?_eq_some_iff.mp hq).2
    rcases Nat.lt_trichotomy i j with hl | hl | hl
    · exact absurd (by rw [List.getElem_map, List.getElem_map, e1, e2]; exact e) (List.pairwise_iff_getElem.mp (List.nodup_iff_pairwise_ne.mp h1) i j (by simpa using hi) (by simpa using hj) hl)
    · exact hl
    · exact absurd (by rw [List.getElem_map, List.getElem_map, e1, e2]; exact e.symm) (List.pairwise_iff_getElem.mp (List.nodup_iff_pairwise_ne.mp h1) j i (by simpa using hj) (by simpa using hi) hl)
theorem va_D.perm {A : Nat → Prop} {a b : va_W} (h : a.Perm b) (hD : va_D A a) : va_D A b := by
  rw [va_D.iff] at hD ⊢
  exact ⟨(h.map _).nodup_iff.mp hD.1, fun q hq => hD.2 q (h.mem_iff.mpr hq)⟩
theorem Wd.perm {H : Heap} {locs : List Loc} (h : ws.Perm ws') (hP : Wd k ws H locs) : Wd k ws' H locs := ⟨hP.1.perm h, fun hw => (hP.2.1 hw).perm h, hP.2.2⟩
theorem j_perm (ws' : va_W) (h : ws.Perm ws') (K : J k ws' c n pc lv st) : J k ws c n pc lv st := fun H locs ls hP hL => K H locs ls (hP.perm h) hL
end HROWS

/-! CONTRACTS: CR a reader (the heap stays), CM a writer (its world becomes one of P), CX a writer that may throw (then its world is as before) -/
abbrev vlist (v : Option Value) (st : List Value) : List Value := v.toList ++ st
def CR (l : Launch) (D : va_G) (y : MethodName) (cc : ByteArray) (maxL : Nat) (ret : Option FieldType) (fr lo : Nat) (ws : va_W) (as : List Value) (v : Value) : Prop :=
  Met l y (wU y cc maxL ret) (rm4 fr 0 0 lo) (va_Pc as (fun U => va_P D vwCl ws U.heap ∧ KK D U)) (fun _ st oc t => oc = .returned (some v) ∧ t.heap = st.heap) 0 0 (fun _ => False)
def PreM (D : va_G) (ws : va_W) (sz : Nat) (U : State) : Prop := U.heap.size = sz ∧ va_P D vwCl ws U.heap ∧ KK D U ∧ va_D (fun _ => True) ws ∧ ZZ D (va_A ws sz) U U.heap
def PostM (D : va_G) (ws : va_W) (sz : Nat) (P : Option Value → va_W → Prop) : Array Value → State → Outcome → State → Prop := fun _ st oc t => ∃ v ws', oc = .returned v ∧ P v ws' ∧ va_P D vwCl ws' t.heap ∧ va_D (va_A ws sz) ws' ∧ va_F (va_A ws sz) st t
def CM (l : Launch) (D : va_G) (y : MethodName) (cc : ByteArray) (maxL : Nat) (ret : Option FieldType) (fr lo mc ms : Nat) (ws : va_W) (as : List Value) (P : Option Value → va_W → Prop) : Prop :=
  ∀ sz, Met l y (wU y cc maxL ret) (rm4 fr mc ms lo) (va_Pc as (PreM D ws sz)) (PostM D ws sz P) mc ms (va_A ws sz)
def PostX (D : va_G) (ws : va_W) (sz : Nat) (PX : String → Prop) : String → State → State → Prop := fun E st t => PX E ∧ va_P D vwCl ws t.heap ∧ va_F (va_A ws sz) st t
def CX (l : Launch) (D : va_G) (y : MethodName) (cc : ByteArray) (maxL : Nat) (ret : Option FieldType) (fr lo mc ms : Nat) (ws : va_W) (as : List Value) (P : Option Value → va_W → Prop) (PX : String → Prop) : Prop :=
  ∀ sz, vx_Met l y (wU y cc maxL ret) (rm4 fr mc ms lo) (va_Pc as (PreM D ws sz)) (PostM D ws sz P) (PostX D ws sz PX) mc ms (va_A ws sz)
theorem PreM.blind {D : va_G} {ws : va_W} {sz : Nat} {as : List Value} : FrameBlind (va_Pc as (PreM D ws sz)) := fun a U g mk q => by
  obtain ⟨h0, h1, h2, h3, h4, h5⟩ := q
  exact ⟨h0, h1, h2, h3.calling, h4, h5.moved (u := U) (U := U.calling g mk a) (Vm.Alike.refl U.vm)⟩
theorem PreR.blind {D : va_G} {ws : va_W} {as : List Value} : FrameBlind (va_Pc as (fun U => va_P D vwCl ws U.heap ∧ KK D U)) := fun a U g mk q => by
  obtain ⟨h0, h1, h2⟩ := q
  exact ⟨h0, h1, h2.calling⟩
/-- where a body may end: a reader's, a writer's, one that throws -/
def RR (k : Kx) (ret : Option FieldType) (v : Value) : Prop := kw k = false ∧ (kmeth k).sig.returnType = ret ∧ kQ k = MQ (kbelow k) (fun _ st oc t => oc = .returned (some v) ∧ t.heap = st.heap) (kargs k) (ks k) 0 0 (fun _ => False)
def PostK (k : Kx) (P : Option Value → va_W → Prop) : Array Value → State → Outcome → State → Prop := fun _ st oc t => ∃ v ws', oc = .returned v ∧ P v ws' ∧ va_P (kD k) vwCl ws' t.heap ∧ va_D (kA k) ws' ∧ va_F (kA k) st t
def RW (k : Kx) (ret : Option FieldType) (mc ms : Nat) (P : Option Value → va_W → Prop) : Prop := kw k = true ∧ (kmeth k).sig.returnType = ret ∧ ∀ (H : Heap) (locs : List Loc) (c n : Nat) (g : JFrame), W (kp k) (kl k) (ke k) (kR k) (ks k) (km k) (kargs k) (kbelow k) (kmeth k) (kc k) H locs c n (MQ (kbelow k) (PostK k P) (kargs k) (ks k) mc ms (kA k)) g → W (kp k) (kl k) (ke k) (kR k) (ks k) (km k) (kargs k) (kbelow k) (kmeth k) (kc k) H locs c n (kQ k) g
def XW (k : Kx) (mc ms : Nat) (ws0 : va_W) (PX : String → Prop) : Prop := kw k = true ∧ ∃ Qc : Array Value → State → Outcome → State → Prop, kQ k = vx_MQ (kbelow k) Qc (fun E st t => PX E ∧ va_P (kD k) vwCl ws0 t.heap ∧ va_F (kA k) st t) (kargs k) (ks k) mc ms (kA k)
def NT (k : Kx) : Prop := ∀ x ∈ (kc k).exceptionTable.toList, False
theorem entry_eqL {m : MethodId} {as : List Value} {n : Nat} {lv : List (Option Value)} (hlv : lv_args 0 as = prs 0 lv) (hlen : (lg_sl as).length ≤ n) : ∃ ls : Array Slot, entryFrame m as.toArray n = F0 m 0 ls [] ∧ lvh ls n lv := by
  refine ⟨_, lg_entry_eq m as n, ?_⟩
  unfold lvh
  rw [← hlv]
  exact lv_entry as hlen
theorem CR_of {l : Launch} {D : va_G} {y : MethodName} {cc : ByteArray} {maxL : Nat} {ret : Option FieldType} {fr lo : Nat} {ws : va_W} {as : List Value} {v : Value} (lv : List (Option Value)) (hst : l.stackTraces = false) (hy : plainName y.cls = true) (hlv : lv_args 0 as = prs 0 lv) (hlen : (lg_sl as).length ≤ maxL)
    (body : ∀ k : Kx, Fx k cc y.cls (rm4 fr 0 0 lo) maxL → kl k = l → kD k = D → RR k ret v → J k ws 0 0 0 lv []) : CR l D y cc maxL ret fr lo ws as v := by
  refine Met.ofW (cc := cc) (maxL := maxL) (ret := ret) hy rfl ?_
  intro p e s m args below meth c s₁ B hml hv
  obtain ⟨rfl, hP, hK⟩ := hv
  have hts := atoms_spec (ws := wU y cc maxL ret) B.pre
  obtain ⟨ls, e1, e2⟩ := entry_eqL (m := m) hlv hlen
  rw [e1]
  exact body (mkK p l e (rm4 fr 0 0 lo) s m as.toArray below meth c (MQ below (fun _ st oc t => oc = .returned (some v) ∧ t.heap = st.heap) as.toArray s 0 0 (fun _ => False)) D (fun _ => False) false maxL)
    ⟨B.exec, B.bytes, hml, rfl, rfl, findClass_of_methodNamed B.named, fun w h => hts w (List.mem_cons_of_mem _ h), hK, fun _ _ h => (by cases h), fun h => (by cases h), hst, B.notSynchronized⟩ rfl rfl ⟨rfl, B.returns, rfl⟩ s.heap [] ls ⟨hP, fun h => (by cases h), va_S.rf, fun _ => ⟨rfl, rfl⟩⟩ e2
theorem CM_of {l : Launch} {D : va_G} {y : MethodName} {cc : ByteArray} {maxL : Nat} {ret : Option FieldType} {fr lo mc ms : Nat} {ws : va_W} {as : List Value} {P : Option Value → va_W → Prop} (lv : List (Option Value)) (hst : l.stackTraces = false) (hy : plainName y.cls = true) (hlv : lv_args 0 as = prs 0 lv) (hlen : (lg_sl as).length ≤ maxL)
    (body : ∀ k : Kx, Fx k cc y.cls (rm4 fr mc ms lo) maxL → kl k = l → kD k = D → (y.name = "<init>" → (kmeth k).name = "<init>") → RW k ret mc ms P → J k ws 0 0 0 lv []) : CM l D y cc maxL ret fr lo mc ms ws as P := by
  intro sz
  refine Met.ofW (cc := cc) (maxL := maxL) (ret := ret) hy rfl ?_
  intro p e s m args below meth c s₁ B hml hv
  obtain ⟨rfl, rfl, hP, hK, hD, hZ⟩ := hv
  have hts := atoms_spec (ws := wU y cc maxL ret) B.pre
  obtain ⟨ls, e1, e2⟩ := entry_eqL (m := m) hlv hlen
  rw [e1]
  exact body (mkK p l e (rm4 fr mc ms lo) s m as.toArray below meth c (MQ below (PostM D ws s.heap.size P) as.toArray s mc ms (va_A ws s.heap.size)) D (va_A ws s.heap.size) true maxL)
    ⟨B.exec, B.bytes, hml, rfl, rfl, findClass_of_methodNamed B.named, fun w h => hts w (List.mem_cons_of_mem _ h), hK, fun _ h _ => Or.inr h, fun _ => hZ, hst, B.notSynchronized⟩ rfl rfl (fun h => (name_of_methodNamed B.named B.method).1.trans h) ⟨rfl, B.returns, fun _ _ _ _ _ w => w⟩ s.heap [] ls ⟨hP, fun _ => hD.self, va_S.rf, fun h => (by cases h)⟩ e2
theorem CX_of {l : Launch} {D : va_G} {y : MethodName} {cc : ByteArray} {maxL : Nat} {ret : Option FieldType} {fr lo mc ms : Nat} {ws : va_W} {as : List Value} {P : Option Value → va_W → Prop} {PX : String → Prop} (lv : List (Option Value)) (hst : l.stackTraces = false) (hy : plainName y.cls = true) (hlv : lv_args 0 as = prs 0 lv) (hlen : (lg_sl as).length ≤ maxL)
    (body : ∀ k : Kx, Fx k cc y.cls (rm4 fr mc ms lo) maxL → kl k = l → kD k = D → RW k ret mc ms P → XW k mc ms ws PX → NT k → J k ws 0 0 0 lv []) : CX l D y cc maxL ret fr lo mc ms ws as P PX := by
  intro sz
  refine vx_ofW (cc := cc) (maxL := maxL) (ret := ret) hy rfl ?_
  intro p e s m args below meth c s₁ B hml hnt hv
  obtain ⟨rfl, rfl, hP, hK, hD, hZ⟩ := hv
  have hts := atoms_spec (ws := wU y cc maxL ret) B.pre
  obtain ⟨ls, e1, e2⟩ := entry_eqL (m := m) hlv hlen
  rw [e1]
  exact body (mkK p l e (rm4 fr mc ms lo) s m as.toArray below meth c (vx_MQ below (PostM D ws s.heap.size P) (PostX D ws s.heap.size PX) as.toArray s mc ms (va_A ws s.heap.size)) D (va_A ws s.heap.size) true maxL)
    ⟨B.exec, B.bytes, hml, rfl, rfl, findClass_of_methodNamed B.named, fun w h => hts w (List.mem_cons_of_mem _ h), hK, fun _ h _ => Or.inr h, fun _ => hZ, hst, B.notSynchronized⟩ rfl rfl ⟨rfl, B.returns, fun _ _ _ _ _ w => vx_ret w⟩ ⟨rfl, _, rfl⟩ hnt s.heap [] ls ⟨hP, fun _ => hD.self, va_S.rf, fun h => (by cases h)⟩ e2
def b1 (b : Bool) : Int32 := if b = true then 1 else 0
theorem b1_nar (b : Bool) : narrow .boolean (.int (b1 b)) = .int (b1 b) := by cases b <;> rfl
theorem b1_0 {b : Bool} : b1 b = 0 ↔ b = false := by cases b <;> decide
theorem b1_1 {b : Bool} : ¬ b1 b = 0 ↔ b = true := by cases b <;> decide
section ENDS
variable {k : Kx} {cc : ByteArray} {own : String} {R : Room} {nL : Nat} {ws ws' ws0 : va_W} {c n pc : Nat} {lv lv' : List (Option Value)} {st : List Value} {ret : Option FieldType} {v : Value} {mc ms : Nat} {P : Option Value → va_W → Prop} {PX : String → Prop}
theorem RR.end (hR : RR k ret v) {H : Heap} {locs : List Loc} (hP : Wd k ws H locs) : (∀ t : State, t.heap = H → (ks k).WarmedH t.vm → (Outcome.returned (some v) = .returned (some v) ∧ t.heap = (ks k).heap)) ∧ ∀ q ∈ locs, (fun _ : Addr => False) q.base := by
  obtain ⟨e1, e2⟩ := hP.2.2.2 hR.1
  exact ⟨fun t ht _ => ⟨rfl, ht.trans e1⟩, fun q hq => by rw [e2] at hq; cases hq⟩
theorem j_iretR (F : Fx k cc own R nL) {x : Int32} (hR : RR k (some .int) v) (hd : decode cc pc = .ok (.ireturn, 1)) (hv : v = .int x) : J k ws 0 0 pc lv [.int x] := fun H locs ls hP hL => by
  subst hv
  rw [hR.2.2]
  exact W.iret F.hx F.hb hR.2.1 (hR.end hP).1 (hR.end hP).2 hd F.hlk
theorem j_zretR (F : Fx k cc own R nL) {x : Int32} {b : Bool} (hR : RR k (some .boolean) v) (hd : decode cc pc = .ok (.ireturn, 1)) (hb : x = b1 b) (hv : v = .int (b1 b)) : J k ws 0 0 pc lv [.int x] := fun H locs ls hP hL => by
  subst hb hv
  rw [hR.2.2]
  exact W.zret F.hx F.hb hR.2.1 (b1_nar b) (hR.end hP).1 (hR.end hP).2 hd F.hlk
theorem j_lretR (F : Fx k cc own R nL) {x : Int64} (hR : RR k (some .long) v) (hd : decode cc pc = .ok (.lreturn, 1)) (hv : v = .long x) : J k ws 0 0 pc lv [.long x] := fun H locs ls hP hL => by
  subst hv
  rw [hR.2.2]
  exact W.lret F.hx F.hb hR.2.1 (hR.end hP).1 (hR.end hP).2 hd F.hlk
theorem j_dretR (F : Fx k cc own R nL) {x : UInt64} (hR : RR k (some .double) v) (hd : decode cc pc = .ok (.dreturn, 1)) (hv : v = .double x) : J k ws 0 0 pc lv [.double x] := fun H locs ls hP hL => by
  subst hv
  rw [hR.2.2]
  exact W.dret F.hx F.hb hR.2.1 (hR.end hP).1 (hR.end hP).2 hd F.hlk
theorem j_aretR (F : Fx k cc own R nL) {nm : String} {x : Option Nat} (hR : RR k (some (.object nm)) v) (hd : decode cc pc = .ok (.areturn, 1)) (hv : v = va_rf x) : J k ws 0 0 pc lv [va_rf x] := fun H locs ls hP hL => by
  subst hv
  rw [hR.2.2]
  exact W.aret F.hx F.hb hR.2.1 (Or.inl ⟨_, rfl⟩) (by cases x <;> simp [va_rf]) (hR.end hP).1 (hR.end hP).2 hd F.hlk
theorem RW.end {v : Option Value} (hq : P v ws) {H : Heap} {locs : List Loc} (hR : RW k ret mc ms P) (hP : Wd k ws H locs) : (∀ t : State, t.heap = H → (ks k).WarmedH t.vm → PostK k P (kargs k) (ks k) (.returned v) t) ∧ ∀ q ∈ locs, kA k q.base :=
  ⟨fun t ht _ => ⟨v, ws, rfl, hq, by rw [ht]; exact hP.1, hP.2.1 hR.1, hP.2.2.1.F ht⟩, hP.2.2.1.2.2⟩
theorem j_vret (F : Fx k cc own R nL) (hR : RW k none mc ms P) (hd : decode cc pc = .ok (.return_, 1)) (h1 : c ≤ mc) (h2 : n ≤ ms) (hq : P none ws) : J k ws c n pc lv [] := fun H locs ls hP hL =>
  hR.2.2 _ _ _ _ _ (W.widen h1 h2 (W.vret F.hx F.hb hR.2.1 (RW.end hq hR hP).1 (RW.end hq hR hP).2 hd F.hlk))
theorem j_iret (F : Fx k cc own R nL) {x : Int32} (hR : RW k (some .int) mc ms P) (hd : decode cc pc = .ok (.ireturn, 1)) (h1 : c ≤ mc) (h2 : n ≤ ms) (hq : P (some (.int x)) ws) : J k ws c n pc lv [.int x] := fun H locs ls hP hL =>
  hR.2.2 _ _ _ _ _ (W.widen h1 h2 (W.iret F.hx F.hb hR.2.1 (RW.end hq hR hP).1 (RW.end hq hR hP).2 hd F.hlk))
theorem j_zret (F : Fx k cc own R nL) {x : Int32} {b : Bool} (hR : RW k (some .boolean) mc ms P) (hd : decode cc pc = .ok (.ireturn, 1)) (h1 : c ≤ mc) (h2 : n ≤ ms) (hb : x = b1 b) (hq : P (some (.int (b1 b))) ws) : J k ws c n pc lv [.int x] := fun H locs ls hP hL => by
  subst hb
  exact hR.2.2 _ _ _ _ _ (W.widen h1 h2 (W.zret F.hx F.hb hR.2.1 (b1_nar b) (RW.end hq hR hP).1 (RW.end hq hR hP).2 hd F.hlk))
theorem j_lret (F : Fx k cc own R nL) {x : Int64} (hR : RW k (some .long) mc ms P) (hd : decode cc pc = .ok (.lreturn, 1)) (h1 : c ≤ mc) (h2 : n ≤ ms) (hq : P (some (.long x)) ws) : J k ws c n pc lv [.long x] := fun H locs ls hP hL =>
  hR.2.2 _ _ _ _ _ (W.widen h1 h2 (W.lret F.hx F.hb hR.2.1 (RW.end hq hR hP).1 (RW.end hq hR hP).2 hd F.hlk))
theorem j_dret (F : Fx k cc own R nL) {x : UInt64} (hR : RW k (some .double) mc ms P) (hd : decode cc pc = .ok (.dreturn, 1)) (h1 : c ≤ mc) (h2 : n ≤ ms) (hq : P (some (.double x)) ws) : J k ws c n pc lv [.double x] := fun H locs ls hP hL =>
  hR.2.2 _ _ _ _ _ (W.widen h1 h2 (W.dret F.hx F.hb hR.2.1 (RW.end hq hR hP).1 (RW.end hq hR hP).2 hd F.hlk))
theorem j_aret (F : Fx k cc own R nL) {rt : FieldType} {x : Option Nat} (hR : RW k (some rt) mc ms P) (hrt : (∃ n, rt = .object n) ∨ ∃ t, rt = .array t) (hd : decode cc pc = .ok (.areturn, 1)) (h1 : c ≤ mc) (h2 : n ≤ ms) (hq : P (some (va_rf x)) ws) : J k ws c n pc lv [va_rf x] := fun H locs ls hP hL =>
  hR.2.2 _ _ _ _ _ (W.widen h1 h2 (W.aret F.hx F.hb hR.2.1 hrt (by cases x <;> simp [va_rf]) (RW.end hq hR hP).1 (RW.end hq hR hP).2 hd F.hlk))
end ENDS
end
section
/-! CALL ROWS -/
def LkB (own : String) (idx : Nat) (y : MethodName) (cc : ByteArray) (maxL : Nat) (ret : Option FieldType) (n : Nat) : Prop := Cond.methodLink own idx y ∈ Uw ∧ Cond.initialized y.cls ∈ Uw ∧ Cond.code y cc maxL ret ∈ Uw ∧ (y.cls ≠ "java/lang/invoke/MethodHandle" ∧ y.cls ≠ "java/lang/invoke/VarHandle" ∧ (parseMethodDescriptor y.desc).map (fun d => d.parameters.length) = some n)
def LkV (own : String) (idx : Nat) (C : String) (y : MethodName) (cc : ByteArray) (maxL : Nat) (ret : Option FieldType) (n : Nat) : Prop := LkB own idx y cc maxL ret n ∧ Cond.instanceMethod y ∈ Uw ∧ Cond.selects C y y ∈ Uw
def LkS (own : String) (idx : Nat) (y : MethodName) (cc : ByteArray) (maxL : Nat) (ret : Option FieldType) (n : Nat) : Prop := LkB own idx y cc maxL ret n ∧ Cond.static y ∈ Uw
def LkI (own : String) (idx : Nat) (y : MethodName) (cc : ByteArray) (maxL : Nat) (n : Nat) : Prop := LkB own idx y cc maxL none n ∧ y.name = "<init>" ∧ Cond.instanceMethod y ∈ Uw
section CROWS
variable {k : Kx} {cc : ByteArray} {own : String} {R : Room} {nL : Nat} {ws ws' wc wr : va_W} {c n pc : Nat} {lv lv' : List (Option Value)} {st stk : List Value}
theorem lkB {y : MethodName} {ccy : ByteArray} {maxL : Nat} {ret : Option FieldType} {fr lo mc ms idx m : Nat} (F : Fx k cc own R nL) (h : LkB own idx y ccy maxL ret m) (hR : fr + 1 ≤ R.frames ∧ 8 + (maxL + 11) + lo ≤ R.locals) : CallB (kR k) (ks k) (kargs k) own idx y ccy maxL ret (wU y ccy maxL ret) (rm4 fr mc ms lo) mc ms m :=
  callB_of (Ts := Uw) m (fun _ q => F.hts q) (wU_good h.2.2.1) rfl rfl rfl (F.hts h.2.1) (F.hts h.1) h.2.2.2 (by rw [F.hR]; exact hR)
theorem lkV {C : String} {y : MethodName} {ccy : ByteArray} {maxL : Nat} {ret : Option FieldType} {fr lo mc ms idx m : Nat} (F : Fx k cc own R nL) (h : LkV own idx C y ccy maxL ret m) (hR : fr + 1 ≤ R.frames ∧ 8 + (maxL + 11) + lo ≤ R.locals) : CallW (kR k) (ks k) (kargs k) own C idx y ccy maxL ret (wU y ccy maxL ret) (rm4 fr mc ms lo) mc ms m :=
  ⟨lkB F h.1 hR, F.hts h.2.1, F.hts h.2.2⟩
theorem lkS {y : MethodName} {ccy : ByteArray} {maxL : Nat} {ret : Option FieldType} {fr lo mc ms idx m : Nat} (F : Fx k cc own R nL) (h : LkS own idx y ccy maxL ret m) (hR : fr + 1 ≤ R.frames ∧ 8 + (maxL + 11) + lo ≤ R.locals) : CallB (kR k) (ks k) (kargs k) own idx y ccy maxL ret (wU y ccy maxL ret) (rm4 fr mc ms lo) mc ms m ∧ (Cond.static y).before (kargs k) (ks k) = true :=
  ⟨lkB F h.1 hR, F.hts h.2⟩
theorem lkI {y : MethodName} {ccy : ByteArray} {maxL : Nat} {fr lo mc ms idx m : Nat} (F : Fx k cc own R nL) (h : LkI own idx y ccy maxL m) (hR : fr + 1 ≤ R.frames ∧ 8 + (maxL + 11) + lo ≤ R.locals) : CallB (kR k) (ks k) (kargs k) own idx y ccy maxL none (wU y ccy maxL none) (rm4 fr mc ms lo) mc ms m ∧ y.name = "<init>" ∧ (Cond.instanceMethod y).before (kargs k) (ks k) = true :=
  ⟨lkB F h.1 hR, h.2.1, F.hts h.2.2⟩
theorem Wd.recv (F : Fx k cc own R nL) {H : Heap} {locs : List Loc} (hP : Wd k ws H locs) {C : String} {T : u_T} {N ci b q : Nat} {fs : List Value} (hq : ws[q]? = some (b, .inr (ci, fs))) (hc : vwCl[ci]? = some (C, T, N)) : ∃ cell : Cell, H[b]? = some cell ∧ cell.vm.isStatics = false ∧ (ks k).vm.findClass C = some cell.cls := va_recv F.hK.1 hP.1 hc hq
theorem PreR.at (F : Fx k cc own R nL) {H : Heap} {locs : List Loc} (hP : Wd k ws H locs) (hs : ∀ q ∈ wc, q ∈ ws) {as : List Value} : PreS (ks k) H (va_Pc as (fun U => va_P (kD k) vwCl wc U.heap ∧ KK (kD k) U)) as :=
  ⟨PreR.blind, fun U hU hW => ⟨rfl, by
    rw [hU]
    intro i q hq
    obtain ⟨j, hj⟩ := List.getElem?_of_mem (hs q (List.mem_of_getElem? hq))
    exact hP.1 j q hj, F.hK.warm hW⟩⟩
theorem run_rd {H : Heap} {locs : List Loc} {ls : Array Slot} {v : Value} {a : Array Value} (hr : va_Run (kp k) (kl k) (ke k) (kR k) (ks k) (km k) (kargs k) (kbelow k) (kmeth k) (kc k) H locs c n 0 0 (F0 (km k) pc ls stk) st ((fun (_ : Array Value) (st oc t) => oc = .returned (some v) ∧ t.heap = st.heap) a) (fun _ => False))
    (K : W (kp k) (kl k) (ke k) (kR k) (ks k) (km k) (kargs k) (kbelow k) (kmeth k) (kc k) H locs c n (kQ k) (F0 (km k) (pc + 3) ls (v :: st))) : W (kp k) (kl k) (ke k) (kR k) (ks k) (km k) (kargs k) (kbelow k) (kmeth k) (kc k) H locs c n (kQ k) (F0 (km k) pc ls stk) := by
  intro T hT X
  obtain ⟨w, st₀, t, T', L, h0, X', hL, e1, e2, ⟨hv, hh⟩, hg⟩ := hr T hT X
  cases hv
  have hLe : L = [] := List.eq_nil_iff_forall_not_mem.mpr fun q hq => hL q hq
  subst hLe
  rw [List.append_nil] at X'
  obtain ⟨t2, a1, b1⟩ := K T' (by rw [e1, hh, h0]) X'
  exact ⟨t2, hg t2 a1, b1⟩
theorem j_rdV (F : Fx k cc own R nL) {C : String} {y : MethodName} {ccy : ByteArray} {maxL : Nat} {ret : Option FieldType} {fr lo idx b : Nat} {as : List Value} {v : Value} (hM : CR (kl k) (kD k) y ccy maxL ret fr lo wc (.ref b :: as) v) (hk : LkV own idx C y ccy maxL ret as.length) (hd : decode cc pc = .ok (.invokevirtual idx, 3)) (hR : fr + 1 ≤ R.frames ∧ 8 + (maxL + 11) + lo ≤ R.locals) (hs : ∀ q ∈ wc, q ∈ ws)
    {T : u_T} {N ci : Nat} {fs : List Value} (q : Nat) (hq : ws[q]? = some (b, .inr (ci, fs))) (hc : vwCl[ci]? = some (C, T, N)) (hst : stk = as.reverse ++ .ref b :: st) (hW : (st.map fun v => v.category).sum ≤ 8) (hcn : c ≤ R.cells ∧ n ≤ R.slots) (K : J k ws c n (pc + 3) lv (v :: st)) : J k ws c n pc lv stk := fun H locs ls hP hL =>
  run_rd (a := (Value.ref b :: as).toArray) (va_runV (As := as) (rest := st) F.fix hM (lkV F hk hR) ⟨PreR.blind, hP.recv F hq hc, (PreR.at F hP hs).2⟩ rfl rfl (hL.1.trans F.hn) hst (lv_room hW) hd (by rw [F.hR]; exact hcn)) (K H locs ls hP hL)
theorem j_rdS (F : Fx k cc own R nL) {y : MethodName} {ccy : ByteArray} {maxL : Nat} {ret : Option FieldType} {fr lo idx : Nat} {as : List Value} {v : Value} (hM : CR (kl k) (kD k) y ccy maxL ret fr lo wc as v) (hk : LkS own idx y ccy maxL ret as.length) (hd : decode cc pc = .ok (.invokestatic idx, 3)) (hR : fr + 1 ≤ R.frames ∧ 8 + (maxL + 11) + lo ≤ R.locals) (hs : ∀ q ∈ wc, q ∈ ws)
    (hst : stk = as.reverse ++ st) (hW : (st.map fun v => v.category).sum ≤ 8) (hcn : c ≤ R.cells ∧ n ≤ R.slots) (K : J k ws c n (pc + 3) lv (v :: st)) : J k ws c n pc lv stk := fun H locs ls hP hL =>
  run_rd (a := as.toArray) (va_runS (As := as) (rest := st) F.fix hM (lkS F hk hR) (PreR.at F hP hs) rfl rfl (hL.1.trans F.hn) hst (lv_room hW) hd (by rw [F.hR]; exact hcn)) (K H locs ls hP hL)
theorem j_rdSN (F : Fx k cc own R nL) {y : MethodName} {host : String} {ccy : ByteArray} {maxL : Nat} {ret : Option FieldType} {fr lo idx : Nat} {as : List Value} {v : Value} (hM : CR (kl k) (kD k) y ccy maxL ret fr lo wc as v) (hl : va_Nw (.methodLinkNest own idx y host) (ks k)) (hi : Cond.initialized y.cls ∈ Uw) (hcd : Cond.code y ccy maxL ret ∈ Uw) (hsy : Cond.static y ∈ Uw) (hdd : y.cls ≠ "java/lang/invoke/MethodHandle" ∧ y.cls ≠ "java/lang/invoke/VarHandle" ∧ (parseMethodDescriptor y.desc).map (fun d => d.parameters.length) = some as.length) (hd : decode cc pc = .ok (.invokestatic idx, 3)) (hR : fr + 1 ≤ R.frames ∧ 8 + (maxL + 11) + lo ≤ R.locals) (hs : ∀ q ∈ wc, q ∈ ws)
    (hst : stk = as.reverse ++ st) (hW : (st.map fun v => v.category).sum ≤ 8) (hcn : c ≤ R.cells ∧ n ≤ R.slots) (K : J k ws c n (pc + 3) lv (v :: st)) : J k ws c n pc lv stk := fun H locs ls hP hL =>
  run_rd (a := as.toArray) (va_runSN (As := as) (rest := st) F.fix hM ⟨va_cnB (Ts := Uw) _ (fun _ q => F.hts q) (wU_good hcd) rfl rfl rfl hl (F.hts hi) hdd (by rw [F.hR]; exact hR), F.hts hsy, trivial⟩ (PreR.at F hP hs) rfl rfl (hL.1.trans F.hn) hst (lv_room hW) hd (by rw [F.hR]; exact hcn)) (K H locs ls hP hL)
/-- the frame: behind a call the callee's cells are its new ones, the rest is as it was -/
theorem Wd.call (F : Fx k cc own R nL) {w1 : va_W} {H H1 : Heap} {locs L : List Loc} (hw : kw k = true) (h : Wd k (wc ++ wr) H locs) (hP1 : va_P (kD k) vwCl w1 H1) (hD1 : va_D (va_A wc H.size) w1) (hz : H.size ≤ H1.size) (hkp : ∀ q : Nat, q < H.size → ¬ va_A wc H.size q → H1[q]? = H[q]?) (hL : ∀ z ∈ L, va_A wc H.size z.base) : Wd k (w1 ++ wr) H1 (locs ++ L) := by
  have hD := h.2.1 hw
  have hA : ∀ q, va_A wc H.size q → kA k q := by
    rintro q (⟨i, e, hi⟩ | hq)
    · exact hD.2 i (q, e) (by rw [List.getElem?_append_left (List.getElem?_eq_some_iff.mp hi).1]; exact hi)
    · exact F.hA hw q (Nat.le_trans h.2.2.1.1 hq)
  have hr : ∀ (i : Nat) (q : Nat × va_E), wr[i]? = some q → q.1 < H.size ∧ ¬ va_A wc H.size q.1 := by
    intro i q hq
    have hq' : (wc ++ wr)[wc.length + i]? = some q := by rw [List.getElem?_append_right (by omega), Nat.add_sub_cancel_left]; exact hq
    have hl := (h.1 _ q hq').lt
    refine ⟨hl, ?_⟩
    rintro (⟨j, e, hj⟩ | hq2)
    · have hj1 := (List.getElem?_eq_some_iff.mp hj).1
      have := hD.1 (wc.length + i) j q (q.1, e) hq' (by rw [List.getElem?_append_left hj1]; exact hj) rfl
      omega
    · omega
  refine ⟨hP1.app fun i q hq => ?_, fun _ => va_D.app (hD1.weaken fun _ q _ z => hA q.1 z) ⟨fun i j p q hp hq e => ?_, fun i q hq => ?_⟩ fun i j p q hp hq e => ?_, ⟨Nat.le_trans h.2.2.1.1 hz, fun q h1 h2 => ?_, fun z hzz => ?_⟩, fun e => by rw [hw] at e; cases e⟩
  · have hq' : (wc ++ wr)[wc.length + i]? = some q := by rw [List.getElem?_append_right (by omega), Nat.add_sub_cancel_left]; exact hq
    exact (h.1 _ q hq').kept (hkp q.1 (hr i q hq).1 (hr i q hq).2)
  · have := hD.1 (wc.length + i) (wc.length + j) p q (by rw [List.getElem?_append_right (by omega), Nat.add_sub_cancel_left]; exact hp) (by rw [List.getElem?_append_right (by omega), Nat.add_sub_cancel_left]; exact hq) e
    omega
  · exact hD.2 (wc.length + i) q (by rw [List.getElem?_append_right (by omega), Nat.add_sub_cancel_left]; exact hq)
  · exact (hr j q hq).2 (by rw [← e]; exact hD1.2 i p hp)
  · rw [hkp q (Nat.lt_of_lt_of_le h1 h.2.2.1.1) (fun z => h2 (hA q z))]
    exact h.2.2.1.2.1 q h1 h2
  · rcases List.mem_append.mp hzz with z1 | z1
    · exact h.2.2.1.2.2 z z1
    · exact hA _ (hL z z1)
theorem PreM.at (F : Fx k cc own R nL) {H : Heap} {locs : List Loc} (hw : kw k = true) (h : Wd k (wc ++ wr) H locs) {as : List Value} : PreS (ks k) H (va_Pc as (PreM (kD k) wc H.size)) as := by
  have hD := h.2.1 hw
  refine ⟨PreM.blind, fun U hU hW => ⟨rfl, by rw [hU], by rw [hU]; exact fun i q hq => h.1 i q (by rw [List.getElem?_append_left (List.getElem?_eq_some_iff.mp hq).1]; exact hq), F.hK.warm hW, ⟨fun i j p q hp hq e => hD.1 i j p q (by rw [List.getElem?_append_left (List.getElem?_eq_some_iff.mp hp).1]; exact hp) (by rw [List.getElem?_append_left (List.getElem?_eq_some_iff.mp hq).1]; exact hq) e, fun _ _ _ => trivial⟩, ?_⟩⟩
  rw [hU]
  refine ((F.hZ hw).kept h.2.2.1.2.1 |>.moved hW.alike).narrow ?_
  rintro q (⟨i, e, hi⟩ | hq)
  · exact hD.2 i (q, e) (by rw [List.getElem?_append_left (List.getElem?_eq_some_iff.mp hi).1]; exact hi)
  · exact F.hA hw q (Nat.le_trans h.2.2.1.1 hq)
theorem run_cm (F : Fx k cc own R nL) (hw : kw k = true) {H : Heap} {locs : List Loc} {ls : Array Slot} {a : Array Value} {mc ms : Nat} {P : Option Value → va_W → Prop} (h : Wd k (wc ++ wr) H locs) (hr : va_Run (kp k) (kl k) (ke k) (kR k) (ks k) (km k) (kargs k) (kbelow k) (kmeth k) (kc k) H locs c n mc ms (F0 (km k) pc ls stk) st (PostM (kD k) wc H.size P a) (va_A wc H.size))
    (K : ∀ (v : Option Value) (w1 : va_W) (H1 : Heap) (locs1 : List Loc), P v w1 → Wd k (w1 ++ wr) H1 locs1 → W (kp k) (kl k) (ke k) (kR k) (ks k) (km k) (kargs k) (kbelow k) (kmeth k) (kc k) H1 locs1 (c + mc) (n + ms) (kQ k) (F0 (km k) (pc + 3) ls (vlist v st))) : W (kp k) (kl k) (ke k) (kR k) (ks k) (km k) (kargs k) (kbelow k) (kmeth k) (kc k) H locs c n (kQ k) (F0 (km k) pc ls stk) := by
  intro T hT X
  obtain ⟨w, st₀, t, T', L, h0, X', hL, e1, e2, ⟨v, w1, hv, hp, hP1, hD1, hF⟩, hg⟩ := hr T hT X
  cases hv
  subst h0
  obtain ⟨t2, a1, b1⟩ := K w w1 t.heap (locs ++ L) hp (h.call F hw hP1 hD1 hF.1 hF.2 hL) T' e1 X'
  exact ⟨t2, hg t2 a1, b1⟩
theorem j_cmV (F : Fx k cc own R nL) (hw : kw k = true) {C : String} {y : MethodName} {ccy : ByteArray} {maxL : Nat} {ret : Option FieldType} {fr lo mc ms idx b : Nat} {as : List Value} {P : Option Value → va_W → Prop} (hM : CM (kl k) (kD k) y ccy maxL ret fr lo mc ms wc (.ref b :: as) P) (hk : LkV own idx C y ccy maxL ret as.length) (hd : decode cc pc = .ok (.invokevirtual idx, 3)) (hR : fr + 1 ≤ R.frames ∧ 8 + (maxL + 11) + lo ≤ R.locals)
    {T : u_T} {N ci : Nat} {fs : List Value} (q : Nat) (hq : (wc ++ wr)[q]? = some (b, .inr (ci, fs))) (hc : vwCl[ci]? = some (C, T, N)) (hst : stk = as.reverse ++ .ref b :: st) (hW : (st.map fun v => v.category).sum ≤ 8) (hcn : c + mc ≤ R.cells ∧ n + ms ≤ R.slots) (K : ∀ v w1, P v w1 → J k (w1 ++ wr) (c + mc) (n + ms) (pc + 3) lv (vlist v st)) : J k (wc ++ wr) c n pc lv stk := fun H locs ls hP hL =>
  run_cm F hw hP (a := (Value.ref b :: as).toArray) (va_runV (As := as) (rest := st) F.fix (hM H.size) (lkV F hk hR) ⟨PreM.blind, hP.recv F hq hc, (PreM.at F hw hP).2⟩ rfl rfl (hL.1.trans F.hn) hst (lv_room hW) hd (by rw [F.hR]; exact hcn)) (fun v w1 H1 locs1 hp h1 => K v w1 hp H1 locs1 ls h1 hL)
theorem j_cmS (F : Fx k cc own R nL) (hw : kw k = true) {y : MethodName} {ccy : ByteArray} {maxL : Nat} {ret : Option FieldType} {fr lo mc ms idx : Nat} {as : List Value} {P : Option Value → va_W → Prop} (hM : CM (kl k) (kD k) y ccy maxL ret fr lo mc ms wc as P) (hk : LkS own idx y ccy maxL ret as.length) (hd : decode cc pc = .ok (.invokestatic idx, 3)) (hR : fr + 1 ≤ R.frames ∧ 8 + (maxL + 11) + lo ≤ R.locals)
    (hst : stk = as.reverse ++ st) (hW : (st.map fun v => v.category).sum ≤ 8) (hcn : c + mc ≤ R.cells ∧ n + ms ≤ R.slots) (K : ∀ v w1, P v w1 → J k (w1 ++ wr) (c + mc) (n + ms) (pc + 3) lv (vlist v st)) : J k (wc ++ wr) c n pc lv stk := fun H locs ls hP hL =>
  run_cm F hw hP (a := as.toArray) (va_runS (As := as) (rest := st) F.fix (hM H.size) (lkS F hk hR) (PreM.at F hw hP) rfl rfl (hL.1.trans F.hn) hst (lv_room hW) hd (by rw [F.hR]; exact hcn)) (fun v w1 H1 locs1 hp h1 => K v w1 hp H1 locs1 ls h1 hL)
theorem j_cmI (F : Fx k cc own R nL) (hw : kw k = true) {y : MethodName} {ccy : ByteArray} {maxL : Nat} {fr lo mc ms idx b : Nat} {as : List Value} {P : Option Value → va_W → Prop} (hM : CM (kl k) (kD k) y ccy maxL none fr lo mc ms wc (.ref b :: as) P) (hk : LkI own idx y ccy maxL as.length) (hd : decode cc pc = .ok (.invokespecial idx, 3)) (hR : fr + 1 ≤ R.frames ∧ 8 + (maxL + 11) + lo ≤ R.locals)
    (hst : stk = as.reverse ++ .ref b :: st) (hW : (st.map fun v => v.category).sum ≤ 8) (hcn : c + mc ≤ R.cells ∧ n + ms ≤ R.slots) (K : ∀ v w1, P v w1 → J k (w1 ++ wr) (c + mc) (n + ms) (pc + 3) lv (vlist v st)) : J k (wc ++ wr) c n pc lv stk := fun H locs ls hP hL =>
  run_cm F hw hP (a := (Value.ref b :: as).toArray) (va_runI (As := as) (rest := st) F.fix (hM H.size) (lkI F hk hR) (PreM.at F hw hP) rfl rfl (hL.1.trans F.hn) hst (lv_room hW) hd (by rw [F.hR]; exact hcn)) (fun v w1 H1 locs1 hp h1 => K v w1 hp H1 locs1 ls h1 hL)
/-- Object's constructor -/
theorem j_objInit (F : Fx k cc own R nL) {idx a : Nat} (hl : Cond.methodLink own idx objectInit ∈ Uw) (hi : Cond.instanceMethod objectInit ∈ Uw) (hcd : Cond.code objectInit ⟨#[0xb1]⟩ 1 none ∈ Uw) (hd : decode cc pc = .ok (.invokespecial idx, 3)) (hR : 1 ≤ R.frames ∧ (st.map fun v => v.category).sum + 12 ≤ R.locals) (K : J k ws c n (pc + 3) lv st) : J k ws c n pc lv (.ref a :: st) := fun H locs ls hP hL =>
  W.objInit F.hx F.hb F.hown (F.hts hl) (F.hts hi) (F.hts hcd) rfl (hL.1.trans (F.hn.trans F.hml.symm)) rfl hd (by rw [F.hR]; exact hR.1) (by rw [F.hR]; show 2 * 0 + _ + 12 ≤ _; rw [Nat.mul_zero, Nat.zero_add]; exact hR.2) (K H locs ls hP hL)
theorem j_mmax (F : Fx k cc own R nL) {idx : Nat} {x y : Int32} (hl : Cond.methodLink own idx Lib.Math.max.name ∈ Uw) (hs : Cond.static Lib.Math.max.name ∈ Uw) (hi : Cond.initialized "java/lang/Math" ∈ Uw) (hcd : Cond.code Lib.Math.max.name Lib.Math.max.code 2 (some .int) ∈ Uw) (hd : decode cc pc = .ok (.invokestatic idx, 3)) (hR : 1 ≤ R.frames ∧ (st.map fun v => v.category).sum + 13 ≤ R.locals ∧ c ≤ R.cells ∧ n ≤ R.slots) (K : J k ws c n (pc + 3) lv (.int (if x < y then y else x) :: st)) : J k ws c n pc lv (.int y :: .int x :: st) := fun H locs ls hP hL =>
  va_mmax F.hx F.hb (F.hml.trans (F.hn.symm.trans hL.1.symm)) F.hown (F.hts hl) (F.hts hs) (F.hts hi) (F.hts hcd) (by rw [F.hR]; exact hR.1) (by rw [F.hR]; exact hR.2.1) (by rw [F.hR]; exact hR.2.2.1) (by rw [F.hR]; exact hR.2.2.2) hd (K H locs ls hP hL)
theorem j_mmin (F : Fx k cc own R nL) {idx : Nat} {x y : Int32} (hl : Cond.methodLink own idx Lib.Math.min.name ∈ Uw) (hs : Cond.static Lib.Math.min.name ∈ Uw) (hi : Cond.initialized "java/lang/Math" ∈ Uw) (hcd : Cond.code Lib.Math.min.name Lib.Math.min.code 2 (some .int) ∈ Uw) (hd : decode cc pc = .ok (.invokestatic idx, 3)) (hR : 1 ≤ R.frames ∧ (st.map fun v => v.category).sum + 13 ≤ R.locals ∧ c ≤ R.cells ∧ n ≤ R.slots) (K : J k ws c n (pc + 3) lv (.int (if y < x then y else x) :: st)) : J k ws c n pc lv (.int y :: .int x :: st) := fun H locs ls hP hL =>
  va_mmin F.hx F.hb (F.hml.trans (F.hn.symm.trans hL.1.symm)) F.hown (F.hts hl) (F.hts hs) (F.hts hi) (F.hts hcd) (by rw [F.hR]; exact hR.1) (by rw [F.hR]; exact hR.2.1) (by rw [F.hR]; exact hR.2.2.1) (by rw [F.hR]; exact hR.2.2.2) hd (K H locs ls hP hL)
/-- a new object -/
theorem j_new (F : Fx k cc own R nL) (hw : kw k = true) {C : String} {T : u_T} {N ci idx : Nat} {fs : List Value} (ty : Nat → FieldType) (hin : ∀ w ∈ u_ws C T N, w ∈ Uw) (hty : ∀ k, k < N → parseFieldDescriptor (T k).2.2.1 = some (ty k)) (hl : Cond.classLink own idx C ∈ Uw) (hi : Cond.instantiable C N ∈ Uw) (hini : Cond.initialized C ∈ Uw) (hc : vwCl[ci]? = some (C, T, N)) (hfs : ∀ j, j < N → defaultValue (ty j) = vp_V fs j) (hd : decode cc pc = .ok (.new idx, 3)) (hR : c + 1 ≤ R.cells ∧ n + N ≤ R.slots) (K : ∀ q, J k (ws ++ [(q, .inr (ci, fs))]) (c + 1) (n + N) (pc + 3) lv (.ref q :: st)) : J k ws c n pc lv st := fun H locs ls hP hL =>
  va_new F.hx F.hb (fun w h => F.hts h) hin ty hty F.hown (F.hts hl) (F.hts hi) (F.hts hini) F.hK.1 hP.1 (hP.2.1 hw) hP.2.2.1 (F.hA hw) hc hfs (by rw [F.hR]; exact hR.1) (by rw [F.hR]; exact hR.2) hd (fun q H1 h1 h2 h3 => K q H1 locs ls (hP.put hw h1 h2 h3) hL)
/-- a final field, in the constructor -/
theorem j_putfF (F : Fx k cc own R nL) (hw : kw k = true) (hin0 : (kmeth k).name = "<init>") {ref C : String} {T : u_T} {N ci idx a : Nat} {fs : List Value} {v : Value} {ty : FieldType} (f : Nat) (hin : ∀ w ∈ u_ws C T N, w ∈ Uw) (ty0 : Nat → FieldType) (hty : ∀ k, k < N → parseFieldDescriptor (T k).2.2.1 = some (ty0 k)) (hnm : ∀ a, a < N → ∀ b, b < N → a ≠ b → (T a).2.1 ≠ (T b).2.1) (hc : vwCl[ci]? = some (C, T, N)) (hf : f < N) (hu : Cond.fieldLink own idx ref (T f).2.1 (T f).2.2.1 ∈ Uw) (hs : ∀ x, (ks k).fieldFound? (T f).1 (T f).2.1 (T f).2.2.1 = some x → (ks k).fieldFound? ref (T f).2.1 (T f).2.2.1 = some x)
    (hfin : (T f).2.2.2 = true) (hown : (T f).1 = own) (hdt : parseFieldDescriptor (T f).2.2.1 = some ty) (hd : decode cc pc = .ok (.putfield idx, 3)) (hnr : narrow ty v = v) (hfit : fits ty v = true) (q : Nat) (hq : ws[q]? = some (a, .inr (ci, fs))) (hl : f < fs.length) (ws' : va_W) (he : ws.set q (a, .inr (ci, fs.set f v)) = ws') (K : J k ws' c n (pc + 3) lv st) : J k ws c n pc lv (v :: .ref a :: st) := fun H locs ls hP hL =>
  va_putF F.hx F.hb (fun w h => F.hts h) hin ty0 hty hnm F.hown F.hK.1 hP.1 (hP.2.1 hw) hP.2.2.1 q hq hc f hf (F.hts hu) hs hfin hin0 hown hdt hnr hfit hl hd (fun H1 locs1 h1 h2 h3 => by
    subst he
    exact K H1 locs1 ls (hP.put hw h1 h2 h3) hL)
/-! exceptions -/
theorem hat_of (F : Fx k cc own R nL) {L : List Cond} (h1 : ∀ w ∈ L.filter goodWord, w ∈ lw_tbl) (h2 : ∀ w ∈ L.filter (fun w => !goodWord w), w ∈ (cas.map fun q => Cond.castable q.1 q.2) ++ dcl.map Cond.declares) : ∀ w ∈ L, w.before (kargs k) (ks k) = true := by
  refine vx_hat (fun w hw => F.hts (List.mem_filter.mpr ⟨h1 w hw, (List.mem_filter.mp hw).2⟩)) h2 ?_
  intro w hw
  rcases List.mem_append.mp hw with h | h
  · obtain ⟨q, hq, rfl⟩ := List.mem_map.mp h
    exact va_Nw.use rfl (F.hK.2.2.2.1 q hq)
  · obtain ⟨x, hx, rfl⟩ := List.mem_map.mp h
    exact va_Nw.use rfl (F.hK.2.2.2.2.2.2.2.2.2 x hx)
/-- what 'throw new E(text)' links -/
def LkT (own : String) (ik ic : Nat) (E : String) : Prop := Cond.classLink own ik E ∈ Uw ∧ Cond.initialized E ∈ Uw ∧ Bundle.fit E = true ∧ (∀ w ∈ (vx_atS own ic E ["java/lang/RuntimeException", "java/lang/Exception"]).filter goodWord, w ∈ lw_tbl) ∧ (∀ w ∈ (vx_atS own ic E ["java/lang/RuntimeException", "java/lang/Exception"]).filter (fun w => !goodWord w), w ∈ (cas.map fun q => Cond.castable q.1 q.2) ++ dcl.map Cond.declares) ∧ ∀ w ∈ Cond.classLink own ik E :: Cond.initialized E :: vx_atS own ic E ["java/lang/RuntimeException", "java/lang/Exception"], vx_ot w = true
theorem j_throw (F : Fx k cc RX3 R nL) {mc ms : Nat} {PX : String → Prop} {ik is ic : Nat} {E text : String} (hX : XW k mc ms ws PX) (hNT : NT k) (hk : LkT RX3 ik ic E) (hs : (is, text) ∈ strs) (hE : PX E)
    (d0 : decode cc pc = .ok (.new ik, 3)) (d3 : decode cc (pc + 3) = .ok (.dup, 1)) (d4 : decode cc (pc + 4) = .ok (.ldc is, 2)) (d6 : decode cc (pc + 6) = .ok (.invokespecial ic, 3)) (d9 : decode cc (pc + 9) = .ok (.athrow, 1)) (hR : 5 < R.frames ∧ (st.map fun v => v.category).sum + 82 ≤ R.locals ∧ c + 1 ≤ R.cells ∧ n + 6 ≤ R.slots) (hc : c + 1 ≤ mc) (hn : n + 6 ≤ ms) : J k ws c n pc lv st := fun H locs ls hP hL => by
  obtain ⟨h1, h2, h3, h4, h5, h6⟩ := hk
  obtain ⟨sa, hsa⟩ := F.hK.2.2.2.2.2.2.2.2.1 (is, text) hs
  obtain ⟨hw, Qc, hQ⟩ := hX
  rw [hQ]
  exact vx_throwS F.hx F.hb F.hl F.hown h3 (by decide +kernel) (F.hts h1) (F.hts h2) hsa (hat_of F h4 h5) h6 (F.hZ hw).1 (F.hZ hw).2.1 hP.2.2.1 (hL.1.trans (F.hn.trans F.hml.symm)) d0 d3 d4 d6 d9 (fun x hx => (hNT x hx).elim) (by rw [F.hR]; exact hR.1) (by rw [F.hR]; exact hR.2.1) (by rw [F.hR]; exact hR.2.2.1) (by rw [F.hR]; exact hR.2.2.2) F.hlk
    (fun t ht hz hq => ⟨hE, fun i q hi => (hP.1 i q hi).kept (hq q.1 (hP.1 i q hi).lt), ⟨Nat.le_trans hP.2.2.1.1 hz, fun q h1 h2 => by rw [hq q (Nat.lt_of_lt_of_le h1 hP.2.2.1.1)]; exact hP.2.2.1.2.1 q h1 h2⟩⟩) hP.2.2.1.2.2 hc hn
theorem j_throwW (F : Fx k cc RX3 R nL) {mc ms : Nat} {PX : String → Prop} {ik is ic : Nat} {E text : String} (hX : XW k mc ms ws PX) (hNT : NT k) (hk : LkT RX3 ik ic E) (hs : (is, text) ∈ strs) (hE : PX E)
    (d0 : decode cc pc = .ok (.new ik, 3)) (d3 : decode cc (pc + 3) = .ok (.dup, 1)) (d4 : decode cc (pc + 4) = .ok (.ldc_w is, 3)) (d6 : decode cc (pc + 7) = .ok (.invokespecial ic, 3)) (d9 : decode cc (pc + 10) = .ok (.athrow, 1)) (hR : 5 < R.frames ∧ (st.map fun v => v.category).sum + 82 ≤ R.locals ∧ c + 1 ≤ R.cells ∧ n + 6 ≤ R.slots) (hc : c + 1 ≤ mc) (hn : n + 6 ≤ ms) : J k ws c n pc lv st := fun H locs ls hP hL => by
  obtain ⟨h1, h2, h3, h4, h5, h6⟩ := hk
  obtain ⟨sa, hsa⟩ := F.hK.2.2.2.2.2.2.2.2.1 (is, text) hs
  obtain ⟨hw, Qc, hQ⟩ := hX
  rw [hQ]
  exact vx_throwSW F.hx F.hb F.hl F.hown h3 (by decide +kernel) (F.hts h1) (F.hts h2) hsa (hat_of F h4 h5) h6 (F.hZ hw).1 (F.hZ hw).2.1 hP.2.2.1 (hL.1.trans (F.hn.trans F.hml.symm)) d0 d3 d4 d6 d9 (fun x hx => (hNT x hx).elim) (by rw [F.hR]; exact hR.1) (by rw [F.hR]; exact hR.2.1) (by rw [F.hR]; exact hR.2.2.1) (by rw [F.hR]; exact hR.2.2.2) F.hlk
    (fun t ht hz hq => ⟨hE, fun i q hi => (hP.1 i q hi).kept (hq q.1 (hP.1 i q hi).lt), ⟨Nat.le_trans hP.2.2.1.1 hz, fun q h1 h2 => by rw [hq q (Nat.lt_of_lt_of_le h1 hP.2.2.1.1)]; exact hP.2.2.1.2.1 q h1 h2⟩⟩) hP.2.2.1.2.2 hc hn
/-- an exception E is under way at pc -/
def JX (k : Kx) (ws : va_W) (c n pc : Nat) (lv : List (Option Value)) (st : List Value) (E : String) : Prop :=
  ∀ (H : Heap) (locs : List Loc) (ls : Array Slot) (q : Nat) (ce : Cell), Wd k ws H locs → lvh ls (kn k) lv → H[q]? = some ce → ce.vm = .none → (ks k).vm.findClass E = some ce.cls → vx_W (kp k) (kl k) (ke k) (kR k) (ks k) (km k) (kargs k) (kbelow k) (kmeth k) (kc k) H locs c n (kQ k) (F0 (km k) pc ls st) q
theorem run_cx (F : Fx k cc own R nL) (hw : kw k = true) {H : Heap} {locs : List Loc} {ls : Array Slot} {a : Array Value} {mc ms : Nat} {P : Option Value → va_W → Prop} {PX : String → Prop} (h : Wd k (wc ++ wr) H locs) (hL : lvh ls (kn k) lv) (hr : vx_Run (kp k) (kl k) (ke k) (kR k) (ks k) (km k) (kargs k) (kbelow k) (kmeth k) (kc k) H locs c n mc ms (F0 (km k) pc ls stk) st (PostM (kD k) wc H.size P a) (PostX (kD k) wc H.size PX) (va_A wc H.size))
    (K : ∀ (v : Option Value) (w1 : va_W), P v w1 → J k (w1 ++ wr) (c + mc) (n + ms) (pc + 3) lv (vlist v st)) (KX : ∀ E, PX E → JX k (wc ++ wr) (c + mc) (n + ms) pc lv st E) : W (kp k) (kl k) (ke k) (kR k) (ks k) (km k) (kargs k) (kbelow k) (kmeth k) (kc k) H locs c n (kQ k) (F0 (km k) pc ls stk) := by
  intro T hT X
  rcases hr T hT X with ⟨w, st₀, t, T', L, h0, X', hLL, e1, e2, ⟨v, w1, hv, hp, hP1, hD1, hF⟩, hg⟩ | ⟨q, st₀, t, T', L, E, ce, h0, X', hLL, e1, e2, ⟨hE, hP1, hF⟩, hce, hcv, hcl, hg⟩
  · cases hv
    subst h0
    obtain ⟨t2, a1, b1⟩ := K w w1 hp t.heap (locs ++ L) ls (h.call F hw hP1 hD1 hF.1 hF.2 hLL) hL T' e1 X'
    exact ⟨t2, hg t2 a1, b1⟩
  · subst h0
    have hDc : va_D (va_A wc st₀.heap.size) wc := by
      have hD := h.2.1 hw
      exact ⟨fun i j p q hp hq e => hD.1 i j p q (by rw [List.getElem?_append_left (List.getElem?_eq_some_iff.mp hp).1]; exact hp) (by rw [List.getElem?_append_left (List.getElem?_eq_some_iff.mp hq).1]; exact hq) e, fun i q hi => Or.inl ⟨i, q.2, hi⟩⟩
    obtain ⟨t2, a1, b1⟩ := KX E hE t.heap (locs ++ L) ls q ce (h.call F hw hP1 hDc hF.1 hF.2 hLL) hL hce hcv hcl T' e1 X'
    exact ⟨t2, hg.trans a1, b1⟩
theorem j_cxV (F : Fx k cc own R nL) (hw : kw k = true) {C : String} {y : MethodName} {ccy : ByteArray} {maxL : Nat} {ret : Option FieldType} {fr lo mc ms idx b : Nat} {as : List Value} {P : Option Value → va_W → Prop} {PX : String → Prop} (hM : CX (kl k) (kD k) y ccy maxL ret fr lo mc ms wc (.ref b :: as) P PX) (hk : LkV own idx C y ccy maxL ret as.length) (hd : decode cc pc = .ok (.invokevirtual idx, 3)) (hR : fr + 1 ≤ R.frames ∧ 8 + (maxL + 11) + lo ≤ R.locals)
    {T : u_T} {N ci : Nat} {fs : List Value} (q : Nat) (hq : (wc ++ wr)[q]? = some (b, .inr (ci, fs))) (hc : vwCl[ci]? = some (C, T, N)) (hst : stk = as.reverse ++ .ref b :: st) (hW : (st.map fun v => v.category).sum ≤ 8) (hcn : c + mc ≤ R.cells ∧ n + ms ≤ R.slots) (K : ∀ v w1, P v w1 → J k (w1 ++ wr) (c + mc) (n + ms) (pc + 3) lv (vlist v st)) (KX : ∀ E, PX E → JX k (wc ++ wr) (c + mc) (n + ms) pc lv st E) : J k (wc ++ wr) c n pc lv stk := fun H locs ls hP hL =>
  run_cx F hw hP hL (a := (Value.ref b :: as).toArray) (vx_runV (As := as) (rest := st) F.fix (hM H.size) (lkV F hk hR) ⟨PreM.blind, hP.recv F hq hc, (PreM.at F hw hP).2⟩ rfl rfl (hL.1.trans F.hn) hst (lv_room hW) hd (by rw [F.hR]; exact hcn)) K KX
/-- not caught: on to the caller -/
theorem jx_out {mc ms : Nat} {PX : String → Prop} {E : String} (F : Fx k cc own R nL) (hX : XW k mc ms ws PX) (hNT : NT k) (hE : PX E) (hc : c ≤ mc) (hn : n ≤ ms) : JX k ws c n pc lv st E := fun H locs ls q ce hP hL h1 h2 h3 => by
  obtain ⟨hw, Qc, hQ⟩ := hX
  rw [hQ]
  exact vx_out (fun x hx => (hNT x hx).elim) F.hlk h1 h2 h3 (fun t ht _ => ⟨hE, by rw [ht]; exact hP.1, hP.2.2.1.F ht⟩) hP.2.2.1.2.2 hc hn
end CROWS
end
section
/-! LINKS, by program: fields, methods, constants, classes to be made, exceptions; named by the class and its pool number -/
theorem inX0 : ∀ w ∈ u_ws RX0 TX0 8, w ∈ lw_tbl := by decide +kernel
theorem inX1 : ∀ w ∈ u_ws RX1 TX1 2, w ∈ lw_tbl := by decide +kernel
theorem inX2 : ∀ w ∈ u_ws RX2 TX2 15, w ∈ lw_tbl := by decide +kernel
theorem inX3 : ∀ w ∈ u_ws RX3 TX3 6, w ∈ lw_tbl := by decide +kernel
theorem inX4 : ∀ w ∈ u_ws RX4 TX4 26, w ∈ lw_tbl := by decide +kernel
theorem inJx4a65c : ∀ w ∈ u_ws RJx4a65c TJx4a65c 3, w ∈ lw_tbl := by decide +kernel
theorem inU_X0 : ∀ w ∈ u_ws RX0 TX0 8, w ∈ Uw := fun w h => List.mem_filter.mpr ⟨inX0 w h, (List.all_eq_true.mp (show (u_ws RX0 TX0 8).all goodWord = true by decide +kernel)) w h⟩
theorem inU_X1 : ∀ w ∈ u_ws RX1 TX1 2, w ∈ Uw := fun w h => List.mem_filter.mpr ⟨inX1 w h, (List.all_eq_true.mp (show (u_ws RX1 TX1 2).all goodWord = true by decide +kernel)) w h⟩
theorem inU_X2 : ∀ w ∈ u_ws RX2 TX2 15, w ∈ Uw := fun w h => List.mem_filter.mpr ⟨inX2 w h, (List.all_eq_true.mp (show (u_ws RX2 TX2 15).all goodWord = true by decide +kernel)) w h⟩
theorem inU_X3 : ∀ w ∈ u_ws RX3 TX3 6, w ∈ Uw := fun w h => List.mem_filter.mpr ⟨inX3 w h, (List.all_eq_true.mp (show (u_ws RX3 TX3 6).all goodWord = true by decide +kernel)) w h⟩
theorem inU_X4 : ∀ w ∈ u_ws RX4 TX4 26, w ∈ Uw := fun w h => List.mem_filter.mpr ⟨inX4 w h, (List.all_eq_true.mp (show (u_ws RX4 TX4 26).all goodWord = true by decide +kernel)) w h⟩
theorem inU_Jx4a65c : ∀ w ∈ u_ws RJx4a65c TJx4a65c 3, w ∈ Uw := fun w h => List.mem_filter.mpr ⟨inJx4a65c w h, (List.all_eq_true.mp (show (u_ws RJx4a65c TJx4a65c 3).all goodWord = true by decide +kernel)) w h⟩
theorem um_J15_105 : Cond.methodLink RJ15 105 yJ3_checkIndex_8e157 ∈ Uw := Uw_of (i := 152) (by decide +kernel) (by decide +kernel)
theorem ul_J7_2 : Cond.classLink RJ7 2 "java/lang/Object" ∈ Uw := Uw_of (i := 460) (by decide +kernel) (by decide +kernel)
theorem um_J7_86 : Cond.methodLink RJ7 86 (⟨"java/lang/Object", "getClass", "()Ljava/lang/Class;"⟩ : MethodName) ∈ Uw := Uw_of (i := 442) (by decide +kernel) (by decide +kernel)
theorem ul_J7_110 : Cond.classLink RJ7 110 "[Ljava/lang/Object;" ∈ Uw := Uw_of (i := 458) (by decide +kernel) (by decide +kernel)
theorem um_J7_150 : Cond.methodLink RJ7 150 arraycopyName ∈ Uw := Uw_of (i := 462) (by decide +kernel) (by decide +kernel)
theorem um_J7_300 : Cond.methodLink RJ7 300 yJ7_copyOf_6403c ∈ Uw := Uw_of (i := 455) (by decide +kernel) (by decide +kernel)
theorem um_J7_304 : Cond.methodLink RJ7 304 Lib.Math.min.name ∈ Uw := Uw_of (i := 461) (by decide +kernel) (by decide +kernel)
theorem um_J8_194 : Cond.methodLink RJ8 194 Lib.Math.max.name ∈ Uw := Uw_of (i := 434) (by decide +kernel) (by decide +kernel)
theorem uc_J8_200 : Cond.constant RJ8 200 (2147483639) ∈ Uw := Uw_of (i := 435) (by decide +kernel) (by decide +kernel)
theorem um_J8_201 : Cond.methodLink RJ8 201 yJ8_hugeLength_7cf53 ∈ Uw := Uw_of (i := 436) (by decide +kernel) (by decide +kernel)
theorem um_Jx4a65c_1 : Cond.methodLink RJx4a65c 1 yJxc12de_init_da8c8 ∈ Uw := Uw_of (i := 88) (by decide +kernel) (by decide +kernel)
theorem ul_Jx4a65c_7 : Cond.classLink RJx4a65c 7 "java/lang/Object" ∈ Uw := Uw_of (i := 466) (by decide +kernel) (by decide +kernel)
theorem usame_modCount : Cond.sameField "java/util/ArrayList" "java/util/AbstractList" "modCount" "I" ∈ Uw := Uw_of (i := 101) (by decide +kernel) (by decide +kernel)
theorem uf_Jx4a65c_9 : Cond.fieldLink RJx4a65c 9 "java/util/ArrayList" "elementData" "[Ljava/lang/Object;" ∈ Uw := Uw_of (i := 97) (by decide +kernel) (by decide +kernel)
theorem gf_Jx4a65c_9 {k : Kx} {cc : ByteArray} {R : Room} {nL : Nat} {ws : va_W} {c n pc : Nat} {lv : List (Option Value)} {st : List Value} {a : Nat} {fs : List Value} {v : Value} (F : Fx k cc RJx4a65c R nL) (hd : decode cc pc = .ok (.getfield 9, 3)) (q : Nat) (hq : ws[q]? = some (a, .inr (0, fs))) (hv : fs[1]? = some v) (K : J k ws c n (pc + 3) lv (v :: st)) : J k ws c n pc lv (.ref a :: st) := j_getf F (C := RJx4a65c) (T := TJx4a65c) (N := 3) 1 inU_Jx4a65c rfl (by decide) uf_Jx4a65c_9 (fun _ h => h) hd q hq hv K
theorem pf_Jx4a65c_9 {k : Kx} {cc : ByteArray} {R : Room} {nL : Nat} {ws : va_W} {c n pc : Nat} {lv : List (Option Value)} {st : List Value} {a : Nat} {fs : List Value} {v : Value} (F : Fx k cc RJx4a65c R nL) (hw : kw k = true) (hd : decode cc pc = .ok (.putfield 9, 3)) (hn : narrow (.array (.object "java/lang/Object")) v = v) (hf : fits (.array (.object "java/lang/Object")) v = true) (q : Nat) (hq : ws[q]? = some (a, .inr (0, fs))) (hl : 1 < fs.length) (ws' : va_W) (he : ws.set q (a, .inr (0, fs.set 1 v)) = ws') (K : J k ws' c n (pc + 3) lv st) : J k ws c n pc lv (v :: .ref a :: st) := j_putf F hw (C := RJx4a65c) (T := TJx4a65c) (N := 3) 1 inU_Jx4a65c tyJx4a65c tyJx4a65c_ok nmJx4a65c rfl (by decide) uf_Jx4a65c_9 (fun _ h => h) rfl (by decide +kernel) hd hn hf q hq hl ws' he K
theorem uf_Jx4a65c_48 : Cond.fieldLink RJx4a65c 48 "java/util/ArrayList" "size" "I" ∈ Uw := Uw_of (i := 98) (by decide +kernel) (by decide +kernel)
theorem gf_Jx4a65c_48 {k : Kx} {cc : ByteArray} {R : Room} {nL : Nat} {ws : va_W} {c n pc : Nat} {lv : List (Option Value)} {st : List Value} {a : Nat} {fs : List Value} {v : Value} (F : Fx k cc RJx4a65c R nL) (hd : decode cc pc = .ok (.getfield 48, 3)) (q : Nat) (hq : ws[q]? = some (a, .inr (0, fs))) (hv : fs[2]? = some v) (K : J k ws c n (pc + 3) lv (v :: st)) : J k ws c n pc lv (.ref a :: st) := j_getf F (C := RJx4a65c) (T := TJx4a65c) (N := 3) 2 inU_Jx4a65c rfl (by decide) uf_Jx4a65c_48 (fun _ h => h) hd q hq hv K
theorem pf_Jx4a65c_48 {k : Kx} {cc : ByteArray} {R : Room} {nL : Nat} {ws : va_W} {c n pc : Nat} {lv : List (Option Value)} {st : List Value} {a : Nat} {fs : List Value} {v : Value} (F : Fx k cc RJx4a65c R nL) (hw : kw k = true) (hd : decode cc pc = .ok (.putfield 48, 3)) (hn : narrow (.int) v = v) (hf : fits (.int) v = true) (q : Nat) (hq : ws[q]? = some (a, .inr (0, fs))) (hl : 2 < fs.length) (ws' : va_W) (he : ws.set q (a, .inr (0, fs.set 2 v)) = ws') (K : J k ws' c n (pc + 3) lv st) : J k ws c n pc lv (v :: .ref a :: st) := j_putf F hw (C := RJx4a65c) (T := TJx4a65c) (N := 3) 2 inU_Jx4a65c tyJx4a65c tyJx4a65c_ok nmJx4a65c rfl (by decide) uf_Jx4a65c_48 (fun _ h => h) rfl (by decide +kernel) hd hn hf q hq hl ws' he K
theorem uf_Jx4a65c_63 : Cond.fieldLink RJx4a65c 63 "java/util/ArrayList" "modCount" "I" ∈ Uw := Uw_of (i := 100) (by decide +kernel) (by decide +kernel)
theorem gf_Jx4a65c_63 {k : Kx} {cc : ByteArray} {R : Room} {nL : Nat} {ws : va_W} {c n pc : Nat} {lv : List (Option Value)} {st : List Value} {a : Nat} {fs : List Value} {v : Value} (F : Fx k cc RJx4a65c R nL) (hd : decode cc pc = .ok (.getfield 63, 3)) (q : Nat) (hq : ws[q]? = some (a, .inr (0, fs))) (hv : fs[0]? = some v) (K : J k ws c n (pc + 3) lv (v :: st)) : J k ws c n pc lv (.ref a :: st) := j_getf F (C := RJx4a65c) (T := TJx4a65c) (N := 3) 0 inU_Jx4a65c rfl (by decide) uf_Jx4a65c_63 (fun x9 h9 => u_same (F.hts usame_modCount) x9 h9) hd q hq hv K
theorem pf_Jx4a65c_63 {k : Kx} {cc : ByteArray} {R : Room} {nL : Nat} {ws : va_W} {c n pc : Nat} {lv : List (Option Value)} {st : List Value} {a : Nat} {fs : List Value} {v : Value} (F : Fx k cc RJx4a65c R nL) (hw : kw k = true) (hd : decode cc pc = .ok (.putfield 63, 3)) (hn : narrow (.int) v = v) (hf : fits (.int) v = true) (q : Nat) (hq : ws[q]? = some (a, .inr (0, fs))) (hl : 0 < fs.length) (ws' : va_W) (he : ws.set q (a, .inr (0, fs.set 0 v)) = ws') (K : J k ws' c n (pc + 3) lv st) : J k ws c n pc lv (v :: .ref a :: st) := j_putf F hw (C := RJx4a65c) (T := TJx4a65c) (N := 3) 0 inU_Jx4a65c tyJx4a65c tyJx4a65c_ok nmJx4a65c rfl (by decide) uf_Jx4a65c_63 (fun x9 h9 => u_same (F.hts usame_modCount) x9 h9) rfl (by decide +kernel) hd hn hf q hq hl ws' he K
theorem um_Jx4a65c_66 : Cond.methodLink RJx4a65c 66 yJ7_copyOf_1904c ∈ Uw := Uw_of (i := 439) (by decide +kernel) (by decide +kernel)
theorem um_Jx4a65c_69 : Cond.methodLink RJx4a65c 69 yJx4a65c_grow_92f84 ∈ Uw := Uw_of (i := 427) (by decide +kernel) (by decide +kernel)
theorem um_Jx4a65c_73 : Cond.methodLink RJx4a65c 73 yJ8_newLength_cabcc ∈ Uw := Uw_of (i := 431) (by decide +kernel) (by decide +kernel)
theorem um_Jx4a65c_79 : Cond.methodLink RJx4a65c 79 Lib.Math.max.name ∈ Uw := Uw_of (i := 465) (by decide +kernel) (by decide +kernel)
theorem um_Jx4a65c_118 : Cond.methodLink RJx4a65c 118 yJ15_checkIndex_7cf53 ∈ Uw := Uw_of (i := 149) (by decide +kernel) (by decide +kernel)
theorem um_Jx4a65c_123 : Cond.methodLink RJx4a65c 123 yJx4a65c_elementData_915e3 ∈ Uw := Uw_of (i := 155) (by decide +kernel) (by decide +kernel)
theorem um_Jx4a65c_129 : Cond.methodLink RJx4a65c 129 yJx4a65c_grow_d5877 ∈ Uw := Uw_of (i := 423) (by decide +kernel) (by decide +kernel)
theorem um_Jx4a65c_131 : Cond.methodLink RJx4a65c 131 yJx4a65c_add_72be8 ∈ Uw := Uw_of (i := 419) (by decide +kernel) (by decide +kernel)
theorem um_Jxa1e45_1 : Cond.methodLink RJxa1e45 1 objectInit ∈ Uw := Uw_of (i := 94) (by decide +kernel) (by decide +kernel)
theorem um_Jxc12de_1 : Cond.methodLink RJxc12de 1 yJxa1e45_init_da8c8 ∈ Uw := Uw_of (i := 91) (by decide +kernel) (by decide +kernel)
theorem uf_Jxc12de_7 : Cond.fieldLink RJxc12de 7 "java/util/AbstractList" "modCount" "I" ∈ Uw := Uw_of (i := 99) (by decide +kernel) (by decide +kernel)
theorem pf_Jxc12de_7 {k : Kx} {cc : ByteArray} {R : Room} {nL : Nat} {ws : va_W} {c n pc : Nat} {lv : List (Option Value)} {st : List Value} {a : Nat} {fs : List Value} {v : Value} (F : Fx k cc RJxc12de R nL) (hw : kw k = true) (hd : decode cc pc = .ok (.putfield 7, 3)) (hn : narrow (.int) v = v) (hf : fits (.int) v = true) (q : Nat) (hq : ws[q]? = some (a, .inr (0, fs))) (hl : 0 < fs.length) (ws' : va_W) (he : ws.set q (a, .inr (0, fs.set 0 v)) = ws') (K : J k ws' c n (pc + 3) lv st) : J k ws c n pc lv (v :: .ref a :: st) := j_putf F hw (C := RJx4a65c) (T := TJx4a65c) (N := 3) 0 inU_Jx4a65c tyJx4a65c tyJx4a65c_ok nmJx4a65c rfl (by decide) uf_Jxc12de_7 (fun _ h => h) rfl (by decide +kernel) hd hn hf q hq hl ws' he K
theorem um_L_7 : Cond.methodLink RL 7 yX3_setHours ∈ Uw := Uw_of (i := 228) (by decide +kernel) (by decide +kernel)
theorem ul_L_8 : Cond.classLink RL 8 RX3 ∈ Uw := Uw_of (i := 60) (by decide +kernel) (by decide +kernel)
theorem um_L_15 : Cond.methodLink RL 15 yX3_setTargets ∈ Uw := Uw_of (i := 307) (by decide +kernel) (by decide +kernel)
theorem um_L_21 : Cond.methodLink RL 21 yX3_service ∈ Uw := Uw_of (i := 334) (by decide +kernel) (by decide +kernel)
theorem um_L_25 : Cond.methodLink RL 25 yX3_addAgent ∈ Uw := Uw_of (i := 359) (by decide +kernel) (by decide +kernel)
theorem um_L_31 : Cond.methodLink RL 31 yX3_setSkills ∈ Uw := Uw_of (i := 470) (by decide +kernel) (by decide +kernel)
theorem um_L_34 : Cond.methodLink RL 34 yX3_agent ∈ Uw := Uw_of (i := 493) (by decide +kernel) (by decide +kernel)
theorem um_L_37 : Cond.methodLink RL 37 yX3_next ∈ Uw := Uw_of (i := 501) (by decide +kernel) (by decide +kernel)
theorem um_L_41 : Cond.methodLink RL 41 yX3_open ∈ Uw := Uw_of (i := 516) (by decide +kernel) (by decide +kernel)
theorem um_L_44 : Cond.methodLink RL 44 yX3_setPriority ∈ Uw := Uw_of (i := 583) (by decide +kernel) (by decide +kernel)
theorem um_L_47 : Cond.methodLink RL 47 yX3_pause ∈ Uw := Uw_of (i := 596) (by decide +kernel) (by decide +kernel)
theorem um_L_50 : Cond.methodLink RL 50 yX3_resume ∈ Uw := Uw_of (i := 604) (by decide +kernel) (by decide +kernel)
theorem um_L_53 : Cond.methodLink RL 53 yX3_merge ∈ Uw := Uw_of (i := 612) (by decide +kernel) (by decide +kernel)
theorem um_L_56 : Cond.methodLink RL 56 yX3_reopen ∈ Uw := Uw_of (i := 623) (by decide +kernel) (by decide +kernel)
theorem um_L_59 : Cond.methodLink RL 59 yX3_ticket ∈ Uw := Uw_of (i := 632) (by decide +kernel) (by decide +kernel)
theorem um_L_62 : Cond.methodLink RL 62 yX3_main ∈ Uw := Uw_of (i := 640) (by decide +kernel) (by decide +kernel)
theorem um_L_65 : Cond.methodLink RL 65 yX3_customers ∈ Uw := Uw_of (i := 647) (by decide +kernel) (by decide +kernel)
theorem um_L_68 : Cond.methodLink RL 68 yX3_due ∈ Uw := Uw_of (i := 654) (by decide +kernel) (by decide +kernel)
theorem um_L_71 : Cond.methodLink RL 71 yX3_pass ∈ Uw := Uw_of (i := 667) (by decide +kernel) (by decide +kernel)
theorem um_L_74 : Cond.methodLink RL 74 yX3_all ∈ Uw := Uw_of (i := 707) (by decide +kernel) (by decide +kernel)
theorem um_L_77 : Cond.methodLink RL 77 yX3_init ∈ Uw := Uw_of (i := 62) (by decide +kernel) (by decide +kernel)
theorem ul_L_78 : Cond.classLink RL 78 RX4 ∈ Uw := Uw_of (i := 712) (by decide +kernel) (by decide +kernel)
theorem um_L_80 : Cond.methodLink RL 80 yX4_init ∈ Uw := Uw_of (i := 714) (by decide +kernel) (by decide +kernel)
theorem um_L_81 : Cond.methodLink RL 81 yL_setHours ∈ Uw := Uw_of (i := 224) (by decide +kernel) (by decide +kernel)
theorem um_L_86 : Cond.methodLink RL 86 yX4_setHours ∈ Uw := Uw_of (i := 801) (by decide +kernel) (by decide +kernel)
theorem um_L_87 : Cond.methodLink RL 87 yX4_thrown ∈ Uw := Uw_of (i := 797) (by decide +kernel) (by decide +kernel)
theorem um_L_91 : Cond.methodLink RL 91 yL_setTargets ∈ Uw := Uw_of (i := 303) (by decide +kernel) (by decide +kernel)
theorem um_L_94 : Cond.methodLink RL 94 yX4_setTargets ∈ Uw := Uw_of (i := 808) (by decide +kernel) (by decide +kernel)
theorem um_L_95 : Cond.methodLink RL 95 yX3_now ∈ Uw := Uw_of (i := 129) (by decide +kernel) (by decide +kernel)
theorem um_L_98 : Cond.methodLink RL 98 yX4_now ∈ Uw := Uw_of (i := 816) (by decide +kernel) (by decide +kernel)
theorem um_L_99 : Cond.methodLink RL 99 yL_service ∈ Uw := Uw_of (i := 331) (by decide +kernel) (by decide +kernel)
theorem um_L_101 : Cond.methodLink RL 101 yX4_service ∈ Uw := Uw_of (i := 820) (by decide +kernel) (by decide +kernel)
theorem um_L_102 : Cond.methodLink RL 102 yL_addAgent ∈ Uw := Uw_of (i := 355) (by decide +kernel) (by decide +kernel)
theorem um_L_105 : Cond.methodLink RL 105 yX4_addAgent ∈ Uw := Uw_of (i := 831) (by decide +kernel) (by decide +kernel)
theorem um_L_106 : Cond.methodLink RL 106 yL_setSkills ∈ Uw := Uw_of (i := 467) (by decide +kernel) (by decide +kernel)
theorem um_L_108 : Cond.methodLink RL 108 yX4_setSkills ∈ Uw := Uw_of (i := 835) (by decide +kernel) (by decide +kernel)
theorem um_L_109 : Cond.methodLink RL 109 yL_agent ∈ Uw := Uw_of (i := 490) (by decide +kernel) (by decide +kernel)
theorem um_L_111 : Cond.methodLink RL 111 yX4_agent ∈ Uw := Uw_of (i := 850) (by decide +kernel) (by decide +kernel)
theorem um_L_112 : Cond.methodLink RL 112 yL_next ∈ Uw := Uw_of (i := 498) (by decide +kernel) (by decide +kernel)
theorem um_L_115 : Cond.methodLink RL 115 yX4_next ∈ Uw := Uw_of (i := 862) (by decide +kernel) (by decide +kernel)
theorem um_L_116 : Cond.methodLink RL 116 yL_open ∈ Uw := Uw_of (i := 513) (by decide +kernel) (by decide +kernel)
theorem um_L_118 : Cond.methodLink RL 118 yX4_open ∈ Uw := Uw_of (i := 878) (by decide +kernel) (by decide +kernel)
theorem um_L_119 : Cond.methodLink RL 119 yL_setPriority ∈ Uw := Uw_of (i := 580) (by decide +kernel) (by decide +kernel)
theorem um_L_121 : Cond.methodLink RL 121 yX4_setPriority ∈ Uw := Uw_of (i := 882) (by decide +kernel) (by decide +kernel)
theorem um_L_122 : Cond.methodLink RL 122 yL_pause ∈ Uw := Uw_of (i := 593) (by decide +kernel) (by decide +kernel)
theorem um_L_124 : Cond.methodLink RL 124 yX4_pause ∈ Uw := Uw_of (i := 890) (by decide +kernel) (by decide +kernel)
theorem um_L_125 : Cond.methodLink RL 125 yL_resume ∈ Uw := Uw_of (i := 601) (by decide +kernel) (by decide +kernel)
theorem um_L_127 : Cond.methodLink RL 127 yX4_resume ∈ Uw := Uw_of (i := 894) (by decide +kernel) (by decide +kernel)
theorem um_L_128 : Cond.methodLink RL 128 yL_merge ∈ Uw := Uw_of (i := 609) (by decide +kernel) (by decide +kernel)
theorem um_L_130 : Cond.methodLink RL 130 yX4_merge ∈ Uw := Uw_of (i := 898) (by decide +kernel) (by decide +kernel)
theorem um_L_131 : Cond.methodLink RL 131 yL_reopen ∈ Uw := Uw_of (i := 620) (by decide +kernel) (by decide +kernel)
theorem um_L_133 : Cond.methodLink RL 133 yX4_reopen ∈ Uw := Uw_of (i := 914) (by decide +kernel) (by decide +kernel)
theorem um_L_134 : Cond.methodLink RL 134 yX3_ticketCount ∈ Uw := Uw_of (i := 133) (by decide +kernel) (by decide +kernel)
theorem um_L_137 : Cond.methodLink RL 137 yX4_ticketCount ∈ Uw := Uw_of (i := 918) (by decide +kernel) (by decide +kernel)
theorem um_L_138 : Cond.methodLink RL 138 yL_ticket ∈ Uw := Uw_of (i := 629) (by decide +kernel) (by decide +kernel)
theorem um_L_140 : Cond.methodLink RL 140 yX4_ticket ∈ Uw := Uw_of (i := 922) (by decide +kernel) (by decide +kernel)
theorem um_L_141 : Cond.methodLink RL 141 yL_main ∈ Uw := Uw_of (i := 637) (by decide +kernel) (by decide +kernel)
theorem um_L_143 : Cond.methodLink RL 143 yX4_main ∈ Uw := Uw_of (i := 934) (by decide +kernel) (by decide +kernel)
theorem um_L_144 : Cond.methodLink RL 144 yL_customers ∈ Uw := Uw_of (i := 644) (by decide +kernel) (by decide +kernel)
theorem um_L_146 : Cond.methodLink RL 146 yX4_customers ∈ Uw := Uw_of (i := 942) (by decide +kernel) (by decide +kernel)
theorem um_L_147 : Cond.methodLink RL 147 yL_due ∈ Uw := Uw_of (i := 651) (by decide +kernel) (by decide +kernel)
theorem um_L_149 : Cond.methodLink RL 149 yX4_due ∈ Uw := Uw_of (i := 946) (by decide +kernel) (by decide +kernel)
theorem um_L_150 : Cond.methodLink RL 150 yL_pass ∈ Uw := Uw_of (i := 664) (by decide +kernel) (by decide +kernel)
theorem um_L_152 : Cond.methodLink RL 152 yX4_pass ∈ Uw := Uw_of (i := 954) (by decide +kernel) (by decide +kernel)
theorem um_L_153 : Cond.methodLink RL 153 yL_all ∈ Uw := Uw_of (i := 704) (by decide +kernel) (by decide +kernel)
theorem um_L_155 : Cond.methodLink RL 155 yX4_all ∈ Uw := Uw_of (i := 962) (by decide +kernel) (by decide +kernel)
theorem um_L_156 : Cond.methodLink RL 156 yX3_broken ∈ Uw := Uw_of (i := 141) (by decide +kernel) (by decide +kernel)
theorem um_L_160 : Cond.methodLink RL 160 yX4_broken ∈ Uw := Uw_of (i := 966) (by decide +kernel) (by decide +kernel)
theorem um_L_161 : Cond.methodLink RL 161 yX3_lacking ∈ Uw := Uw_of (i := 172) (by decide +kernel) (by decide +kernel)
theorem um_L_164 : Cond.methodLink RL 164 yX4_lacking ∈ Uw := Uw_of (i := 974) (by decide +kernel) (by decide +kernel)
theorem um_L_165 : Cond.methodLink RL 165 yX3_success ∈ Uw := Uw_of (i := 181) (by decide +kernel) (by decide +kernel)
theorem um_L_169 : Cond.methodLink RL 169 yX4_success ∈ Uw := Uw_of (i := 978) (by decide +kernel) (by decide +kernel)
theorem um_L_170 : Cond.methodLink RL 170 yX3_digest ∈ Uw := Uw_of (i := 185) (by decide +kernel) (by decide +kernel)
theorem um_L_174 : Cond.methodLink RL 174 yX4_digest ∈ Uw := Uw_of (i := 982) (by decide +kernel) (by decide +kernel)
theorem um_X0_3 : Cond.methodLink RX0 3 objectInit ∈ Uw := Uw_of (i := 387) (by decide +kernel) (by decide +kernel)
theorem uf_X0_9 : Cond.fieldLink RX0 9 "HelpDesk$Agent" "number" "I" ∈ Uw := Uw_of (i := 388) (by decide +kernel) (by decide +kernel)
theorem pf_X0_9 {k : Kx} {cc : ByteArray} {R : Room} {nL : Nat} {ws : va_W} {c n pc : Nat} {lv : List (Option Value)} {st : List Value} {a : Nat} {fs : List Value} {v : Value} (F : Fx k cc RX0 R nL) (hw : kw k = true) (hin : (kmeth k).name = "<init>") (hd : decode cc pc = .ok (.putfield 9, 3)) (hn : narrow (.int) v = v) (hf : fits (.int) v = true) (q : Nat) (hq : ws[q]? = some (a, .inr (1, fs))) (hl : 0 < fs.length) (ws' : va_W) (he : ws.set q (a, .inr (1, fs.set 0 v)) = ws') (K : J k ws' c n (pc + 3) lv st) : J k ws c n pc lv (v :: .ref a :: st) := j_putfF F hw hin (C := RX0) (T := TX0) (N := 8) 0 inU_X0 tyX0 tyX0_ok nmX0 rfl (by decide) uf_X0_9 (fun _ h => h) rfl rfl (by decide +kernel) hd hn hf q hq hl ws' he K
theorem uf_X0_15 : Cond.fieldLink RX0 15 "HelpDesk$Agent" "skills" "I" ∈ Uw := Uw_of (i := 393) (by decide +kernel) (by decide +kernel)
theorem gf_X0_15 {k : Kx} {cc : ByteArray} {R : Room} {nL : Nat} {ws : va_W} {c n pc : Nat} {lv : List (Option Value)} {st : List Value} {a : Nat} {fs : List Value} {v : Value} (F : Fx k cc RX0 R nL) (hd : decode cc pc = .ok (.getfield 15, 3)) (q : Nat) (hq : ws[q]? = some (a, .inr (1, fs))) (hv : fs[4]? = some v) (K : J k ws c n (pc + 3) lv (v :: st)) : J k ws c n pc lv (.ref a :: st) := j_getf F (C := RX0) (T := TX0) (N := 8) 4 inU_X0 rfl (by decide) uf_X0_15 (fun _ h => h) hd q hq hv K
theorem pf_X0_15 {k : Kx} {cc : ByteArray} {R : Room} {nL : Nat} {ws : va_W} {c n pc : Nat} {lv : List (Option Value)} {st : List Value} {a : Nat} {fs : List Value} {v : Value} (F : Fx k cc RX0 R nL) (hw : kw k = true) (hd : decode cc pc = .ok (.putfield 15, 3)) (hn : narrow (.int) v = v) (hf : fits (.int) v = true) (q : Nat) (hq : ws[q]? = some (a, .inr (1, fs))) (hl : 4 < fs.length) (ws' : va_W) (he : ws.set q (a, .inr (1, fs.set 4 v)) = ws') (K : J k ws' c n (pc + 3) lv st) : J k ws c n pc lv (v :: .ref a :: st) := j_putf F hw (C := RX0) (T := TX0) (N := 8) 4 inU_X0 tyX0 tyX0_ok nmX0 rfl (by decide) uf_X0_15 (fun _ h => h) rfl (by decide +kernel) hd hn hf q hq hl ws' he K
theorem uf_X0_18 : Cond.fieldLink RX0 18 "HelpDesk$Agent" "days" "I" ∈ Uw := Uw_of (i := 390) (by decide +kernel) (by decide +kernel)
theorem gf_X0_18 {k : Kx} {cc : ByteArray} {R : Room} {nL : Nat} {ws : va_W} {c n pc : Nat} {lv : List (Option Value)} {st : List Value} {a : Nat} {fs : List Value} {v : Value} (F : Fx k cc RX0 R nL) (hd : decode cc pc = .ok (.getfield 18, 3)) (q : Nat) (hq : ws[q]? = some (a, .inr (1, fs))) (hv : fs[1]? = some v) (K : J k ws c n (pc + 3) lv (v :: st)) : J k ws c n pc lv (.ref a :: st) := j_getf F (C := RX0) (T := TX0) (N := 8) 1 inU_X0 rfl (by decide) uf_X0_18 (fun _ h => h) hd q hq hv K
theorem pf_X0_18 {k : Kx} {cc : ByteArray} {R : Room} {nL : Nat} {ws : va_W} {c n pc : Nat} {lv : List (Option Value)} {st : List Value} {a : Nat} {fs : List Value} {v : Value} (F : Fx k cc RX0 R nL) (hw : kw k = true) (hin : (kmeth k).name = "<init>") (hd : decode cc pc = .ok (.putfield 18, 3)) (hn : narrow (.int) v = v) (hf : fits (.int) v = true) (q : Nat) (hq : ws[q]? = some (a, .inr (1, fs))) (hl : 1 < fs.length) (ws' : va_W) (he : ws.set q (a, .inr (1, fs.set 1 v)) = ws') (K : J k ws' c n (pc + 3) lv st) : J k ws c n pc lv (v :: .ref a :: st) := j_putfF F hw hin (C := RX0) (T := TX0) (N := 8) 1 inU_X0 tyX0 tyX0_ok nmX0 rfl (by decide) uf_X0_18 (fun _ h => h) rfl rfl (by decide +kernel) hd hn hf q hq hl ws' he K
theorem uf_X0_21 : Cond.fieldLink RX0 21 "HelpDesk$Agent" "begin" "I" ∈ Uw := Uw_of (i := 391) (by decide +kernel) (by decide +kernel)
theorem gf_X0_21 {k : Kx} {cc : ByteArray} {R : Room} {nL : Nat} {ws : va_W} {c n pc : Nat} {lv : List (Option Value)} {st : List Value} {a : Nat} {fs : List Value} {v : Value} (F : Fx k cc RX0 R nL) (hd : decode cc pc = .ok (.getfield 21, 3)) (q : Nat) (hq : ws[q]? = some (a, .inr (1, fs))) (hv : fs[2]? = some v) (K : J k ws c n (pc + 3) lv (v :: st)) : J k ws c n pc lv (.ref a :: st) := j_getf F (C := RX0) (T := TX0) (N := 8) 2 inU_X0 rfl (by decide) uf_X0_21 (fun _ h => h) hd q hq hv K
theorem pf_X0_21 {k : Kx} {cc : ByteArray} {R : Room} {nL : Nat} {ws : va_W} {c n pc : Nat} {lv : List (Option Value)} {st : List Value} {a : Nat} {fs : List Value} {v : Value} (F : Fx k cc RX0 R nL) (hw : kw k = true) (hin : (kmeth k).name = "<init>") (hd : decode cc pc = .ok (.putfield 21, 3)) (hn : narrow (.int) v = v) (hf : fits (.int) v = true) (q : Nat) (hq : ws[q]? = some (a, .inr (1, fs))) (hl : 2 < fs.length) (ws' : va_W) (he : ws.set q (a, .inr (1, fs.set 2 v)) = ws') (K : J k ws' c n (pc + 3) lv st) : J k ws c n pc lv (v :: .ref a :: st) := j_putfF F hw hin (C := RX0) (T := TX0) (N := 8) 2 inU_X0 tyX0 tyX0_ok nmX0 rfl (by decide) uf_X0_21 (fun _ h => h) rfl rfl (by decide +kernel) hd hn hf q hq hl ws' he K
theorem uf_X0_24 : Cond.fieldLink RX0 24 "HelpDesk$Agent" "end" "I" ∈ Uw := Uw_of (i := 392) (by decide +kernel) (by decide +kernel)
theorem gf_X0_24 {k : Kx} {cc : ByteArray} {R : Room} {nL : Nat} {ws : va_W} {c n pc : Nat} {lv : List (Option Value)} {st : List Value} {a : Nat} {fs : List Value} {v : Value} (F : Fx k cc RX0 R nL) (hd : decode cc pc = .ok (.getfield 24, 3)) (q : Nat) (hq : ws[q]? = some (a, .inr (1, fs))) (hv : fs[3]? = some v) (K : J k ws c n (pc + 3) lv (v :: st)) : J k ws c n pc lv (.ref a :: st) := j_getf F (C := RX0) (T := TX0) (N := 8) 3 inU_X0 rfl (by decide) uf_X0_24 (fun _ h => h) hd q hq hv K
theorem pf_X0_24 {k : Kx} {cc : ByteArray} {R : Room} {nL : Nat} {ws : va_W} {c n pc : Nat} {lv : List (Option Value)} {st : List Value} {a : Nat} {fs : List Value} {v : Value} (F : Fx k cc RX0 R nL) (hw : kw k = true) (hin : (kmeth k).name = "<init>") (hd : decode cc pc = .ok (.putfield 24, 3)) (hn : narrow (.int) v = v) (hf : fits (.int) v = true) (q : Nat) (hq : ws[q]? = some (a, .inr (1, fs))) (hl : 3 < fs.length) (ws' : va_W) (he : ws.set q (a, .inr (1, fs.set 3 v)) = ws') (K : J k ws' c n (pc + 3) lv st) : J k ws c n pc lv (v :: .ref a :: st) := j_putfF F hw hin (C := RX0) (T := TX0) (N := 8) 3 inU_X0 tyX0 tyX0_ok nmX0 rfl (by decide) uf_X0_24 (fun _ h => h) rfl rfl (by decide +kernel) hd hn hf q hq hl ws' he K
theorem um_X1_3 : Cond.methodLink RX1 3 objectInit ∈ Uw := Uw_of (i := 73) (by decide +kernel) (by decide +kernel)
theorem uf_X1_9 : Cond.fieldLink RX1 9 "HelpDesk$Hours" "opening" "I" ∈ Uw := Uw_of (i := 74) (by decide +kernel) (by decide +kernel)
theorem gf_X1_9 {k : Kx} {cc : ByteArray} {R : Room} {nL : Nat} {ws : va_W} {c n pc : Nat} {lv : List (Option Value)} {st : List Value} {a : Nat} {fs : List Value} {v : Value} (F : Fx k cc RX1 R nL) (hd : decode cc pc = .ok (.getfield 9, 3)) (q : Nat) (hq : ws[q]? = some (a, .inr (2, fs))) (hv : fs[0]? = some v) (K : J k ws c n (pc + 3) lv (v :: st)) : J k ws c n pc lv (.ref a :: st) := j_getf F (C := RX1) (T := TX1) (N := 2) 0 inU_X1 rfl (by decide) uf_X1_9 (fun _ h => h) hd q hq hv K
theorem pf_X1_9 {k : Kx} {cc : ByteArray} {R : Room} {nL : Nat} {ws : va_W} {c n pc : Nat} {lv : List (Option Value)} {st : List Value} {a : Nat} {fs : List Value} {v : Value} (F : Fx k cc RX1 R nL) (hw : kw k = true) (hd : decode cc pc = .ok (.putfield 9, 3)) (hn : narrow (.int) v = v) (hf : fits (.int) v = true) (q : Nat) (hq : ws[q]? = some (a, .inr (2, fs))) (hl : 0 < fs.length) (ws' : va_W) (he : ws.set q (a, .inr (2, fs.set 0 v)) = ws') (K : J k ws' c n (pc + 3) lv st) : J k ws c n pc lv (v :: .ref a :: st) := j_putf F hw (C := RX1) (T := TX1) (N := 2) 0 inU_X1 tyX1 tyX1_ok nmX1 rfl (by decide) uf_X1_9 (fun _ h => h) rfl (by decide +kernel) hd hn hf q hq hl ws' he K
theorem uf_X1_15 : Cond.fieldLink RX1 15 "HelpDesk$Hours" "closing" "I" ∈ Uw := Uw_of (i := 76) (by decide +kernel) (by decide +kernel)
theorem gf_X1_15 {k : Kx} {cc : ByteArray} {R : Room} {nL : Nat} {ws : va_W} {c n pc : Nat} {lv : List (Option Value)} {st : List Value} {a : Nat} {fs : List Value} {v : Value} (F : Fx k cc RX1 R nL) (hd : decode cc pc = .ok (.getfield 15, 3)) (q : Nat) (hq : ws[q]? = some (a, .inr (2, fs))) (hv : fs[1]? = some v) (K : J k ws c n (pc + 3) lv (v :: st)) : J k ws c n pc lv (.ref a :: st) := j_getf F (C := RX1) (T := TX1) (N := 2) 1 inU_X1 rfl (by decide) uf_X1_15 (fun _ h => h) hd q hq hv K
theorem pf_X1_15 {k : Kx} {cc : ByteArray} {R : Room} {nL : Nat} {ws : va_W} {c n pc : Nat} {lv : List (Option Value)} {st : List Value} {a : Nat} {fs : List Value} {v : Value} (F : Fx k cc RX1 R nL) (hw : kw k = true) (hd : decode cc pc = .ok (.putfield 15, 3)) (hn : narrow (.int) v = v) (hf : fits (.int) v = true) (q : Nat) (hq : ws[q]? = some (a, .inr (2, fs))) (hl : 1 < fs.length) (ws' : va_W) (he : ws.set q (a, .inr (2, fs.set 1 v)) = ws') (K : J k ws' c n (pc + 3) lv st) : J k ws c n pc lv (v :: .ref a :: st) := j_putf F hw (C := RX1) (T := TX1) (N := 2) 1 inU_X1 tyX1 tyX1_ok nmX1 rfl (by decide) uf_X1_15 (fun _ h => h) rfl (by decide +kernel) hd hn hf q hq hl ws' he K
theorem um_X1_22 : Cond.methodLink RX1 22 yX1_minutesOfDay ∈ Uw := Uw_of (i := 344) (by decide +kernel) (by decide +kernel)
theorem uc_X1_26 : Cond.constant RX1 26 (99999) ∈ Uw := Uw_of (i := 662) (by decide +kernel) (by decide +kernel)
theorem uc_X1_27 : Cond.constant RX1 27 (100000) ∈ Uw := Uw_of (i := 663) (by decide +kernel) (by decide +kernel)
theorem um_X1_28 : Cond.methodLink RX1 28 Lib.Math.max.name ∈ Uw := Uw_of (i := 349) (by decide +kernel) (by decide +kernel)
theorem um_X1_34 : Cond.methodLink RX1 34 Lib.Math.min.name ∈ Uw := Uw_of (i := 352) (by decide +kernel) (by decide +kernel)
theorem um_X2_3 : Cond.methodLink RX2 3 objectInit ∈ Uw := Uw_of (i := 526) (by decide +kernel) (by decide +kernel)
theorem uf_X2_9 : Cond.fieldLink RX2 9 "HelpDesk$Ticket" "number" "I" ∈ Uw := Uw_of (i := 527) (by decide +kernel) (by decide +kernel)
theorem pf_X2_9 {k : Kx} {cc : ByteArray} {R : Room} {nL : Nat} {ws : va_W} {c n pc : Nat} {lv : List (Option Value)} {st : List Value} {a : Nat} {fs : List Value} {v : Value} (F : Fx k cc RX2 R nL) (hw : kw k = true) (hin : (kmeth k).name = "<init>") (hd : decode cc pc = .ok (.putfield 9, 3)) (hn : narrow (.int) v = v) (hf : fits (.int) v = true) (q : Nat) (hq : ws[q]? = some (a, .inr (3, fs))) (hl : 0 < fs.length) (ws' : va_W) (he : ws.set q (a, .inr (3, fs.set 0 v)) = ws') (K : J k ws' c n (pc + 3) lv st) : J k ws c n pc lv (v :: .ref a :: st) := j_putfF F hw hin (C := RX2) (T := TX2) (N := 15) 0 inU_X2 tyX2 tyX2_ok nmX2 rfl (by decide) uf_X2_9 (fun _ h => h) rfl rfl (by decide +kernel) hd hn hf q hq hl ws' he K
theorem uf_X2_15 : Cond.fieldLink RX2 15 "HelpDesk$Ticket" "skill" "I" ∈ Uw := Uw_of (i := 529) (by decide +kernel) (by decide +kernel)
theorem pf_X2_15 {k : Kx} {cc : ByteArray} {R : Room} {nL : Nat} {ws : va_W} {c n pc : Nat} {lv : List (Option Value)} {st : List Value} {a : Nat} {fs : List Value} {v : Value} (F : Fx k cc RX2 R nL) (hw : kw k = true) (hin : (kmeth k).name = "<init>") (hd : decode cc pc = .ok (.putfield 15, 3)) (hn : narrow (.int) v = v) (hf : fits (.int) v = true) (q : Nat) (hq : ws[q]? = some (a, .inr (3, fs))) (hl : 1 < fs.length) (ws' : va_W) (he : ws.set q (a, .inr (3, fs.set 1 v)) = ws') (K : J k ws' c n (pc + 3) lv st) : J k ws c n pc lv (v :: .ref a :: st) := j_putfF F hw hin (C := RX2) (T := TX2) (N := 15) 1 inU_X2 tyX2 tyX2_ok nmX2 rfl (by decide) uf_X2_15 (fun _ h => h) rfl rfl (by decide +kernel) hd hn hf q hq hl ws' he K
theorem uf_X2_18 : Cond.fieldLink RX2 18 "HelpDesk$Ticket" "priority" "I" ∈ Uw := Uw_of (i := 531) (by decide +kernel) (by decide +kernel)
theorem pf_X2_18 {k : Kx} {cc : ByteArray} {R : Room} {nL : Nat} {ws : va_W} {c n pc : Nat} {lv : List (Option Value)} {st : List Value} {a : Nat} {fs : List Value} {v : Value} (F : Fx k cc RX2 R nL) (hw : kw k = true) (hd : decode cc pc = .ok (.putfield 18, 3)) (hn : narrow (.int) v = v) (hf : fits (.int) v = true) (q : Nat) (hq : ws[q]? = some (a, .inr (3, fs))) (hl : 2 < fs.length) (ws' : va_W) (he : ws.set q (a, .inr (3, fs.set 2 v)) = ws') (K : J k ws' c n (pc + 3) lv st) : J k ws c n pc lv (v :: .ref a :: st) := j_putf F hw (C := RX2) (T := TX2) (N := 15) 2 inU_X2 tyX2 tyX2_ok nmX2 rfl (by decide) uf_X2_18 (fun _ h => h) rfl (by decide +kernel) hd hn hf q hq hl ws' he K
theorem uf_X2_21 : Cond.fieldLink RX2 21 "HelpDesk$Ticket" "effort" "I" ∈ Uw := Uw_of (i := 533) (by decide +kernel) (by decide +kernel)
theorem pf_X2_21 {k : Kx} {cc : ByteArray} {R : Room} {nL : Nat} {ws : va_W} {c n pc : Nat} {lv : List (Option Value)} {st : List Value} {a : Nat} {fs : List Value} {v : Value} (F : Fx k cc RX2 R nL) (hw : kw k = true) (hd : decode cc pc = .ok (.putfield 21, 3)) (hn : narrow (.int) v = v) (hf : fits (.int) v = true) (q : Nat) (hq : ws[q]? = some (a, .inr (3, fs))) (hl : 3 < fs.length) (ws' : va_W) (he : ws.set q (a, .inr (3, fs.set 3 v)) = ws') (K : J k ws' c n (pc + 3) lv st) : J k ws c n pc lv (v :: .ref a :: st) := j_putf F hw (C := RX2) (T := TX2) (N := 15) 3 inU_X2 tyX2 tyX2_ok nmX2 rfl (by decide) uf_X2_21 (fun _ h => h) rfl (by decide +kernel) hd hn hf q hq hl ws' he K
theorem uf_X2_24 : Cond.fieldLink RX2 24 "HelpDesk$Ticket" "state" "I" ∈ Uw := Uw_of (i := 535) (by decide +kernel) (by decide +kernel)
theorem gf_X2_24 {k : Kx} {cc : ByteArray} {R : Room} {nL : Nat} {ws : va_W} {c n pc : Nat} {lv : List (Option Value)} {st : List Value} {a : Nat} {fs : List Value} {v : Value} (F : Fx k cc RX2 R nL) (hd : decode cc pc = .ok (.getfield 24, 3)) (q : Nat) (hq : ws[q]? = some (a, .inr (3, fs))) (hv : fs[4]? = some v) (K : J k ws c n (pc + 3) lv (v :: st)) : J k ws c n pc lv (.ref a :: st) := j_getf F (C := RX2) (T := TX2) (N := 15) 4 inU_X2 rfl (by decide) uf_X2_24 (fun _ h => h) hd q hq hv K
theorem pf_X2_24 {k : Kx} {cc : ByteArray} {R : Room} {nL : Nat} {ws : va_W} {c n pc : Nat} {lv : List (Option Value)} {st : List Value} {a : Nat} {fs : List Value} {v : Value} (F : Fx k cc RX2 R nL) (hw : kw k = true) (hd : decode cc pc = .ok (.putfield 24, 3)) (hn : narrow (.int) v = v) (hf : fits (.int) v = true) (q : Nat) (hq : ws[q]? = some (a, .inr (3, fs))) (hl : 4 < fs.length) (ws' : va_W) (he : ws.set q (a, .inr (3, fs.set 4 v)) = ws') (K : J k ws' c n (pc + 3) lv st) : J k ws c n pc lv (v :: .ref a :: st) := j_putf F hw (C := RX2) (T := TX2) (N := 15) 4 inU_X2 tyX2 tyX2_ok nmX2 rfl (by decide) uf_X2_24 (fun _ h => h) rfl (by decide +kernel) hd hn hf q hq hl ws' he K
theorem uf_X2_27 : Cond.fieldLink RX2 27 "HelpDesk$Ticket" "answerAge" "I" ∈ Uw := Uw_of (i := 539) (by decide +kernel) (by decide +kernel)
theorem pf_X2_27 {k : Kx} {cc : ByteArray} {R : Room} {nL : Nat} {ws : va_W} {c n pc : Nat} {lv : List (Option Value)} {st : List Value} {a : Nat} {fs : List Value} {v : Value} (F : Fx k cc RX2 R nL) (hw : kw k = true) (hd : decode cc pc = .ok (.putfield 27, 3)) (hn : narrow (.int) v = v) (hf : fits (.int) v = true) (q : Nat) (hq : ws[q]? = some (a, .inr (3, fs))) (hl : 7 < fs.length) (ws' : va_W) (he : ws.set q (a, .inr (3, fs.set 7 v)) = ws') (K : J k ws' c n (pc + 3) lv st) : J k ws c n pc lv (v :: .ref a :: st) := j_putf F hw (C := RX2) (T := TX2) (N := 15) 7 inU_X2 tyX2 tyX2_ok nmX2 rfl (by decide) uf_X2_27 (fun _ h => h) rfl (by decide +kernel) hd hn hf q hq hl ws' he K
theorem uf_X2_30 : Cond.fieldLink RX2 30 "HelpDesk$Ticket" "customerSet" "I" ∈ Uw := Uw_of (i := 544) (by decide +kernel) (by decide +kernel)
theorem pf_X2_30 {k : Kx} {cc : ByteArray} {R : Room} {nL : Nat} {ws : va_W} {c n pc : Nat} {lv : List (Option Value)} {st : List Value} {a : Nat} {fs : List Value} {v : Value} (F : Fx k cc RX2 R nL) (hw : kw k = true) (hd : decode cc pc = .ok (.putfield 30, 3)) (hn : narrow (.int) v = v) (hf : fits (.int) v = true) (q : Nat) (hq : ws[q]? = some (a, .inr (3, fs))) (hl : 11 < fs.length) (ws' : va_W) (he : ws.set q (a, .inr (3, fs.set 11 v)) = ws') (K : J k ws' c n (pc + 3) lv st) : J k ws c n pc lv (v :: .ref a :: st) := j_putf F hw (C := RX2) (T := TX2) (N := 15) 11 inU_X2 tyX2 tyX2_ok nmX2 rfl (by decide) uf_X2_30 (fun _ h => h) rfl (by decide +kernel) hd hn hf q hq hl ws' he K
theorem um_X3_1 : Cond.methodLink RX3 1 objectInit ∈ Uw := Uw_of (i := 65) (by decide +kernel) (by decide +kernel)
theorem ul_X3_7 : Cond.classLink RX3 7 RX1 ∈ Uw := Uw_of (i := 68) (by decide +kernel) (by decide +kernel)
theorem um_X3_9 : Cond.methodLink RX3 9 yX1_init ∈ Uw := Uw_of (i := 70) (by decide +kernel) (by decide +kernel)
theorem uf_X3_10 : Cond.fieldLink RX3 10 "HelpDesk" "hours" "LHelpDesk$Hours;" ∈ Uw := Uw_of (i := 110) (by decide +kernel) (by decide +kernel)
theorem gf_X3_10 {k : Kx} {cc : ByteArray} {R : Room} {nL : Nat} {ws : va_W} {c n pc : Nat} {lv : List (Option Value)} {st : List Value} {a : Nat} {fs : List Value} {v : Value} (F : Fx k cc RX3 R nL) (hd : decode cc pc = .ok (.getfield 10, 3)) (q : Nat) (hq : ws[q]? = some (a, .inr (4, fs))) (hv : fs[0]? = some v) (K : J k ws c n (pc + 3) lv (v :: st)) : J k ws c n pc lv (.ref a :: st) := j_getf F (C := RX3) (T := TX3) (N := 6) 0 inU_X3 rfl (by decide) uf_X3_10 (fun _ h => h) hd q hq hv K
theorem pf_X3_10 {k : Kx} {cc : ByteArray} {R : Room} {nL : Nat} {ws : va_W} {c n pc : Nat} {lv : List (Option Value)} {st : List Value} {a : Nat} {fs : List Value} {v : Value} (F : Fx k cc RX3 R nL) (hw : kw k = true) (hin : (kmeth k).name = "<init>") (hd : decode cc pc = .ok (.putfield 10, 3)) (hn : narrow (.object "HelpDesk$Hours") v = v) (hf : fits (.object "HelpDesk$Hours") v = true) (q : Nat) (hq : ws[q]? = some (a, .inr (4, fs))) (hl : 0 < fs.length) (ws' : va_W) (he : ws.set q (a, .inr (4, fs.set 0 v)) = ws') (K : J k ws' c n (pc + 3) lv st) : J k ws c n pc lv (v :: .ref a :: st) := j_putfF F hw hin (C := RX3) (T := TX3) (N := 6) 0 inU_X3 tyX3 tyX3_ok nmX3 rfl (by decide) uf_X3_10 (fun _ h => h) rfl rfl (by decide +kernel) hd hn hf q hq hl ws' he K
theorem uf_X3_16 : Cond.fieldLink RX3 16 "HelpDesk" "answerTargets" "[I" ∈ Uw := Uw_of (i := 111) (by decide +kernel) (by decide +kernel)
theorem gf_X3_16 {k : Kx} {cc : ByteArray} {R : Room} {nL : Nat} {ws : va_W} {c n pc : Nat} {lv : List (Option Value)} {st : List Value} {a : Nat} {fs : List Value} {v : Value} (F : Fx k cc RX3 R nL) (hd : decode cc pc = .ok (.getfield 16, 3)) (q : Nat) (hq : ws[q]? = some (a, .inr (4, fs))) (hv : fs[1]? = some v) (K : J k ws c n (pc + 3) lv (v :: st)) : J k ws c n pc lv (.ref a :: st) := j_getf F (C := RX3) (T := TX3) (N := 6) 1 inU_X3 rfl (by decide) uf_X3_16 (fun _ h => h) hd q hq hv K
theorem pf_X3_16 {k : Kx} {cc : ByteArray} {R : Room} {nL : Nat} {ws : va_W} {c n pc : Nat} {lv : List (Option Value)} {st : List Value} {a : Nat} {fs : List Value} {v : Value} (F : Fx k cc RX3 R nL) (hw : kw k = true) (hin : (kmeth k).name = "<init>") (hd : decode cc pc = .ok (.putfield 16, 3)) (hn : narrow (.array .int) v = v) (hf : fits (.array .int) v = true) (q : Nat) (hq : ws[q]? = some (a, .inr (4, fs))) (hl : 1 < fs.length) (ws' : va_W) (he : ws.set q (a, .inr (4, fs.set 1 v)) = ws') (K : J k ws' c n (pc + 3) lv st) : J k ws c n pc lv (v :: .ref a :: st) := j_putfF F hw hin (C := RX3) (T := TX3) (N := 6) 1 inU_X3 tyX3 tyX3_ok nmX3 rfl (by decide) uf_X3_16 (fun _ h => h) rfl rfl (by decide +kernel) hd hn hf q hq hl ws' he K
theorem uf_X3_20 : Cond.fieldLink RX3 20 "HelpDesk" "solutionTargets" "[I" ∈ Uw := Uw_of (i := 112) (by decide +kernel) (by decide +kernel)
theorem gf_X3_20 {k : Kx} {cc : ByteArray} {R : Room} {nL : Nat} {ws : va_W} {c n pc : Nat} {lv : List (Option Value)} {st : List Value} {a : Nat} {fs : List Value} {v : Value} (F : Fx k cc RX3 R nL) (hd : decode cc pc = .ok (.getfield 20, 3)) (q : Nat) (hq : ws[q]? = some (a, .inr (4, fs))) (hv : fs[2]? = some v) (K : J k ws c n (pc + 3) lv (v :: st)) : J k ws c n pc lv (.ref a :: st) := j_getf F (C := RX3) (T := TX3) (N := 6) 2 inU_X3 rfl (by decide) uf_X3_20 (fun _ h => h) hd q hq hv K
theorem pf_X3_20 {k : Kx} {cc : ByteArray} {R : Room} {nL : Nat} {ws : va_W} {c n pc : Nat} {lv : List (Option Value)} {st : List Value} {a : Nat} {fs : List Value} {v : Value} (F : Fx k cc RX3 R nL) (hw : kw k = true) (hin : (kmeth k).name = "<init>") (hd : decode cc pc = .ok (.putfield 20, 3)) (hn : narrow (.array .int) v = v) (hf : fits (.array .int) v = true) (q : Nat) (hq : ws[q]? = some (a, .inr (4, fs))) (hl : 2 < fs.length) (ws' : va_W) (he : ws.set q (a, .inr (4, fs.set 2 v)) = ws') (K : J k ws' c n (pc + 3) lv st) : J k ws c n pc lv (v :: .ref a :: st) := j_putfF F hw hin (C := RX3) (T := TX3) (N := 6) 2 inU_X3 tyX3 tyX3_ok nmX3 rfl (by decide) uf_X3_20 (fun _ h => h) rfl rfl (by decide +kernel) hd hn hf q hq hl ws' he K
theorem ul_X3_23 : Cond.classLink RX3 23 RJx4a65c ∈ Uw := Uw_of (i := 83) (by decide +kernel) (by decide +kernel)
theorem um_X3_25 : Cond.methodLink RX3 25 yJx4a65c_init_da8c8 ∈ Uw := Uw_of (i := 85) (by decide +kernel) (by decide +kernel)
theorem uf_X3_26 : Cond.fieldLink RX3 26 "HelpDesk" "agents" "Ljava/util/ArrayList;" ∈ Uw := Uw_of (i := 113) (by decide +kernel) (by decide +kernel)
theorem gf_X3_26 {k : Kx} {cc : ByteArray} {R : Room} {nL : Nat} {ws : va_W} {c n pc : Nat} {lv : List (Option Value)} {st : List Value} {a : Nat} {fs : List Value} {v : Value} (F : Fx k cc RX3 R nL) (hd : decode cc pc = .ok (.getfield 26, 3)) (q : Nat) (hq : ws[q]? = some (a, .inr (4, fs))) (hv : fs[3]? = some v) (K : J k ws c n (pc + 3) lv (v :: st)) : J k ws c n pc lv (.ref a :: st) := j_getf F (C := RX3) (T := TX3) (N := 6) 3 inU_X3 rfl (by decide) uf_X3_26 (fun _ h => h) hd q hq hv K
theorem pf_X3_26 {k : Kx} {cc : ByteArray} {R : Room} {nL : Nat} {ws : va_W} {c n pc : Nat} {lv : List (Option Value)} {st : List Value} {a : Nat} {fs : List Value} {v : Value} (F : Fx k cc RX3 R nL) (hw : kw k = true) (hin : (kmeth k).name = "<init>") (hd : decode cc pc = .ok (.putfield 26, 3)) (hn : narrow (.object "java/util/ArrayList") v = v) (hf : fits (.object "java/util/ArrayList") v = true) (q : Nat) (hq : ws[q]? = some (a, .inr (4, fs))) (hl : 3 < fs.length) (ws' : va_W) (he : ws.set q (a, .inr (4, fs.set 3 v)) = ws') (K : J k ws' c n (pc + 3) lv st) : J k ws c n pc lv (v :: .ref a :: st) := j_putfF F hw hin (C := RX3) (T := TX3) (N := 6) 3 inU_X3 tyX3 tyX3_ok nmX3 rfl (by decide) uf_X3_26 (fun _ h => h) rfl rfl (by decide +kernel) hd hn hf q hq hl ws' he K
theorem uf_X3_30 : Cond.fieldLink RX3 30 "HelpDesk" "tickets" "Ljava/util/ArrayList;" ∈ Uw := Uw_of (i := 114) (by decide +kernel) (by decide +kernel)
theorem gf_X3_30 {k : Kx} {cc : ByteArray} {R : Room} {nL : Nat} {ws : va_W} {c n pc : Nat} {lv : List (Option Value)} {st : List Value} {a : Nat} {fs : List Value} {v : Value} (F : Fx k cc RX3 R nL) (hd : decode cc pc = .ok (.getfield 30, 3)) (q : Nat) (hq : ws[q]? = some (a, .inr (4, fs))) (hv : fs[4]? = some v) (K : J k ws c n (pc + 3) lv (v :: st)) : J k ws c n pc lv (.ref a :: st) := j_getf F (C := RX3) (T := TX3) (N := 6) 4 inU_X3 rfl (by decide) uf_X3_30 (fun _ h => h) hd q hq hv K
theorem pf_X3_30 {k : Kx} {cc : ByteArray} {R : Room} {nL : Nat} {ws : va_W} {c n pc : Nat} {lv : List (Option Value)} {st : List Value} {a : Nat} {fs : List Value} {v : Value} (F : Fx k cc RX3 R nL) (hw : kw k = true) (hin : (kmeth k).name = "<init>") (hd : decode cc pc = .ok (.putfield 30, 3)) (hn : narrow (.object "java/util/ArrayList") v = v) (hf : fits (.object "java/util/ArrayList") v = true) (q : Nat) (hq : ws[q]? = some (a, .inr (4, fs))) (hl : 4 < fs.length) (ws' : va_W) (he : ws.set q (a, .inr (4, fs.set 4 v)) = ws') (K : J k ws' c n (pc + 3) lv st) : J k ws c n pc lv (v :: .ref a :: st) := j_putfF F hw hin (C := RX3) (T := TX3) (N := 6) 4 inU_X3 tyX3 tyX3_ok nmX3 rfl (by decide) uf_X3_30 (fun _ h => h) rfl rfl (by decide +kernel) hd hn hf q hq hl ws' he K
theorem uf_X3_33 : Cond.fieldLink RX3 33 "HelpDesk" "minute" "I" ∈ Uw := Uw_of (i := 115) (by decide +kernel) (by decide +kernel)
theorem gf_X3_33 {k : Kx} {cc : ByteArray} {R : Room} {nL : Nat} {ws : va_W} {c n pc : Nat} {lv : List (Option Value)} {st : List Value} {a : Nat} {fs : List Value} {v : Value} (F : Fx k cc RX3 R nL) (hd : decode cc pc = .ok (.getfield 33, 3)) (q : Nat) (hq : ws[q]? = some (a, .inr (4, fs))) (hv : fs[5]? = some v) (K : J k ws c n (pc + 3) lv (v :: st)) : J k ws c n pc lv (.ref a :: st) := j_getf F (C := RX3) (T := TX3) (N := 6) 5 inU_X3 rfl (by decide) uf_X3_33 (fun _ h => h) hd q hq hv K
theorem pf_X3_33 {k : Kx} {cc : ByteArray} {R : Room} {nL : Nat} {ws : va_W} {c n pc : Nat} {lv : List (Option Value)} {st : List Value} {a : Nat} {fs : List Value} {v : Value} (F : Fx k cc RX3 R nL) (hw : kw k = true) (hd : decode cc pc = .ok (.putfield 33, 3)) (hn : narrow (.int) v = v) (hf : fits (.int) v = true) (q : Nat) (hq : ws[q]? = some (a, .inr (4, fs))) (hl : 5 < fs.length) (ws' : va_W) (he : ws.set q (a, .inr (4, fs.set 5 v)) = ws') (K : J k ws' c n (pc + 3) lv st) : J k ws c n pc lv (v :: .ref a :: st) := j_putf F hw (C := RX3) (T := TX3) (N := 6) 5 inU_X3 tyX3 tyX3_ok nmX3 rfl (by decide) uf_X3_33 (fun _ h => h) rfl (by decide +kernel) hd hn hf q hq hl ws' he K
theorem um_X3_37 : Cond.methodLink RX3 37 yX3_isSpanOfDay ∈ Uw := Uw_of (i := 232) (by decide +kernel) (by decide +kernel)
theorem ul_X3_41 : Cond.classLink RX3 41 "java/lang/IllegalArgumentException" ∈ Uw := Uw_of (i := 235) (by decide +kernel) (by decide +kernel)
theorem um_X3_45 : Cond.methodLink RX3 45 (⟨"java/lang/IllegalArgumentException", "<init>", "(Ljava/lang/String;)V"⟩ : MethodName) ∈ Uw := Uw_of (i := 277) (by decide +kernel) (by decide +kernel)
theorem uf_X3_48 : Cond.fieldLink RX3 48 "HelpDesk$Hours" "opening" "I" ∈ Uw := Uw_of (i := 75) (by decide +kernel) (by decide +kernel)
theorem gf_X3_48 {k : Kx} {cc : ByteArray} {R : Room} {nL : Nat} {ws : va_W} {c n pc : Nat} {lv : List (Option Value)} {st : List Value} {a : Nat} {fs : List Value} {v : Value} (F : Fx k cc RX3 R nL) (hd : decode cc pc = .ok (.getfield 48, 3)) (q : Nat) (hq : ws[q]? = some (a, .inr (2, fs))) (hv : fs[0]? = some v) (K : J k ws c n (pc + 3) lv (v :: st)) : J k ws c n pc lv (.ref a :: st) := j_getf F (C := RX1) (T := TX1) (N := 2) 0 inU_X1 rfl (by decide) uf_X3_48 (fun _ h => h) hd q hq hv K
theorem pf_X3_48 {k : Kx} {cc : ByteArray} {R : Room} {nL : Nat} {ws : va_W} {c n pc : Nat} {lv : List (Option Value)} {st : List Value} {a : Nat} {fs : List Value} {v : Value} (F : Fx k cc RX3 R nL) (hw : kw k = true) (hd : decode cc pc = .ok (.putfield 48, 3)) (hn : narrow (.int) v = v) (hf : fits (.int) v = true) (q : Nat) (hq : ws[q]? = some (a, .inr (2, fs))) (hl : 0 < fs.length) (ws' : va_W) (he : ws.set q (a, .inr (2, fs.set 0 v)) = ws') (K : J k ws' c n (pc + 3) lv st) : J k ws c n pc lv (v :: .ref a :: st) := j_putf F hw (C := RX1) (T := TX1) (N := 2) 0 inU_X1 tyX1 tyX1_ok nmX1 rfl (by decide) uf_X3_48 (fun _ h => h) rfl (by decide +kernel) hd hn hf q hq hl ws' he K
theorem uf_X3_51 : Cond.fieldLink RX3 51 "HelpDesk$Hours" "closing" "I" ∈ Uw := Uw_of (i := 77) (by decide +kernel) (by decide +kernel)
theorem gf_X3_51 {k : Kx} {cc : ByteArray} {R : Room} {nL : Nat} {ws : va_W} {c n pc : Nat} {lv : List (Option Value)} {st : List Value} {a : Nat} {fs : List Value} {v : Value} (F : Fx k cc RX3 R nL) (hd : decode cc pc = .ok (.getfield 51, 3)) (q : Nat) (hq : ws[q]? = some (a, .inr (2, fs))) (hv : fs[1]? = some v) (K : J k ws c n (pc + 3) lv (v :: st)) : J k ws c n pc lv (.ref a :: st) := j_getf F (C := RX1) (T := TX1) (N := 2) 1 inU_X1 rfl (by decide) uf_X3_51 (fun _ h => h) hd q hq hv K
theorem pf_X3_51 {k : Kx} {cc : ByteArray} {R : Room} {nL : Nat} {ws : va_W} {c n pc : Nat} {lv : List (Option Value)} {st : List Value} {a : Nat} {fs : List Value} {v : Value} (F : Fx k cc RX3 R nL) (hw : kw k = true) (hd : decode cc pc = .ok (.putfield 51, 3)) (hn : narrow (.int) v = v) (hf : fits (.int) v = true) (q : Nat) (hq : ws[q]? = some (a, .inr (2, fs))) (hl : 1 < fs.length) (ws' : va_W) (he : ws.set q (a, .inr (2, fs.set 1 v)) = ws') (K : J k ws' c n (pc + 3) lv st) : J k ws c n pc lv (v :: .ref a :: st) := j_putf F hw (C := RX1) (T := TX1) (N := 2) 1 inU_X1 tyX1 tyX1_ok nmX1 rfl (by decide) uf_X3_51 (fun _ h => h) rfl (by decide +kernel) hd hn hf q hq hl ws' he K
theorem um_X3_54 : Cond.methodLink RX3 54 yX3_isPriority ∈ Uw := Uw_of (i := 311) (by decide +kernel) (by decide +kernel)
theorem ul_X3_58 : Cond.classLink RX3 58 "java/lang/IndexOutOfBoundsException" ∈ Uw := Uw_of (i := 314) (by decide +kernel) (by decide +kernel)
theorem um_X3_62 : Cond.methodLink RX3 62 (⟨"java/lang/IndexOutOfBoundsException", "<init>", "(Ljava/lang/String;)V"⟩ : MethodName) ∈ Uw := Uw_of (i := 324) (by decide +kernel) (by decide +kernel)
theorem uc_X3_65 : Cond.constant RX3 65 (99999) ∈ Uw := Uw_of (i := 338) (by decide +kernel) (by decide +kernel)
theorem um_X3_68 : Cond.methodLink RX3 68 yX1_minutesBetween ∈ Uw := Uw_of (i := 340) (by decide +kernel) (by decide +kernel)
theorem um_X3_72 : Cond.methodLink RX3 72 yX3_isSetOfSkills ∈ Uw := Uw_of (i := 363) (by decide +kernel) (by decide +kernel)
theorem um_X3_77 : Cond.methodLink RX3 77 yJx4a65c_size_8abf5 ∈ Uw := Uw_of (i := 137) (by decide +kernel) (by decide +kernel)
theorem ul_X3_81 : Cond.classLink RX3 81 "java/lang/IllegalStateException" ∈ Uw := Uw_of (i := 367) (by decide +kernel) (by decide +kernel)
theorem um_X3_85 : Cond.methodLink RX3 85 (⟨"java/lang/IllegalStateException", "<init>", "(Ljava/lang/String;)V"⟩ : MethodName) ∈ Uw := Uw_of (i := 377) (by decide +kernel) (by decide +kernel)
theorem ul_X3_86 : Cond.classLink RX3 86 RX0 ∈ Uw := Uw_of (i := 180) (by decide +kernel) (by decide +kernel)
theorem um_X3_88 : Cond.methodLink RX3 88 yX0_init ∈ Uw := Uw_of (i := 384) (by decide +kernel) (by decide +kernel)
theorem um_X3_91 : Cond.methodLink RX3 91 yJx4a65c_add_9ea2d ∈ Uw := Uw_of (i := 415) (by decide +kernel) (by decide +kernel)
theorem uf_X3_95 : Cond.fieldLink RX3 95 "HelpDesk$Agent" "number" "I" ∈ Uw := Uw_of (i := 389) (by decide +kernel) (by decide +kernel)
theorem gf_X3_95 {k : Kx} {cc : ByteArray} {R : Room} {nL : Nat} {ws : va_W} {c n pc : Nat} {lv : List (Option Value)} {st : List Value} {a : Nat} {fs : List Value} {v : Value} (F : Fx k cc RX3 R nL) (hd : decode cc pc = .ok (.getfield 95, 3)) (q : Nat) (hq : ws[q]? = some (a, .inr (1, fs))) (hv : fs[0]? = some v) (K : J k ws c n (pc + 3) lv (v :: st)) : J k ws c n pc lv (.ref a :: st) := j_getf F (C := RX0) (T := TX0) (N := 8) 0 inU_X0 rfl (by decide) uf_X3_95 (fun _ h => h) hd q hq hv K
theorem um_X3_98 : Cond.methodLink RX3 98 yX3_agentAt ∈ Uw := Uw_of (i := 474) (by decide +kernel) (by decide +kernel)
theorem uf_X3_104 : Cond.fieldLink RX3 104 "HelpDesk$Agent" "skills" "I" ∈ Uw := Uw_of (i := 394) (by decide +kernel) (by decide +kernel)
theorem gf_X3_104 {k : Kx} {cc : ByteArray} {R : Room} {nL : Nat} {ws : va_W} {c n pc : Nat} {lv : List (Option Value)} {st : List Value} {a : Nat} {fs : List Value} {v : Value} (F : Fx k cc RX3 R nL) (hd : decode cc pc = .ok (.getfield 104, 3)) (q : Nat) (hq : ws[q]? = some (a, .inr (1, fs))) (hv : fs[4]? = some v) (K : J k ws c n (pc + 3) lv (v :: st)) : J k ws c n pc lv (.ref a :: st) := j_getf F (C := RX0) (T := TX0) (N := 8) 4 inU_X0 rfl (by decide) uf_X3_104 (fun _ h => h) hd q hq hv K
theorem pf_X3_104 {k : Kx} {cc : ByteArray} {R : Room} {nL : Nat} {ws : va_W} {c n pc : Nat} {lv : List (Option Value)} {st : List Value} {a : Nat} {fs : List Value} {v : Value} (F : Fx k cc RX3 R nL) (hw : kw k = true) (hd : decode cc pc = .ok (.putfield 104, 3)) (hn : narrow (.int) v = v) (hf : fits (.int) v = true) (q : Nat) (hq : ws[q]? = some (a, .inr (1, fs))) (hl : 4 < fs.length) (ws' : va_W) (he : ws.set q (a, .inr (1, fs.set 4 v)) = ws') (K : J k ws' c n (pc + 3) lv st) : J k ws c n pc lv (v :: .ref a :: st) := j_putf F hw (C := RX0) (T := TX0) (N := 8) 4 inU_X0 tyX0 tyX0_ok nmX0 rfl (by decide) uf_X3_104 (fun _ h => h) rfl (by decide +kernel) hd hn hf q hq hl ws' he K
theorem uf_X3_107 : Cond.fieldLink RX3 107 "HelpDesk$Agent" "held" "LHelpDesk$Ticket;" ∈ Uw := Uw_of (i := 395) (by decide +kernel) (by decide +kernel)
theorem gf_X3_107 {k : Kx} {cc : ByteArray} {R : Room} {nL : Nat} {ws : va_W} {c n pc : Nat} {lv : List (Option Value)} {st : List Value} {a : Nat} {fs : List Value} {v : Value} (F : Fx k cc RX3 R nL) (hd : decode cc pc = .ok (.getfield 107, 3)) (q : Nat) (hq : ws[q]? = some (a, .inr (1, fs))) (hv : fs[5]? = some v) (K : J k ws c n (pc + 3) lv (v :: st)) : J k ws c n pc lv (.ref a :: st) := j_getf F (C := RX0) (T := TX0) (N := 8) 5 inU_X0 rfl (by decide) uf_X3_107 (fun _ h => h) hd q hq hv K
theorem pf_X3_107 {k : Kx} {cc : ByteArray} {R : Room} {nL : Nat} {ws : va_W} {c n pc : Nat} {lv : List (Option Value)} {st : List Value} {a : Nat} {fs : List Value} {v : Value} (F : Fx k cc RX3 R nL) (hw : kw k = true) (hd : decode cc pc = .ok (.putfield 107, 3)) (hn : narrow (.object "HelpDesk$Ticket") v = v) (hf : fits (.object "HelpDesk$Ticket") v = true) (q : Nat) (hq : ws[q]? = some (a, .inr (1, fs))) (hl : 5 < fs.length) (ws' : va_W) (he : ws.set q (a, .inr (1, fs.set 5 v)) = ws') (K : J k ws' c n (pc + 3) lv st) : J k ws c n pc lv (v :: .ref a :: st) := j_putf F hw (C := RX0) (T := TX0) (N := 8) 5 inU_X0 tyX0 tyX0_ok nmX0 rfl (by decide) uf_X3_107 (fun _ h => h) rfl (by decide +kernel) hd hn hf q hq hl ws' he K
theorem uf_X3_111 : Cond.fieldLink RX3 111 "HelpDesk$Ticket" "skill" "I" ∈ Uw := Uw_of (i := 530) (by decide +kernel) (by decide +kernel)
theorem gf_X3_111 {k : Kx} {cc : ByteArray} {R : Room} {nL : Nat} {ws : va_W} {c n pc : Nat} {lv : List (Option Value)} {st : List Value} {a : Nat} {fs : List Value} {v : Value} (F : Fx k cc RX3 R nL) (hd : decode cc pc = .ok (.getfield 111, 3)) (q : Nat) (hq : ws[q]? = some (a, .inr (3, fs))) (hv : fs[1]? = some v) (K : J k ws c n (pc + 3) lv (v :: st)) : J k ws c n pc lv (.ref a :: st) := j_getf F (C := RX2) (T := TX2) (N := 15) 1 inU_X2 rfl (by decide) uf_X3_111 (fun _ h => h) hd q hq hv K
theorem ul_X3_112 : Cond.classLink RX3 112 RX2 ∈ Uw := Uw_of (i := 159) (by decide +kernel) (by decide +kernel)
theorem um_X3_116 : Cond.methodLink RX3 116 yX0_hasSkill ∈ Uw := Uw_of (i := 480) (by decide +kernel) (by decide +kernel)
theorem um_X3_119 : Cond.methodLink RX3 119 yX3_handBack ∈ Uw := Uw_of (i := 484) (by decide +kernel) (by decide +kernel)
theorem um_X3_125 : Cond.methodLink RX3 125 yX3_toldOfAgent ∈ Uw := Uw_of (i := 198) (by decide +kernel) (by decide +kernel)
theorem um_X3_129 : Cond.methodLink RX3 129 yX3_firstByLiking ∈ Uw := Uw_of (i := 505) (by decide +kernel) (by decide +kernel)
theorem um_X3_133 : Cond.methodLink RX3 133 yX3_numberOfTicket ∈ Uw := Uw_of (i := 202) (by decide +kernel) (by decide +kernel)
theorem um_X3_141 : Cond.methodLink RX3 141 yX2_init ∈ Uw := Uw_of (i := 523) (by decide +kernel) (by decide +kernel)
theorem uf_X3_142 : Cond.fieldLink RX3 142 "HelpDesk$Ticket" "number" "I" ∈ Uw := Uw_of (i := 528) (by decide +kernel) (by decide +kernel)
theorem gf_X3_142 {k : Kx} {cc : ByteArray} {R : Room} {nL : Nat} {ws : va_W} {c n pc : Nat} {lv : List (Option Value)} {st : List Value} {a : Nat} {fs : List Value} {v : Value} (F : Fx k cc RX3 R nL) (hd : decode cc pc = .ok (.getfield 142, 3)) (q : Nat) (hq : ws[q]? = some (a, .inr (3, fs))) (hv : fs[0]? = some v) (K : J k ws c n (pc + 3) lv (v :: st)) : J k ws c n pc lv (.ref a :: st) := j_getf F (C := RX2) (T := TX2) (N := 15) 0 inU_X2 rfl (by decide) uf_X3_142 (fun _ h => h) hd q hq hv K
theorem um_X3_143 : Cond.methodLink RX3 143 yX3_ticketAt ∈ Uw := Uw_of (i := 587) (by decide +kernel) (by decide +kernel)
theorem uf_X3_147 : Cond.fieldLink RX3 147 "HelpDesk$Ticket" "state" "I" ∈ Uw := Uw_of (i := 536) (by decide +kernel) (by decide +kernel)
theorem gf_X3_147 {k : Kx} {cc : ByteArray} {R : Room} {nL : Nat} {ws : va_W} {c n pc : Nat} {lv : List (Option Value)} {st : List Value} {a : Nat} {fs : List Value} {v : Value} (F : Fx k cc RX3 R nL) (hd : decode cc pc = .ok (.getfield 147, 3)) (q : Nat) (hq : ws[q]? = some (a, .inr (3, fs))) (hv : fs[4]? = some v) (K : J k ws c n (pc + 3) lv (v :: st)) : J k ws c n pc lv (.ref a :: st) := j_getf F (C := RX2) (T := TX2) (N := 15) 4 inU_X2 rfl (by decide) uf_X3_147 (fun _ h => h) hd q hq hv K
theorem pf_X3_147 {k : Kx} {cc : ByteArray} {R : Room} {nL : Nat} {ws : va_W} {c n pc : Nat} {lv : List (Option Value)} {st : List Value} {a : Nat} {fs : List Value} {v : Value} (F : Fx k cc RX3 R nL) (hw : kw k = true) (hd : decode cc pc = .ok (.putfield 147, 3)) (hn : narrow (.int) v = v) (hf : fits (.int) v = true) (q : Nat) (hq : ws[q]? = some (a, .inr (3, fs))) (hl : 4 < fs.length) (ws' : va_W) (he : ws.set q (a, .inr (3, fs.set 4 v)) = ws') (K : J k ws' c n (pc + 3) lv st) : J k ws c n pc lv (v :: .ref a :: st) := j_putf F hw (C := RX2) (T := TX2) (N := 15) 4 inU_X2 tyX2 tyX2_ok nmX2 rfl (by decide) uf_X3_147 (fun _ h => h) rfl (by decide +kernel) hd hn hf q hq hl ws' he K
theorem uf_X3_152 : Cond.fieldLink RX3 152 "HelpDesk$Ticket" "priority" "I" ∈ Uw := Uw_of (i := 532) (by decide +kernel) (by decide +kernel)
theorem gf_X3_152 {k : Kx} {cc : ByteArray} {R : Room} {nL : Nat} {ws : va_W} {c n pc : Nat} {lv : List (Option Value)} {st : List Value} {a : Nat} {fs : List Value} {v : Value} (F : Fx k cc RX3 R nL) (hd : decode cc pc = .ok (.getfield 152, 3)) (q : Nat) (hq : ws[q]? = some (a, .inr (3, fs))) (hv : fs[2]? = some v) (K : J k ws c n (pc + 3) lv (v :: st)) : J k ws c n pc lv (.ref a :: st) := j_getf F (C := RX2) (T := TX2) (N := 15) 2 inU_X2 rfl (by decide) uf_X3_152 (fun _ h => h) hd q hq hv K
theorem pf_X3_152 {k : Kx} {cc : ByteArray} {R : Room} {nL : Nat} {ws : va_W} {c n pc : Nat} {lv : List (Option Value)} {st : List Value} {a : Nat} {fs : List Value} {v : Value} (F : Fx k cc RX3 R nL) (hw : kw k = true) (hd : decode cc pc = .ok (.putfield 152, 3)) (hn : narrow (.int) v = v) (hf : fits (.int) v = true) (q : Nat) (hq : ws[q]? = some (a, .inr (3, fs))) (hl : 2 < fs.length) (ws' : va_W) (he : ws.set q (a, .inr (3, fs.set 2 v)) = ws') (K : J k ws' c n (pc + 3) lv st) : J k ws c n pc lv (v :: .ref a :: st) := j_putf F hw (C := RX2) (T := TX2) (N := 15) 2 inU_X2 tyX2 tyX2_ok nmX2 rfl (by decide) uf_X3_152 (fun _ h => h) rfl (by decide +kernel) hd hn hf q hq hl ws' he K
theorem um_X3_157 : Cond.methodLink RX3 157 yX3_takeFromHolder ∈ Uw := Uw_of (i := 487) (by decide +kernel) (by decide +kernel)
theorem uf_X3_160 : Cond.fieldLink RX3 160 "HelpDesk$Ticket" "pausedAt" "I" ∈ Uw := Uw_of (i := 542) (by decide +kernel) (by decide +kernel)
theorem gf_X3_160 {k : Kx} {cc : ByteArray} {R : Room} {nL : Nat} {ws : va_W} {c n pc : Nat} {lv : List (Option Value)} {st : List Value} {a : Nat} {fs : List Value} {v : Value} (F : Fx k cc RX3 R nL) (hd : decode cc pc = .ok (.getfield 160, 3)) (q : Nat) (hq : ws[q]? = some (a, .inr (3, fs))) (hv : fs[9]? = some v) (K : J k ws c n (pc + 3) lv (v :: st)) : J k ws c n pc lv (.ref a :: st) := j_getf F (C := RX2) (T := TX2) (N := 15) 9 inU_X2 rfl (by decide) uf_X3_160 (fun _ h => h) hd q hq hv K
theorem pf_X3_160 {k : Kx} {cc : ByteArray} {R : Room} {nL : Nat} {ws : va_W} {c n pc : Nat} {lv : List (Option Value)} {st : List Value} {a : Nat} {fs : List Value} {v : Value} (F : Fx k cc RX3 R nL) (hw : kw k = true) (hd : decode cc pc = .ok (.putfield 160, 3)) (hn : narrow (.int) v = v) (hf : fits (.int) v = true) (q : Nat) (hq : ws[q]? = some (a, .inr (3, fs))) (hl : 9 < fs.length) (ws' : va_W) (he : ws.set q (a, .inr (3, fs.set 9 v)) = ws') (K : J k ws' c n (pc + 3) lv st) : J k ws c n pc lv (v :: .ref a :: st) := j_putf F hw (C := RX2) (T := TX2) (N := 15) 9 inU_X2 tyX2 tyX2_ok nmX2 rfl (by decide) uf_X3_160 (fun _ h => h) rfl (by decide +kernel) hd hn hf q hq hl ws' he K
theorem uf_X3_163 : Cond.fieldLink RX3 163 "HelpDesk$Ticket" "effort" "I" ∈ Uw := Uw_of (i := 534) (by decide +kernel) (by decide +kernel)
theorem gf_X3_163 {k : Kx} {cc : ByteArray} {R : Room} {nL : Nat} {ws : va_W} {c n pc : Nat} {lv : List (Option Value)} {st : List Value} {a : Nat} {fs : List Value} {v : Value} (F : Fx k cc RX3 R nL) (hd : decode cc pc = .ok (.getfield 163, 3)) (q : Nat) (hq : ws[q]? = some (a, .inr (3, fs))) (hv : fs[3]? = some v) (K : J k ws c n (pc + 3) lv (v :: st)) : J k ws c n pc lv (.ref a :: st) := j_getf F (C := RX2) (T := TX2) (N := 15) 3 inU_X2 rfl (by decide) uf_X3_163 (fun _ h => h) hd q hq hv K
theorem pf_X3_163 {k : Kx} {cc : ByteArray} {R : Room} {nL : Nat} {ws : va_W} {c n pc : Nat} {lv : List (Option Value)} {st : List Value} {a : Nat} {fs : List Value} {v : Value} (F : Fx k cc RX3 R nL) (hw : kw k = true) (hd : decode cc pc = .ok (.putfield 163, 3)) (hn : narrow (.int) v = v) (hf : fits (.int) v = true) (q : Nat) (hq : ws[q]? = some (a, .inr (3, fs))) (hl : 3 < fs.length) (ws' : va_W) (he : ws.set q (a, .inr (3, fs.set 3 v)) = ws') (K : J k ws' c n (pc + 3) lv st) : J k ws c n pc lv (v :: .ref a :: st) := j_putf F hw (C := RX2) (T := TX2) (N := 15) 3 inU_X2 tyX2 tyX2_ok nmX2 rfl (by decide) uf_X3_163 (fun _ h => h) rfl (by decide +kernel) hd hn hf q hq hl ws' he K
theorem uf_X3_166 : Cond.fieldLink RX3 166 "HelpDesk$Ticket" "done" "I" ∈ Uw := Uw_of (i := 538) (by decide +kernel) (by decide +kernel)
theorem gf_X3_166 {k : Kx} {cc : ByteArray} {R : Room} {nL : Nat} {ws : va_W} {c n pc : Nat} {lv : List (Option Value)} {st : List Value} {a : Nat} {fs : List Value} {v : Value} (F : Fx k cc RX3 R nL) (hd : decode cc pc = .ok (.getfield 166, 3)) (q : Nat) (hq : ws[q]? = some (a, .inr (3, fs))) (hv : fs[6]? = some v) (K : J k ws c n (pc + 3) lv (v :: st)) : J k ws c n pc lv (.ref a :: st) := j_getf F (C := RX2) (T := TX2) (N := 15) 6 inU_X2 rfl (by decide) uf_X3_166 (fun _ h => h) hd q hq hv K
theorem pf_X3_166 {k : Kx} {cc : ByteArray} {R : Room} {nL : Nat} {ws : va_W} {c n pc : Nat} {lv : List (Option Value)} {st : List Value} {a : Nat} {fs : List Value} {v : Value} (F : Fx k cc RX3 R nL) (hw : kw k = true) (hd : decode cc pc = .ok (.putfield 166, 3)) (hn : narrow (.int) v = v) (hf : fits (.int) v = true) (q : Nat) (hq : ws[q]? = some (a, .inr (3, fs))) (hl : 6 < fs.length) (ws' : va_W) (he : ws.set q (a, .inr (3, fs.set 6 v)) = ws') (K : J k ws' c n (pc + 3) lv st) : J k ws c n pc lv (v :: .ref a :: st) := j_putf F hw (C := RX2) (T := TX2) (N := 15) 6 inU_X2 tyX2 tyX2_ok nmX2 rfl (by decide) uf_X3_166 (fun _ h => h) rfl (by decide +kernel) hd hn hf q hq hl ws' he K
theorem um_X3_173 : Cond.methodLink RX3 173 yX2_isOpen ∈ Uw := Uw_of (i := 176) (by decide +kernel) (by decide +kernel)
theorem uf_X3_179 : Cond.fieldLink RX3 179 "HelpDesk$Ticket" "mergedInto" "LHelpDesk$Ticket;" ∈ Uw := Uw_of (i := 548) (by decide +kernel) (by decide +kernel)
theorem gf_X3_179 {k : Kx} {cc : ByteArray} {R : Room} {nL : Nat} {ws : va_W} {c n pc : Nat} {lv : List (Option Value)} {st : List Value} {a : Nat} {fs : List Value} {v : Value} (F : Fx k cc RX3 R nL) (hd : decode cc pc = .ok (.getfield 179, 3)) (q : Nat) (hq : ws[q]? = some (a, .inr (3, fs))) (hv : fs[14]? = some v) (K : J k ws c n (pc + 3) lv (v :: st)) : J k ws c n pc lv (.ref a :: st) := j_getf F (C := RX2) (T := TX2) (N := 15) 14 inU_X2 rfl (by decide) uf_X3_179 (fun _ h => h) hd q hq hv K
theorem pf_X3_179 {k : Kx} {cc : ByteArray} {R : Room} {nL : Nat} {ws : va_W} {c n pc : Nat} {lv : List (Option Value)} {st : List Value} {a : Nat} {fs : List Value} {v : Value} (F : Fx k cc RX3 R nL) (hw : kw k = true) (hd : decode cc pc = .ok (.putfield 179, 3)) (hn : narrow (.object "HelpDesk$Ticket") v = v) (hf : fits (.object "HelpDesk$Ticket") v = true) (q : Nat) (hq : ws[q]? = some (a, .inr (3, fs))) (hl : 14 < fs.length) (ws' : va_W) (he : ws.set q (a, .inr (3, fs.set 14 v)) = ws') (K : J k ws' c n (pc + 3) lv st) : J k ws c n pc lv (v :: .ref a :: st) := j_putf F hw (C := RX2) (T := TX2) (N := 15) 14 inU_X2 tyX2 tyX2_ok nmX2 rfl (by decide) uf_X3_179 (fun _ h => h) rfl (by decide +kernel) hd hn hf q hq hl ws' he K
theorem um_X3_182 : Cond.methodLink RX3 182 Lib.Math.min.name ∈ Uw := Uw_of (i := 618) (by decide +kernel) (by decide +kernel)
theorem uf_X3_187 : Cond.fieldLink RX3 187 "HelpDesk$Ticket" "age" "I" ∈ Uw := Uw_of (i := 537) (by decide +kernel) (by decide +kernel)
theorem gf_X3_187 {k : Kx} {cc : ByteArray} {R : Room} {nL : Nat} {ws : va_W} {c n pc : Nat} {lv : List (Option Value)} {st : List Value} {a : Nat} {fs : List Value} {v : Value} (F : Fx k cc RX3 R nL) (hd : decode cc pc = .ok (.getfield 187, 3)) (q : Nat) (hq : ws[q]? = some (a, .inr (3, fs))) (hv : fs[5]? = some v) (K : J k ws c n (pc + 3) lv (v :: st)) : J k ws c n pc lv (.ref a :: st) := j_getf F (C := RX2) (T := TX2) (N := 15) 5 inU_X2 rfl (by decide) uf_X3_187 (fun _ h => h) hd q hq hv K
theorem pf_X3_187 {k : Kx} {cc : ByteArray} {R : Room} {nL : Nat} {ws : va_W} {c n pc : Nat} {lv : List (Option Value)} {st : List Value} {a : Nat} {fs : List Value} {v : Value} (F : Fx k cc RX3 R nL) (hw : kw k = true) (hd : decode cc pc = .ok (.putfield 187, 3)) (hn : narrow (.int) v = v) (hf : fits (.int) v = true) (q : Nat) (hq : ws[q]? = some (a, .inr (3, fs))) (hl : 5 < fs.length) (ws' : va_W) (he : ws.set q (a, .inr (3, fs.set 5 v)) = ws') (K : J k ws' c n (pc + 3) lv st) : J k ws c n pc lv (v :: .ref a :: st) := j_putf F hw (C := RX2) (T := TX2) (N := 15) 5 inU_X2 tyX2 tyX2_ok nmX2 rfl (by decide) uf_X3_187 (fun _ h => h) rfl (by decide +kernel) hd hn hf q hq hl ws' he K
theorem um_X3_190 : Cond.methodLink RX3 190 Lib.Math.max.name ∈ Uw := Uw_of (i := 619) (by decide +kernel) (by decide +kernel)
theorem uf_X3_193 : Cond.fieldLink RX3 193 "HelpDesk$Ticket" "customerSet" "I" ∈ Uw := Uw_of (i := 545) (by decide +kernel) (by decide +kernel)
theorem gf_X3_193 {k : Kx} {cc : ByteArray} {R : Room} {nL : Nat} {ws : va_W} {c n pc : Nat} {lv : List (Option Value)} {st : List Value} {a : Nat} {fs : List Value} {v : Value} (F : Fx k cc RX3 R nL) (hd : decode cc pc = .ok (.getfield 193, 3)) (q : Nat) (hq : ws[q]? = some (a, .inr (3, fs))) (hv : fs[11]? = some v) (K : J k ws c n (pc + 3) lv (v :: st)) : J k ws c n pc lv (.ref a :: st) := j_getf F (C := RX2) (T := TX2) (N := 15) 11 inU_X2 rfl (by decide) uf_X3_193 (fun _ h => h) hd q hq hv K
theorem pf_X3_193 {k : Kx} {cc : ByteArray} {R : Room} {nL : Nat} {ws : va_W} {c n pc : Nat} {lv : List (Option Value)} {st : List Value} {a : Nat} {fs : List Value} {v : Value} (F : Fx k cc RX3 R nL) (hw : kw k = true) (hd : decode cc pc = .ok (.putfield 193, 3)) (hn : narrow (.int) v = v) (hf : fits (.int) v = true) (q : Nat) (hq : ws[q]? = some (a, .inr (3, fs))) (hl : 11 < fs.length) (ws' : va_W) (he : ws.set q (a, .inr (3, fs.set 11 v)) = ws') (K : J k ws' c n (pc + 3) lv st) : J k ws c n pc lv (v :: .ref a :: st) := j_putf F hw (C := RX2) (T := TX2) (N := 15) 11 inU_X2 tyX2 tyX2_ok nmX2 rfl (by decide) uf_X3_193 (fun _ h => h) rfl (by decide +kernel) hd hn hf q hq hl ws' he K
theorem uf_X3_198 : Cond.fieldLink RX3 198 "HelpDesk$Ticket" "solvedAt" "I" ∈ Uw := Uw_of (i := 543) (by decide +kernel) (by decide +kernel)
theorem gf_X3_198 {k : Kx} {cc : ByteArray} {R : Room} {nL : Nat} {ws : va_W} {c n pc : Nat} {lv : List (Option Value)} {st : List Value} {a : Nat} {fs : List Value} {v : Value} (F : Fx k cc RX3 R nL) (hd : decode cc pc = .ok (.getfield 198, 3)) (q : Nat) (hq : ws[q]? = some (a, .inr (3, fs))) (hv : fs[10]? = some v) (K : J k ws c n (pc + 3) lv (v :: st)) : J k ws c n pc lv (.ref a :: st) := j_getf F (C := RX2) (T := TX2) (N := 15) 10 inU_X2 rfl (by decide) uf_X3_198 (fun _ h => h) hd q hq hv K
theorem pf_X3_198 {k : Kx} {cc : ByteArray} {R : Room} {nL : Nat} {ws : va_W} {c n pc : Nat} {lv : List (Option Value)} {st : List Value} {a : Nat} {fs : List Value} {v : Value} (F : Fx k cc RX3 R nL) (hw : kw k = true) (hd : decode cc pc = .ok (.putfield 198, 3)) (hn : narrow (.int) v = v) (hf : fits (.int) v = true) (q : Nat) (hq : ws[q]? = some (a, .inr (3, fs))) (hl : 10 < fs.length) (ws' : va_W) (he : ws.set q (a, .inr (3, fs.set 10 v)) = ws') (K : J k ws' c n (pc + 3) lv st) : J k ws c n pc lv (v :: .ref a :: st) := j_putf F hw (C := RX2) (T := TX2) (N := 15) 10 inU_X2 tyX2 tyX2_ok nmX2 rfl (by decide) uf_X3_198 (fun _ h => h) rfl (by decide +kernel) hd hn hf q hq hl ws' he K
theorem uf_X3_203 : Cond.fieldLink RX3 203 "HelpDesk$Ticket" "timesReopened" "I" ∈ Uw := Uw_of (i := 541) (by decide +kernel) (by decide +kernel)
theorem gf_X3_203 {k : Kx} {cc : ByteArray} {R : Room} {nL : Nat} {ws : va_W} {c n pc : Nat} {lv : List (Option Value)} {st : List Value} {a : Nat} {fs : List Value} {v : Value} (F : Fx k cc RX3 R nL) (hd : decode cc pc = .ok (.getfield 203, 3)) (q : Nat) (hq : ws[q]? = some (a, .inr (3, fs))) (hv : fs[8]? = some v) (K : J k ws c n (pc + 3) lv (v :: st)) : J k ws c n pc lv (.ref a :: st) := j_getf F (C := RX2) (T := TX2) (N := 15) 8 inU_X2 rfl (by decide) uf_X3_203 (fun _ h => h) hd q hq hv K
theorem pf_X3_203 {k : Kx} {cc : ByteArray} {R : Room} {nL : Nat} {ws : va_W} {c n pc : Nat} {lv : List (Option Value)} {st : List Value} {a : Nat} {fs : List Value} {v : Value} (F : Fx k cc RX3 R nL) (hw : kw k = true) (hd : decode cc pc = .ok (.putfield 203, 3)) (hn : narrow (.int) v = v) (hf : fits (.int) v = true) (q : Nat) (hq : ws[q]? = some (a, .inr (3, fs))) (hl : 8 < fs.length) (ws' : va_W) (he : ws.set q (a, .inr (3, fs.set 8 v)) = ws') (K : J k ws' c n (pc + 3) lv st) : J k ws c n pc lv (v :: .ref a :: st) := j_putf F hw (C := RX2) (T := TX2) (N := 15) 8 inU_X2 tyX2 tyX2_ok nmX2 rfl (by decide) uf_X3_203 (fun _ h => h) rfl (by decide +kernel) hd hn hf q hq hl ws' he K
theorem um_X3_208 : Cond.methodLink RX3 208 yX3_toldOfTicket ∈ Uw := Uw_of (i := 215) (by decide +kernel) (by decide +kernel)
theorem um_X3_212 : Cond.methodLink RX3 212 yX3_mainOf ∈ Uw := Uw_of (i := 221) (by decide +kernel) (by decide +kernel)
theorem um_X3_216 : Cond.methodLink RX3 216 yX3_slackOf ∈ Uw := Uw_of (i := 168) (by decide +kernel) (by decide +kernel)
theorem um_X3_219 : Cond.methodLink RX3 219 yX1_minuteOfService ∈ Uw := Uw_of (i := 658) (by decide +kernel) (by decide +kernel)
theorem um_X3_226 : Cond.methodLink RX3 226 yX3_passMinute ∈ Uw := Uw_of (i := 673) (by decide +kernel) (by decide +kernel)
theorem um_X3_231 : Cond.methodLink RX3 231 yJx4a65c_get_915e3 ∈ Uw := Uw_of (i := 145) (by decide +kernel) (by decide +kernel)
theorem um_X3_235 : Cond.methodLink RX3 235 yX3_breaksAnswer ∈ Uw := Uw_of (i := 160) (by decide +kernel) (by decide +kernel)
theorem um_X3_239 : Cond.methodLink RX3 239 yX3_breaksSolution ∈ Uw := Uw_of (i := 164) (by decide +kernel) (by decide +kernel)
theorem uc_X3_242 : Cond.constantLong RX3 242 (193) ∈ Uw := Uw_of (i := 189) (by decide +kernel) (by decide +kernel)
theorem um_X3_244 : Cond.methodLink RX3 244 yX3_digested ∈ Uw := Uw_of (i := 190) (by decide +kernel) (by decide +kernel)
theorem um_X3_248 : Cond.methodLink RX3 248 yX3_digestedAgent ∈ Uw := Uw_of (i := 194) (by decide +kernel) (by decide +kernel)
theorem um_X3_252 : Cond.methodLink RX3 252 yX3_digestedTicket ∈ Uw := Uw_of (i := 212) (by decide +kernel) (by decide +kernel)
theorem um_X3_256 : Cond.methodLink RX3 256 yX3_sendHomeAgents ∈ Uw := Uw_of (i := 677) (by decide +kernel) (by decide +kernel)
theorem um_X3_259 : Cond.methodLink RX3 259 yX3_giveOutTickets ∈ Uw := Uw_of (i := 681) (by decide +kernel) (by decide +kernel)
theorem um_X3_262 : Cond.methodLink RX3 262 yX1_isService ∈ Uw := Uw_of (i := 688) (by decide +kernel) (by decide +kernel)
theorem um_X3_265 : Cond.methodLink RX3 265 yX3_ageTickets ∈ Uw := Uw_of (i := 692) (by decide +kernel) (by decide +kernel)
theorem um_X3_268 : Cond.methodLink RX3 268 yX3_work ∈ Uw := Uw_of (i := 696) (by decide +kernel) (by decide +kernel)
theorem um_X3_271 : Cond.methodLink RX3 271 yX0_isThere ∈ Uw := Uw_of (i := 205) (by decide +kernel) (by decide +kernel)
theorem um_X3_274 : Cond.methodLink RX3 274 yX3_give ∈ Uw := Uw_of (i := 685) (by decide +kernel) (by decide +kernel)
theorem uf_X3_278 : Cond.fieldLink RX3 278 "HelpDesk$Agent" "minutesWorked" "I" ∈ Uw := Uw_of (i := 396) (by decide +kernel) (by decide +kernel)
theorem gf_X3_278 {k : Kx} {cc : ByteArray} {R : Room} {nL : Nat} {ws : va_W} {c n pc : Nat} {lv : List (Option Value)} {st : List Value} {a : Nat} {fs : List Value} {v : Value} (F : Fx k cc RX3 R nL) (hd : decode cc pc = .ok (.getfield 278, 3)) (q : Nat) (hq : ws[q]? = some (a, .inr (1, fs))) (hv : fs[6]? = some v) (K : J k ws c n (pc + 3) lv (v :: st)) : J k ws c n pc lv (.ref a :: st) := j_getf F (C := RX0) (T := TX0) (N := 8) 6 inU_X0 rfl (by decide) uf_X3_278 (fun _ h => h) hd q hq hv K
theorem pf_X3_278 {k : Kx} {cc : ByteArray} {R : Room} {nL : Nat} {ws : va_W} {c n pc : Nat} {lv : List (Option Value)} {st : List Value} {a : Nat} {fs : List Value} {v : Value} (F : Fx k cc RX3 R nL) (hw : kw k = true) (hd : decode cc pc = .ok (.putfield 278, 3)) (hn : narrow (.int) v = v) (hf : fits (.int) v = true) (q : Nat) (hq : ws[q]? = some (a, .inr (1, fs))) (hl : 6 < fs.length) (ws' : va_W) (he : ws.set q (a, .inr (1, fs.set 6 v)) = ws') (K : J k ws' c n (pc + 3) lv st) : J k ws c n pc lv (v :: .ref a :: st) := j_putf F hw (C := RX0) (T := TX0) (N := 8) 6 inU_X0 tyX0 tyX0_ok nmX0 rfl (by decide) uf_X3_278 (fun _ h => h) rfl (by decide +kernel) hd hn hf q hq hl ws' he K
theorem um_X3_281 : Cond.methodLink RX3 281 yX3_solve ∈ Uw := Uw_of (i := 700) (by decide +kernel) (by decide +kernel)
theorem uf_X3_284 : Cond.fieldLink RX3 284 "HelpDesk$Agent" "timesSolved" "I" ∈ Uw := Uw_of (i := 397) (by decide +kernel) (by decide +kernel)
theorem gf_X3_284 {k : Kx} {cc : ByteArray} {R : Room} {nL : Nat} {ws : va_W} {c n pc : Nat} {lv : List (Option Value)} {st : List Value} {a : Nat} {fs : List Value} {v : Value} (F : Fx k cc RX3 R nL) (hd : decode cc pc = .ok (.getfield 284, 3)) (q : Nat) (hq : ws[q]? = some (a, .inr (1, fs))) (hv : fs[7]? = some v) (K : J k ws c n (pc + 3) lv (v :: st)) : J k ws c n pc lv (.ref a :: st) := j_getf F (C := RX0) (T := TX0) (N := 8) 7 inU_X0 rfl (by decide) uf_X3_284 (fun _ h => h) hd q hq hv K
theorem pf_X3_284 {k : Kx} {cc : ByteArray} {R : Room} {nL : Nat} {ws : va_W} {c n pc : Nat} {lv : List (Option Value)} {st : List Value} {a : Nat} {fs : List Value} {v : Value} (F : Fx k cc RX3 R nL) (hw : kw k = true) (hd : decode cc pc = .ok (.putfield 284, 3)) (hn : narrow (.int) v = v) (hf : fits (.int) v = true) (q : Nat) (hq : ws[q]? = some (a, .inr (1, fs))) (hl : 7 < fs.length) (ws' : va_W) (he : ws.set q (a, .inr (1, fs.set 7 v)) = ws') (K : J k ws' c n (pc + 3) lv st) : J k ws c n pc lv (v :: .ref a :: st) := j_putf F hw (C := RX0) (T := TX0) (N := 8) 7 inU_X0 tyX0 tyX0_ok nmX0 rfl (by decide) uf_X3_284 (fun _ h => h) rfl (by decide +kernel) hd hn hf q hq hl ws' he K
theorem uf_X3_287 : Cond.fieldLink RX3 287 "HelpDesk$Ticket" "holder" "LHelpDesk$Agent;" ∈ Uw := Uw_of (i := 546) (by decide +kernel) (by decide +kernel)
theorem gf_X3_287 {k : Kx} {cc : ByteArray} {R : Room} {nL : Nat} {ws : va_W} {c n pc : Nat} {lv : List (Option Value)} {st : List Value} {a : Nat} {fs : List Value} {v : Value} (F : Fx k cc RX3 R nL) (hd : decode cc pc = .ok (.getfield 287, 3)) (q : Nat) (hq : ws[q]? = some (a, .inr (3, fs))) (hv : fs[12]? = some v) (K : J k ws c n (pc + 3) lv (v :: st)) : J k ws c n pc lv (.ref a :: st) := j_getf F (C := RX2) (T := TX2) (N := 15) 12 inU_X2 rfl (by decide) uf_X3_287 (fun _ h => h) hd q hq hv K
theorem pf_X3_287 {k : Kx} {cc : ByteArray} {R : Room} {nL : Nat} {ws : va_W} {c n pc : Nat} {lv : List (Option Value)} {st : List Value} {a : Nat} {fs : List Value} {v : Value} (F : Fx k cc RX3 R nL) (hw : kw k = true) (hd : decode cc pc = .ok (.putfield 287, 3)) (hn : narrow (.object "HelpDesk$Agent") v = v) (hf : fits (.object "HelpDesk$Agent") v = true) (q : Nat) (hq : ws[q]? = some (a, .inr (3, fs))) (hl : 12 < fs.length) (ws' : va_W) (he : ws.set q (a, .inr (3, fs.set 12 v)) = ws') (K : J k ws' c n (pc + 3) lv st) : J k ws c n pc lv (v :: .ref a :: st) := j_putf F hw (C := RX2) (T := TX2) (N := 15) 12 inU_X2 tyX2 tyX2_ok nmX2 rfl (by decide) uf_X3_287 (fun _ h => h) rfl (by decide +kernel) hd hn hf q hq hl ws' he K
theorem uf_X3_291 : Cond.fieldLink RX3 291 "HelpDesk$Ticket" "latestHolder" "LHelpDesk$Agent;" ∈ Uw := Uw_of (i := 547) (by decide +kernel) (by decide +kernel)
theorem gf_X3_291 {k : Kx} {cc : ByteArray} {R : Room} {nL : Nat} {ws : va_W} {c n pc : Nat} {lv : List (Option Value)} {st : List Value} {a : Nat} {fs : List Value} {v : Value} (F : Fx k cc RX3 R nL) (hd : decode cc pc = .ok (.getfield 291, 3)) (q : Nat) (hq : ws[q]? = some (a, .inr (3, fs))) (hv : fs[13]? = some v) (K : J k ws c n (pc + 3) lv (v :: st)) : J k ws c n pc lv (.ref a :: st) := j_getf F (C := RX2) (T := TX2) (N := 15) 13 inU_X2 rfl (by decide) uf_X3_291 (fun _ h => h) hd q hq hv K
theorem pf_X3_291 {k : Kx} {cc : ByteArray} {R : Room} {nL : Nat} {ws : va_W} {c n pc : Nat} {lv : List (Option Value)} {st : List Value} {a : Nat} {fs : List Value} {v : Value} (F : Fx k cc RX3 R nL) (hw : kw k = true) (hd : decode cc pc = .ok (.putfield 291, 3)) (hn : narrow (.object "HelpDesk$Agent") v = v) (hf : fits (.object "HelpDesk$Agent") v = true) (q : Nat) (hq : ws[q]? = some (a, .inr (3, fs))) (hl : 13 < fs.length) (ws' : va_W) (he : ws.set q (a, .inr (3, fs.set 13 v)) = ws') (K : J k ws' c n (pc + 3) lv st) : J k ws c n pc lv (v :: .ref a :: st) := j_putf F hw (C := RX2) (T := TX2) (N := 15) 13 inU_X2 tyX2 tyX2_ok nmX2 rfl (by decide) uf_X3_291 (fun _ h => h) rfl (by decide +kernel) hd hn hf q hq hl ws' he K
theorem uf_X3_294 : Cond.fieldLink RX3 294 "HelpDesk$Ticket" "answerAge" "I" ∈ Uw := Uw_of (i := 540) (by decide +kernel) (by decide +kernel)
theorem gf_X3_294 {k : Kx} {cc : ByteArray} {R : Room} {nL : Nat} {ws : va_W} {c n pc : Nat} {lv : List (Option Value)} {st : List Value} {a : Nat} {fs : List Value} {v : Value} (F : Fx k cc RX3 R nL) (hd : decode cc pc = .ok (.getfield 294, 3)) (q : Nat) (hq : ws[q]? = some (a, .inr (3, fs))) (hv : fs[7]? = some v) (K : J k ws c n (pc + 3) lv (v :: st)) : J k ws c n pc lv (.ref a :: st) := j_getf F (C := RX2) (T := TX2) (N := 15) 7 inU_X2 rfl (by decide) uf_X3_294 (fun _ h => h) hd q hq hv K
theorem pf_X3_294 {k : Kx} {cc : ByteArray} {R : Room} {nL : Nat} {ws : va_W} {c n pc : Nat} {lv : List (Option Value)} {st : List Value} {a : Nat} {fs : List Value} {v : Value} (F : Fx k cc RX3 R nL) (hw : kw k = true) (hd : decode cc pc = .ok (.putfield 294, 3)) (hn : narrow (.int) v = v) (hf : fits (.int) v = true) (q : Nat) (hq : ws[q]? = some (a, .inr (3, fs))) (hl : 7 < fs.length) (ws' : va_W) (he : ws.set q (a, .inr (3, fs.set 7 v)) = ws') (K : J k ws' c n (pc + 3) lv st) : J k ws c n pc lv (v :: .ref a :: st) := j_putf F hw (C := RX2) (T := TX2) (N := 15) 7 inU_X2 tyX2 tyX2_ok nmX2 rfl (by decide) uf_X3_294 (fun _ h => h) rfl (by decide +kernel) hd hn hf q hq hl ws' he K
theorem um_X3_297 : Cond.methodLink RX3 297 yX3_isLikedMore ∈ Uw := Uw_of (i := 509) (by decide +kernel) (by decide +kernel)
theorem um_X3_301 : Cond.methodLink RX3 301 yX3_numberOfAgent ∈ Uw := Uw_of (i := 218) (by decide +kernel) (by decide +kernel)
theorem uc_X3_305 : Cond.constantLong RX3 305 (31) ∈ Uw := Uw_of (i := 193) (by decide +kernel) (by decide +kernel)
theorem um_X4_1 : Cond.methodLink RX4 1 objectInit ∈ Uw := Uw_of (i := 717) (by decide +kernel) (by decide +kernel)
theorem uf_X4_7 : Cond.fieldLink RX4 7 "HelpDeskModel" "opening" "I" ∈ Uw := Uw_of (i := 720) (by decide +kernel) (by decide +kernel)
theorem gf_X4_7 {k : Kx} {cc : ByteArray} {R : Room} {nL : Nat} {ws : va_W} {c n pc : Nat} {lv : List (Option Value)} {st : List Value} {a : Nat} {fs : List Value} {v : Value} (F : Fx k cc RX4 R nL) (hd : decode cc pc = .ok (.getfield 7, 3)) (q : Nat) (hq : ws[q]? = some (a, .inr (5, fs))) (hv : fs[2]? = some v) (K : J k ws c n (pc + 3) lv (v :: st)) : J k ws c n pc lv (.ref a :: st) := j_getf F (C := RX4) (T := TX4) (N := 26) 2 inU_X4 rfl (by decide) uf_X4_7 (fun _ h => h) hd q hq hv K
theorem pf_X4_7 {k : Kx} {cc : ByteArray} {R : Room} {nL : Nat} {ws : va_W} {c n pc : Nat} {lv : List (Option Value)} {st : List Value} {a : Nat} {fs : List Value} {v : Value} (F : Fx k cc RX4 R nL) (hw : kw k = true) (hd : decode cc pc = .ok (.putfield 7, 3)) (hn : narrow (.int) v = v) (hf : fits (.int) v = true) (q : Nat) (hq : ws[q]? = some (a, .inr (5, fs))) (hl : 2 < fs.length) (ws' : va_W) (he : ws.set q (a, .inr (5, fs.set 2 v)) = ws') (K : J k ws' c n (pc + 3) lv st) : J k ws c n pc lv (v :: .ref a :: st) := j_putf F hw (C := RX4) (T := TX4) (N := 26) 2 inU_X4 tyX4 tyX4_ok nmX4 rfl (by decide) uf_X4_7 (fun _ h => h) rfl (by decide +kernel) hd hn hf q hq hl ws' he K
theorem uf_X4_13 : Cond.fieldLink RX4 13 "HelpDeskModel" "closing" "I" ∈ Uw := Uw_of (i := 721) (by decide +kernel) (by decide +kernel)
theorem gf_X4_13 {k : Kx} {cc : ByteArray} {R : Room} {nL : Nat} {ws : va_W} {c n pc : Nat} {lv : List (Option Value)} {st : List Value} {a : Nat} {fs : List Value} {v : Value} (F : Fx k cc RX4 R nL) (hd : decode cc pc = .ok (.getfield 13, 3)) (q : Nat) (hq : ws[q]? = some (a, .inr (5, fs))) (hv : fs[3]? = some v) (K : J k ws c n (pc + 3) lv (v :: st)) : J k ws c n pc lv (.ref a :: st) := j_getf F (C := RX4) (T := TX4) (N := 26) 3 inU_X4 rfl (by decide) uf_X4_13 (fun _ h => h) hd q hq hv K
theorem pf_X4_13 {k : Kx} {cc : ByteArray} {R : Room} {nL : Nat} {ws : va_W} {c n pc : Nat} {lv : List (Option Value)} {st : List Value} {a : Nat} {fs : List Value} {v : Value} (F : Fx k cc RX4 R nL) (hw : kw k = true) (hd : decode cc pc = .ok (.putfield 13, 3)) (hn : narrow (.int) v = v) (hf : fits (.int) v = true) (q : Nat) (hq : ws[q]? = some (a, .inr (5, fs))) (hl : 3 < fs.length) (ws' : va_W) (he : ws.set q (a, .inr (5, fs.set 3 v)) = ws') (K : J k ws' c n (pc + 3) lv st) : J k ws c n pc lv (v :: .ref a :: st) := j_putf F hw (C := RX4) (T := TX4) (N := 26) 3 inU_X4 tyX4 tyX4_ok nmX4 rfl (by decide) uf_X4_13 (fun _ h => h) rfl (by decide +kernel) hd hn hf q hq hl ws' he K
theorem uf_X4_16 : Cond.fieldLink RX4 16 "HelpDeskModel" "answers" "[I" ∈ Uw := Uw_of (i := 722) (by decide +kernel) (by decide +kernel)
theorem gf_X4_16 {k : Kx} {cc : ByteArray} {R : Room} {nL : Nat} {ws : va_W} {c n pc : Nat} {lv : List (Option Value)} {st : List Value} {a : Nat} {fs : List Value} {v : Value} (F : Fx k cc RX4 R nL) (hd : decode cc pc = .ok (.getfield 16, 3)) (q : Nat) (hq : ws[q]? = some (a, .inr (5, fs))) (hv : fs[4]? = some v) (K : J k ws c n (pc + 3) lv (v :: st)) : J k ws c n pc lv (.ref a :: st) := j_getf F (C := RX4) (T := TX4) (N := 26) 4 inU_X4 rfl (by decide) uf_X4_16 (fun _ h => h) hd q hq hv K
theorem pf_X4_16 {k : Kx} {cc : ByteArray} {R : Room} {nL : Nat} {ws : va_W} {c n pc : Nat} {lv : List (Option Value)} {st : List Value} {a : Nat} {fs : List Value} {v : Value} (F : Fx k cc RX4 R nL) (hw : kw k = true) (hin : (kmeth k).name = "<init>") (hd : decode cc pc = .ok (.putfield 16, 3)) (hn : narrow (.array .int) v = v) (hf : fits (.array .int) v = true) (q : Nat) (hq : ws[q]? = some (a, .inr (5, fs))) (hl : 4 < fs.length) (ws' : va_W) (he : ws.set q (a, .inr (5, fs.set 4 v)) = ws') (K : J k ws' c n (pc + 3) lv st) : J k ws c n pc lv (v :: .ref a :: st) := j_putfF F hw hin (C := RX4) (T := TX4) (N := 26) 4 inU_X4 tyX4 tyX4_ok nmX4 rfl (by decide) uf_X4_16 (fun _ h => h) rfl rfl (by decide +kernel) hd hn hf q hq hl ws' he K
theorem uf_X4_20 : Cond.fieldLink RX4 20 "HelpDeskModel" "solutions" "[I" ∈ Uw := Uw_of (i := 723) (by decide +kernel) (by decide +kernel)
theorem gf_X4_20 {k : Kx} {cc : ByteArray} {R : Room} {nL : Nat} {ws : va_W} {c n pc : Nat} {lv : List (Option Value)} {st : List Value} {a : Nat} {fs : List Value} {v : Value} (F : Fx k cc RX4 R nL) (hd : decode cc pc = .ok (.getfield 20, 3)) (q : Nat) (hq : ws[q]? = some (a, .inr (5, fs))) (hv : fs[5]? = some v) (K : J k ws c n (pc + 3) lv (v :: st)) : J k ws c n pc lv (.ref a :: st) := j_getf F (C := RX4) (T := TX4) (N := 26) 5 inU_X4 rfl (by decide) uf_X4_20 (fun _ h => h) hd q hq hv K
theorem pf_X4_20 {k : Kx} {cc : ByteArray} {R : Room} {nL : Nat} {ws : va_W} {c n pc : Nat} {lv : List (Option Value)} {st : List Value} {a : Nat} {fs : List Value} {v : Value} (F : Fx k cc RX4 R nL) (hw : kw k = true) (hin : (kmeth k).name = "<init>") (hd : decode cc pc = .ok (.putfield 20, 3)) (hn : narrow (.array .int) v = v) (hf : fits (.array .int) v = true) (q : Nat) (hq : ws[q]? = some (a, .inr (5, fs))) (hl : 5 < fs.length) (ws' : va_W) (he : ws.set q (a, .inr (5, fs.set 5 v)) = ws') (K : J k ws' c n (pc + 3) lv st) : J k ws c n pc lv (v :: .ref a :: st) := j_putfF F hw hin (C := RX4) (T := TX4) (N := 26) 5 inU_X4 tyX4 tyX4_ok nmX4 rfl (by decide) uf_X4_20 (fun _ h => h) rfl rfl (by decide +kernel) hd hn hf q hq hl ws' he K
theorem uf_X4_23 : Cond.fieldLink RX4 23 "HelpDeskModel" "skills" "[I" ∈ Uw := Uw_of (i := 725) (by decide +kernel) (by decide +kernel)
theorem gf_X4_23 {k : Kx} {cc : ByteArray} {R : Room} {nL : Nat} {ws : va_W} {c n pc : Nat} {lv : List (Option Value)} {st : List Value} {a : Nat} {fs : List Value} {v : Value} (F : Fx k cc RX4 R nL) (hd : decode cc pc = .ok (.getfield 23, 3)) (q : Nat) (hq : ws[q]? = some (a, .inr (5, fs))) (hv : fs[7]? = some v) (K : J k ws c n (pc + 3) lv (v :: st)) : J k ws c n pc lv (.ref a :: st) := j_getf F (C := RX4) (T := TX4) (N := 26) 7 inU_X4 rfl (by decide) uf_X4_23 (fun _ h => h) hd q hq hv K
theorem pf_X4_23 {k : Kx} {cc : ByteArray} {R : Room} {nL : Nat} {ws : va_W} {c n pc : Nat} {lv : List (Option Value)} {st : List Value} {a : Nat} {fs : List Value} {v : Value} (F : Fx k cc RX4 R nL) (hw : kw k = true) (hin : (kmeth k).name = "<init>") (hd : decode cc pc = .ok (.putfield 23, 3)) (hn : narrow (.array .int) v = v) (hf : fits (.array .int) v = true) (q : Nat) (hq : ws[q]? = some (a, .inr (5, fs))) (hl : 7 < fs.length) (ws' : va_W) (he : ws.set q (a, .inr (5, fs.set 7 v)) = ws') (K : J k ws' c n (pc + 3) lv st) : J k ws c n pc lv (v :: .ref a :: st) := j_putfF F hw hin (C := RX4) (T := TX4) (N := 26) 7 inU_X4 tyX4 tyX4_ok nmX4 rfl (by decide) uf_X4_23 (fun _ h => h) rfl rfl (by decide +kernel) hd hn hf q hq hl ws' he K
theorem uf_X4_26 : Cond.fieldLink RX4 26 "HelpDeskModel" "days" "[I" ∈ Uw := Uw_of (i := 726) (by decide +kernel) (by decide +kernel)
theorem gf_X4_26 {k : Kx} {cc : ByteArray} {R : Room} {nL : Nat} {ws : va_W} {c n pc : Nat} {lv : List (Option Value)} {st : List Value} {a : Nat} {fs : List Value} {v : Value} (F : Fx k cc RX4 R nL) (hd : decode cc pc = .ok (.getfield 26, 3)) (q : Nat) (hq : ws[q]? = some (a, .inr (5, fs))) (hv : fs[8]? = some v) (K : J k ws c n (pc + 3) lv (v :: st)) : J k ws c n pc lv (.ref a :: st) := j_getf F (C := RX4) (T := TX4) (N := 26) 8 inU_X4 rfl (by decide) uf_X4_26 (fun _ h => h) hd q hq hv K
theorem pf_X4_26 {k : Kx} {cc : ByteArray} {R : Room} {nL : Nat} {ws : va_W} {c n pc : Nat} {lv : List (Option Value)} {st : List Value} {a : Nat} {fs : List Value} {v : Value} (F : Fx k cc RX4 R nL) (hw : kw k = true) (hin : (kmeth k).name = "<init>") (hd : decode cc pc = .ok (.putfield 26, 3)) (hn : narrow (.array .int) v = v) (hf : fits (.array .int) v = true) (q : Nat) (hq : ws[q]? = some (a, .inr (5, fs))) (hl : 8 < fs.length) (ws' : va_W) (he : ws.set q (a, .inr (5, fs.set 8 v)) = ws') (K : J k ws' c n (pc + 3) lv st) : J k ws c n pc lv (v :: .ref a :: st) := j_putfF F hw hin (C := RX4) (T := TX4) (N := 26) 8 inU_X4 tyX4 tyX4_ok nmX4 rfl (by decide) uf_X4_26 (fun _ h => h) rfl rfl (by decide +kernel) hd hn hf q hq hl ws' he K
theorem uf_X4_29 : Cond.fieldLink RX4 29 "HelpDeskModel" "begins" "[I" ∈ Uw := Uw_of (i := 727) (by decide +kernel) (by decide +kernel)
theorem gf_X4_29 {k : Kx} {cc : ByteArray} {R : Room} {nL : Nat} {ws : va_W} {c n pc : Nat} {lv : List (Option Value)} {st : List Value} {a : Nat} {fs : List Value} {v : Value} (F : Fx k cc RX4 R nL) (hd : decode cc pc = .ok (.getfield 29, 3)) (q : Nat) (hq : ws[q]? = some (a, .inr (5, fs))) (hv : fs[9]? = some v) (K : J k ws c n (pc + 3) lv (v :: st)) : J k ws c n pc lv (.ref a :: st) := j_getf F (C := RX4) (T := TX4) (N := 26) 9 inU_X4 rfl (by decide) uf_X4_29 (fun _ h => h) hd q hq hv K
theorem pf_X4_29 {k : Kx} {cc : ByteArray} {R : Room} {nL : Nat} {ws : va_W} {c n pc : Nat} {lv : List (Option Value)} {st : List Value} {a : Nat} {fs : List Value} {v : Value} (F : Fx k cc RX4 R nL) (hw : kw k = true) (hin : (kmeth k).name = "<init>") (hd : decode cc pc = .ok (.putfield 29, 3)) (hn : narrow (.array .int) v = v) (hf : fits (.array .int) v = true) (q : Nat) (hq : ws[q]? = some (a, .inr (5, fs))) (hl : 9 < fs.length) (ws' : va_W) (he : ws.set q (a, .inr (5, fs.set 9 v)) = ws') (K : J k ws' c n (pc + 3) lv st) : J k ws c n pc lv (v :: .ref a :: st) := j_putfF F hw hin (C := RX4) (T := TX4) (N := 26) 9 inU_X4 tyX4 tyX4_ok nmX4 rfl (by decide) uf_X4_29 (fun _ h => h) rfl rfl (by decide +kernel) hd hn hf q hq hl ws' he K
theorem uf_X4_32 : Cond.fieldLink RX4 32 "HelpDeskModel" "ends" "[I" ∈ Uw := Uw_of (i := 728) (by decide +kernel) (by decide +kernel)
theorem gf_X4_32 {k : Kx} {cc : ByteArray} {R : Room} {nL : Nat} {ws : va_W} {c n pc : Nat} {lv : List (Option Value)} {st : List Value} {a : Nat} {fs : List Value} {v : Value} (F : Fx k cc RX4 R nL) (hd : decode cc pc = .ok (.getfield 32, 3)) (q : Nat) (hq : ws[q]? = some (a, .inr (5, fs))) (hv : fs[10]? = some v) (K : J k ws c n (pc + 3) lv (v :: st)) : J k ws c n pc lv (.ref a :: st) := j_getf F (C := RX4) (T := TX4) (N := 26) 10 inU_X4 rfl (by decide) uf_X4_32 (fun _ h => h) hd q hq hv K
theorem pf_X4_32 {k : Kx} {cc : ByteArray} {R : Room} {nL : Nat} {ws : va_W} {c n pc : Nat} {lv : List (Option Value)} {st : List Value} {a : Nat} {fs : List Value} {v : Value} (F : Fx k cc RX4 R nL) (hw : kw k = true) (hin : (kmeth k).name = "<init>") (hd : decode cc pc = .ok (.putfield 32, 3)) (hn : narrow (.array .int) v = v) (hf : fits (.array .int) v = true) (q : Nat) (hq : ws[q]? = some (a, .inr (5, fs))) (hl : 10 < fs.length) (ws' : va_W) (he : ws.set q (a, .inr (5, fs.set 10 v)) = ws') (K : J k ws' c n (pc + 3) lv st) : J k ws c n pc lv (v :: .ref a :: st) := j_putfF F hw hin (C := RX4) (T := TX4) (N := 26) 10 inU_X4 tyX4 tyX4_ok nmX4 rfl (by decide) uf_X4_32 (fun _ h => h) rfl rfl (by decide +kernel) hd hn hf q hq hl ws' he K
theorem uf_X4_35 : Cond.fieldLink RX4 35 "HelpDeskModel" "hands" "[I" ∈ Uw := Uw_of (i := 729) (by decide +kernel) (by decide +kernel)
theorem gf_X4_35 {k : Kx} {cc : ByteArray} {R : Room} {nL : Nat} {ws : va_W} {c n pc : Nat} {lv : List (Option Value)} {st : List Value} {a : Nat} {fs : List Value} {v : Value} (F : Fx k cc RX4 R nL) (hd : decode cc pc = .ok (.getfield 35, 3)) (q : Nat) (hq : ws[q]? = some (a, .inr (5, fs))) (hv : fs[11]? = some v) (K : J k ws c n (pc + 3) lv (v :: st)) : J k ws c n pc lv (.ref a :: st) := j_getf F (C := RX4) (T := TX4) (N := 26) 11 inU_X4 rfl (by decide) uf_X4_35 (fun _ h => h) hd q hq hv K
theorem pf_X4_35 {k : Kx} {cc : ByteArray} {R : Room} {nL : Nat} {ws : va_W} {c n pc : Nat} {lv : List (Option Value)} {st : List Value} {a : Nat} {fs : List Value} {v : Value} (F : Fx k cc RX4 R nL) (hw : kw k = true) (hin : (kmeth k).name = "<init>") (hd : decode cc pc = .ok (.putfield 35, 3)) (hn : narrow (.array .int) v = v) (hf : fits (.array .int) v = true) (q : Nat) (hq : ws[q]? = some (a, .inr (5, fs))) (hl : 11 < fs.length) (ws' : va_W) (he : ws.set q (a, .inr (5, fs.set 11 v)) = ws') (K : J k ws' c n (pc + 3) lv st) : J k ws c n pc lv (v :: .ref a :: st) := j_putfF F hw hin (C := RX4) (T := TX4) (N := 26) 11 inU_X4 tyX4 tyX4_ok nmX4 rfl (by decide) uf_X4_35 (fun _ h => h) rfl rfl (by decide +kernel) hd hn hf q hq hl ws' he K
theorem uf_X4_38 : Cond.fieldLink RX4 38 "HelpDeskModel" "worked" "[I" ∈ Uw := Uw_of (i := 730) (by decide +kernel) (by decide +kernel)
theorem gf_X4_38 {k : Kx} {cc : ByteArray} {R : Room} {nL : Nat} {ws : va_W} {c n pc : Nat} {lv : List (Option Value)} {st : List Value} {a : Nat} {fs : List Value} {v : Value} (F : Fx k cc RX4 R nL) (hd : decode cc pc = .ok (.getfield 38, 3)) (q : Nat) (hq : ws[q]? = some (a, .inr (5, fs))) (hv : fs[12]? = some v) (K : J k ws c n (pc + 3) lv (v :: st)) : J k ws c n pc lv (.ref a :: st) := j_getf F (C := RX4) (T := TX4) (N := 26) 12 inU_X4 rfl (by decide) uf_X4_38 (fun _ h => h) hd q hq hv K
theorem pf_X4_38 {k : Kx} {cc : ByteArray} {R : Room} {nL : Nat} {ws : va_W} {c n pc : Nat} {lv : List (Option Value)} {st : List Value} {a : Nat} {fs : List Value} {v : Value} (F : Fx k cc RX4 R nL) (hw : kw k = true) (hin : (kmeth k).name = "<init>") (hd : decode cc pc = .ok (.putfield 38, 3)) (hn : narrow (.array .int) v = v) (hf : fits (.array .int) v = true) (q : Nat) (hq : ws[q]? = some (a, .inr (5, fs))) (hl : 12 < fs.length) (ws' : va_W) (he : ws.set q (a, .inr (5, fs.set 12 v)) = ws') (K : J k ws' c n (pc + 3) lv st) : J k ws c n pc lv (v :: .ref a :: st) := j_putfF F hw hin (C := RX4) (T := TX4) (N := 26) 12 inU_X4 tyX4 tyX4_ok nmX4 rfl (by decide) uf_X4_38 (fun _ h => h) rfl rfl (by decide +kernel) hd hn hf q hq hl ws' he K
theorem uf_X4_41 : Cond.fieldLink RX4 41 "HelpDeskModel" "solved" "[I" ∈ Uw := Uw_of (i := 731) (by decide +kernel) (by decide +kernel)
theorem gf_X4_41 {k : Kx} {cc : ByteArray} {R : Room} {nL : Nat} {ws : va_W} {c n pc : Nat} {lv : List (Option Value)} {st : List Value} {a : Nat} {fs : List Value} {v : Value} (F : Fx k cc RX4 R nL) (hd : decode cc pc = .ok (.getfield 41, 3)) (q : Nat) (hq : ws[q]? = some (a, .inr (5, fs))) (hv : fs[13]? = some v) (K : J k ws c n (pc + 3) lv (v :: st)) : J k ws c n pc lv (.ref a :: st) := j_getf F (C := RX4) (T := TX4) (N := 26) 13 inU_X4 rfl (by decide) uf_X4_41 (fun _ h => h) hd q hq hv K
theorem pf_X4_41 {k : Kx} {cc : ByteArray} {R : Room} {nL : Nat} {ws : va_W} {c n pc : Nat} {lv : List (Option Value)} {st : List Value} {a : Nat} {fs : List Value} {v : Value} (F : Fx k cc RX4 R nL) (hw : kw k = true) (hin : (kmeth k).name = "<init>") (hd : decode cc pc = .ok (.putfield 41, 3)) (hn : narrow (.array .int) v = v) (hf : fits (.array .int) v = true) (q : Nat) (hq : ws[q]? = some (a, .inr (5, fs))) (hl : 13 < fs.length) (ws' : va_W) (he : ws.set q (a, .inr (5, fs.set 13 v)) = ws') (K : J k ws' c n (pc + 3) lv st) : J k ws c n pc lv (v :: .ref a :: st) := j_putfF F hw hin (C := RX4) (T := TX4) (N := 26) 13 inU_X4 tyX4 tyX4_ok nmX4 rfl (by decide) uf_X4_41 (fun _ h => h) rfl rfl (by decide +kernel) hd hn hf q hq hl ws' he K
theorem uf_X4_44 : Cond.fieldLink RX4 44 "HelpDeskModel" "needs" "[I" ∈ Uw := Uw_of (i := 733) (by decide +kernel) (by decide +kernel)
theorem gf_X4_44 {k : Kx} {cc : ByteArray} {R : Room} {nL : Nat} {ws : va_W} {c n pc : Nat} {lv : List (Option Value)} {st : List Value} {a : Nat} {fs : List Value} {v : Value} (F : Fx k cc RX4 R nL) (hd : decode cc pc = .ok (.getfield 44, 3)) (q : Nat) (hq : ws[q]? = some (a, .inr (5, fs))) (hv : fs[15]? = some v) (K : J k ws c n (pc + 3) lv (v :: st)) : J k ws c n pc lv (.ref a :: st) := j_getf F (C := RX4) (T := TX4) (N := 26) 15 inU_X4 rfl (by decide) uf_X4_44 (fun _ h => h) hd q hq hv K
theorem pf_X4_44 {k : Kx} {cc : ByteArray} {R : Room} {nL : Nat} {ws : va_W} {c n pc : Nat} {lv : List (Option Value)} {st : List Value} {a : Nat} {fs : List Value} {v : Value} (F : Fx k cc RX4 R nL) (hw : kw k = true) (hin : (kmeth k).name = "<init>") (hd : decode cc pc = .ok (.putfield 44, 3)) (hn : narrow (.array .int) v = v) (hf : fits (.array .int) v = true) (q : Nat) (hq : ws[q]? = some (a, .inr (5, fs))) (hl : 15 < fs.length) (ws' : va_W) (he : ws.set q (a, .inr (5, fs.set 15 v)) = ws') (K : J k ws' c n (pc + 3) lv st) : J k ws c n pc lv (v :: .ref a :: st) := j_putfF F hw hin (C := RX4) (T := TX4) (N := 26) 15 inU_X4 tyX4 tyX4_ok nmX4 rfl (by decide) uf_X4_44 (fun _ h => h) rfl rfl (by decide +kernel) hd hn hf q hq hl ws' he K
theorem uf_X4_47 : Cond.fieldLink RX4 47 "HelpDeskModel" "priorities" "[I" ∈ Uw := Uw_of (i := 734) (by decide +kernel) (by decide +kernel)
theorem gf_X4_47 {k : Kx} {cc : ByteArray} {R : Room} {nL : Nat} {ws : va_W} {c n pc : Nat} {lv : List (Option Value)} {st : List Value} {a : Nat} {fs : List Value} {v : Value} (F : Fx k cc RX4 R nL) (hd : decode cc pc = .ok (.getfield 47, 3)) (q : Nat) (hq : ws[q]? = some (a, .inr (5, fs))) (hv : fs[16]? = some v) (K : J k ws c n (pc + 3) lv (v :: st)) : J k ws c n pc lv (.ref a :: st) := j_getf F (C := RX4) (T := TX4) (N := 26) 16 inU_X4 rfl (by decide) uf_X4_47 (fun _ h => h) hd q hq hv K
theorem pf_X4_47 {k : Kx} {cc : ByteArray} {R : Room} {nL : Nat} {ws : va_W} {c n pc : Nat} {lv : List (Option Value)} {st : List Value} {a : Nat} {fs : List Value} {v : Value} (F : Fx k cc RX4 R nL) (hw : kw k = true) (hin : (kmeth k).name = "<init>") (hd : decode cc pc = .ok (.putfield 47, 3)) (hn : narrow (.array .int) v = v) (hf : fits (.array .int) v = true) (q : Nat) (hq : ws[q]? = some (a, .inr (5, fs))) (hl : 16 < fs.length) (ws' : va_W) (he : ws.set q (a, .inr (5, fs.set 16 v)) = ws') (K : J k ws' c n (pc + 3) lv st) : J k ws c n pc lv (v :: .ref a :: st) := j_putfF F hw hin (C := RX4) (T := TX4) (N := 26) 16 inU_X4 tyX4 tyX4_ok nmX4 rfl (by decide) uf_X4_47 (fun _ h => h) rfl rfl (by decide +kernel) hd hn hf q hq hl ws' he K
theorem uf_X4_50 : Cond.fieldLink RX4 50 "HelpDeskModel" "efforts" "[I" ∈ Uw := Uw_of (i := 735) (by decide +kernel) (by decide +kernel)
theorem gf_X4_50 {k : Kx} {cc : ByteArray} {R : Room} {nL : Nat} {ws : va_W} {c n pc : Nat} {lv : List (Option Value)} {st : List Value} {a : Nat} {fs : List Value} {v : Value} (F : Fx k cc RX4 R nL) (hd : decode cc pc = .ok (.getfield 50, 3)) (q : Nat) (hq : ws[q]? = some (a, .inr (5, fs))) (hv : fs[17]? = some v) (K : J k ws c n (pc + 3) lv (v :: st)) : J k ws c n pc lv (.ref a :: st) := j_getf F (C := RX4) (T := TX4) (N := 26) 17 inU_X4 rfl (by decide) uf_X4_50 (fun _ h => h) hd q hq hv K
theorem pf_X4_50 {k : Kx} {cc : ByteArray} {R : Room} {nL : Nat} {ws : va_W} {c n pc : Nat} {lv : List (Option Value)} {st : List Value} {a : Nat} {fs : List Value} {v : Value} (F : Fx k cc RX4 R nL) (hw : kw k = true) (hin : (kmeth k).name = "<init>") (hd : decode cc pc = .ok (.putfield 50, 3)) (hn : narrow (.array .int) v = v) (hf : fits (.array .int) v = true) (q : Nat) (hq : ws[q]? = some (a, .inr (5, fs))) (hl : 17 < fs.length) (ws' : va_W) (he : ws.set q (a, .inr (5, fs.set 17 v)) = ws') (K : J k ws' c n (pc + 3) lv st) : J k ws c n pc lv (v :: .ref a :: st) := j_putfF F hw hin (C := RX4) (T := TX4) (N := 26) 17 inU_X4 tyX4 tyX4_ok nmX4 rfl (by decide) uf_X4_50 (fun _ h => h) rfl rfl (by decide +kernel) hd hn hf q hq hl ws' he K
theorem uf_X4_53 : Cond.fieldLink RX4 53 "HelpDeskModel" "clients" "[I" ∈ Uw := Uw_of (i := 736) (by decide +kernel) (by decide +kernel)
theorem gf_X4_53 {k : Kx} {cc : ByteArray} {R : Room} {nL : Nat} {ws : va_W} {c n pc : Nat} {lv : List (Option Value)} {st : List Value} {a : Nat} {fs : List Value} {v : Value} (F : Fx k cc RX4 R nL) (hd : decode cc pc = .ok (.getfield 53, 3)) (q : Nat) (hq : ws[q]? = some (a, .inr (5, fs))) (hv : fs[18]? = some v) (K : J k ws c n (pc + 3) lv (v :: st)) : J k ws c n pc lv (.ref a :: st) := j_getf F (C := RX4) (T := TX4) (N := 26) 18 inU_X4 rfl (by decide) uf_X4_53 (fun _ h => h) hd q hq hv K
theorem pf_X4_53 {k : Kx} {cc : ByteArray} {R : Room} {nL : Nat} {ws : va_W} {c n pc : Nat} {lv : List (Option Value)} {st : List Value} {a : Nat} {fs : List Value} {v : Value} (F : Fx k cc RX4 R nL) (hw : kw k = true) (hin : (kmeth k).name = "<init>") (hd : decode cc pc = .ok (.putfield 53, 3)) (hn : narrow (.array .int) v = v) (hf : fits (.array .int) v = true) (q : Nat) (hq : ws[q]? = some (a, .inr (5, fs))) (hl : 18 < fs.length) (ws' : va_W) (he : ws.set q (a, .inr (5, fs.set 18 v)) = ws') (K : J k ws' c n (pc + 3) lv st) : J k ws c n pc lv (v :: .ref a :: st) := j_putfF F hw hin (C := RX4) (T := TX4) (N := 26) 18 inU_X4 tyX4 tyX4_ok nmX4 rfl (by decide) uf_X4_53 (fun _ h => h) rfl rfl (by decide +kernel) hd hn hf q hq hl ws' he K
theorem uf_X4_56 : Cond.fieldLink RX4 56 "HelpDeskModel" "states" "[I" ∈ Uw := Uw_of (i := 737) (by decide +kernel) (by decide +kernel)
theorem gf_X4_56 {k : Kx} {cc : ByteArray} {R : Room} {nL : Nat} {ws : va_W} {c n pc : Nat} {lv : List (Option Value)} {st : List Value} {a : Nat} {fs : List Value} {v : Value} (F : Fx k cc RX4 R nL) (hd : decode cc pc = .ok (.getfield 56, 3)) (q : Nat) (hq : ws[q]? = some (a, .inr (5, fs))) (hv : fs[19]? = some v) (K : J k ws c n (pc + 3) lv (v :: st)) : J k ws c n pc lv (.ref a :: st) := j_getf F (C := RX4) (T := TX4) (N := 26) 19 inU_X4 rfl (by decide) uf_X4_56 (fun _ h => h) hd q hq hv K
theorem pf_X4_56 {k : Kx} {cc : ByteArray} {R : Room} {nL : Nat} {ws : va_W} {c n pc : Nat} {lv : List (Option Value)} {st : List Value} {a : Nat} {fs : List Value} {v : Value} (F : Fx k cc RX4 R nL) (hw : kw k = true) (hin : (kmeth k).name = "<init>") (hd : decode cc pc = .ok (.putfield 56, 3)) (hn : narrow (.array .int) v = v) (hf : fits (.array .int) v = true) (q : Nat) (hq : ws[q]? = some (a, .inr (5, fs))) (hl : 19 < fs.length) (ws' : va_W) (he : ws.set q (a, .inr (5, fs.set 19 v)) = ws') (K : J k ws' c n (pc + 3) lv st) : J k ws c n pc lv (v :: .ref a :: st) := j_putfF F hw hin (C := RX4) (T := TX4) (N := 26) 19 inU_X4 tyX4 tyX4_ok nmX4 rfl (by decide) uf_X4_56 (fun _ h => h) rfl rfl (by decide +kernel) hd hn hf q hq hl ws' he K
theorem uf_X4_59 : Cond.fieldLink RX4 59 "HelpDeskModel" "ages" "[I" ∈ Uw := Uw_of (i := 738) (by decide +kernel) (by decide +kernel)
theorem gf_X4_59 {k : Kx} {cc : ByteArray} {R : Room} {nL : Nat} {ws : va_W} {c n pc : Nat} {lv : List (Option Value)} {st : List Value} {a : Nat} {fs : List Value} {v : Value} (F : Fx k cc RX4 R nL) (hd : decode cc pc = .ok (.getfield 59, 3)) (q : Nat) (hq : ws[q]? = some (a, .inr (5, fs))) (hv : fs[20]? = some v) (K : J k ws c n (pc + 3) lv (v :: st)) : J k ws c n pc lv (.ref a :: st) := j_getf F (C := RX4) (T := TX4) (N := 26) 20 inU_X4 rfl (by decide) uf_X4_59 (fun _ h => h) hd q hq hv K
theorem pf_X4_59 {k : Kx} {cc : ByteArray} {R : Room} {nL : Nat} {ws : va_W} {c n pc : Nat} {lv : List (Option Value)} {st : List Value} {a : Nat} {fs : List Value} {v : Value} (F : Fx k cc RX4 R nL) (hw : kw k = true) (hin : (kmeth k).name = "<init>") (hd : decode cc pc = .ok (.putfield 59, 3)) (hn : narrow (.array .int) v = v) (hf : fits (.array .int) v = true) (q : Nat) (hq : ws[q]? = some (a, .inr (5, fs))) (hl : 20 < fs.length) (ws' : va_W) (he : ws.set q (a, .inr (5, fs.set 20 v)) = ws') (K : J k ws' c n (pc + 3) lv st) : J k ws c n pc lv (v :: .ref a :: st) := j_putfF F hw hin (C := RX4) (T := TX4) (N := 26) 20 inU_X4 tyX4 tyX4_ok nmX4 rfl (by decide) uf_X4_59 (fun _ h => h) rfl rfl (by decide +kernel) hd hn hf q hq hl ws' he K
theorem uf_X4_62 : Cond.fieldLink RX4 62 "HelpDeskModel" "done" "[I" ∈ Uw := Uw_of (i := 739) (by decide +kernel) (by decide +kernel)
theorem gf_X4_62 {k : Kx} {cc : ByteArray} {R : Room} {nL : Nat} {ws : va_W} {c n pc : Nat} {lv : List (Option Value)} {st : List Value} {a : Nat} {fs : List Value} {v : Value} (F : Fx k cc RX4 R nL) (hd : decode cc pc = .ok (.getfield 62, 3)) (q : Nat) (hq : ws[q]? = some (a, .inr (5, fs))) (hv : fs[21]? = some v) (K : J k ws c n (pc + 3) lv (v :: st)) : J k ws c n pc lv (.ref a :: st) := j_getf F (C := RX4) (T := TX4) (N := 26) 21 inU_X4 rfl (by decide) uf_X4_62 (fun _ h => h) hd q hq hv K
theorem pf_X4_62 {k : Kx} {cc : ByteArray} {R : Room} {nL : Nat} {ws : va_W} {c n pc : Nat} {lv : List (Option Value)} {st : List Value} {a : Nat} {fs : List Value} {v : Value} (F : Fx k cc RX4 R nL) (hw : kw k = true) (hin : (kmeth k).name = "<init>") (hd : decode cc pc = .ok (.putfield 62, 3)) (hn : narrow (.array .int) v = v) (hf : fits (.array .int) v = true) (q : Nat) (hq : ws[q]? = some (a, .inr (5, fs))) (hl : 21 < fs.length) (ws' : va_W) (he : ws.set q (a, .inr (5, fs.set 21 v)) = ws') (K : J k ws' c n (pc + 3) lv st) : J k ws c n pc lv (v :: .ref a :: st) := j_putfF F hw hin (C := RX4) (T := TX4) (N := 26) 21 inU_X4 tyX4 tyX4_ok nmX4 rfl (by decide) uf_X4_62 (fun _ h => h) rfl rfl (by decide +kernel) hd hn hf q hq hl ws' he K
theorem uf_X4_65 : Cond.fieldLink RX4 65 "HelpDeskModel" "latest" "[I" ∈ Uw := Uw_of (i := 740) (by decide +kernel) (by decide +kernel)
theorem gf_X4_65 {k : Kx} {cc : ByteArray} {R : Room} {nL : Nat} {ws : va_W} {c n pc : Nat} {lv : List (Option Value)} {st : List Value} {a : Nat} {fs : List Value} {v : Value} (F : Fx k cc RX4 R nL) (hd : decode cc pc = .ok (.getfield 65, 3)) (q : Nat) (hq : ws[q]? = some (a, .inr (5, fs))) (hv : fs[22]? = some v) (K : J k ws c n (pc + 3) lv (v :: st)) : J k ws c n pc lv (.ref a :: st) := j_getf F (C := RX4) (T := TX4) (N := 26) 22 inU_X4 rfl (by decide) uf_X4_65 (fun _ h => h) hd q hq hv K
theorem pf_X4_65 {k : Kx} {cc : ByteArray} {R : Room} {nL : Nat} {ws : va_W} {c n pc : Nat} {lv : List (Option Value)} {st : List Value} {a : Nat} {fs : List Value} {v : Value} (F : Fx k cc RX4 R nL) (hw : kw k = true) (hin : (kmeth k).name = "<init>") (hd : decode cc pc = .ok (.putfield 65, 3)) (hn : narrow (.array .int) v = v) (hf : fits (.array .int) v = true) (q : Nat) (hq : ws[q]? = some (a, .inr (5, fs))) (hl : 22 < fs.length) (ws' : va_W) (he : ws.set q (a, .inr (5, fs.set 22 v)) = ws') (K : J k ws' c n (pc + 3) lv st) : J k ws c n pc lv (v :: .ref a :: st) := j_putfF F hw hin (C := RX4) (T := TX4) (N := 26) 22 inU_X4 tyX4 tyX4_ok nmX4 rfl (by decide) uf_X4_65 (fun _ h => h) rfl rfl (by decide +kernel) hd hn hf q hq hl ws' he K
theorem uf_X4_68 : Cond.fieldLink RX4 68 "HelpDeskModel" "answerAges" "[I" ∈ Uw := Uw_of (i := 741) (by decide +kernel) (by decide +kernel)
theorem gf_X4_68 {k : Kx} {cc : ByteArray} {R : Room} {nL : Nat} {ws : va_W} {c n pc : Nat} {lv : List (Option Value)} {st : List Value} {a : Nat} {fs : List Value} {v : Value} (F : Fx k cc RX4 R nL) (hd : decode cc pc = .ok (.getfield 68, 3)) (q : Nat) (hq : ws[q]? = some (a, .inr (5, fs))) (hv : fs[23]? = some v) (K : J k ws c n (pc + 3) lv (v :: st)) : J k ws c n pc lv (.ref a :: st) := j_getf F (C := RX4) (T := TX4) (N := 26) 23 inU_X4 rfl (by decide) uf_X4_68 (fun _ h => h) hd q hq hv K
theorem pf_X4_68 {k : Kx} {cc : ByteArray} {R : Room} {nL : Nat} {ws : va_W} {c n pc : Nat} {lv : List (Option Value)} {st : List Value} {a : Nat} {fs : List Value} {v : Value} (F : Fx k cc RX4 R nL) (hw : kw k = true) (hin : (kmeth k).name = "<init>") (hd : decode cc pc = .ok (.putfield 68, 3)) (hn : narrow (.array .int) v = v) (hf : fits (.array .int) v = true) (q : Nat) (hq : ws[q]? = some (a, .inr (5, fs))) (hl : 23 < fs.length) (ws' : va_W) (he : ws.set q (a, .inr (5, fs.set 23 v)) = ws') (K : J k ws' c n (pc + 3) lv st) : J k ws c n pc lv (v :: .ref a :: st) := j_putfF F hw hin (C := RX4) (T := TX4) (N := 26) 23 inU_X4 tyX4 tyX4_ok nmX4 rfl (by decide) uf_X4_68 (fun _ h => h) rfl rfl (by decide +kernel) hd hn hf q hq hl ws' he K
theorem uf_X4_71 : Cond.fieldLink RX4 71 "HelpDeskModel" "reopened" "[I" ∈ Uw := Uw_of (i := 742) (by decide +kernel) (by decide +kernel)
theorem gf_X4_71 {k : Kx} {cc : ByteArray} {R : Room} {nL : Nat} {ws : va_W} {c n pc : Nat} {lv : List (Option Value)} {st : List Value} {a : Nat} {fs : List Value} {v : Value} (F : Fx k cc RX4 R nL) (hd : decode cc pc = .ok (.getfield 71, 3)) (q : Nat) (hq : ws[q]? = some (a, .inr (5, fs))) (hv : fs[24]? = some v) (K : J k ws c n (pc + 3) lv (v :: st)) : J k ws c n pc lv (.ref a :: st) := j_getf F (C := RX4) (T := TX4) (N := 26) 24 inU_X4 rfl (by decide) uf_X4_71 (fun _ h => h) hd q hq hv K
theorem pf_X4_71 {k : Kx} {cc : ByteArray} {R : Room} {nL : Nat} {ws : va_W} {c n pc : Nat} {lv : List (Option Value)} {st : List Value} {a : Nat} {fs : List Value} {v : Value} (F : Fx k cc RX4 R nL) (hw : kw k = true) (hin : (kmeth k).name = "<init>") (hd : decode cc pc = .ok (.putfield 71, 3)) (hn : narrow (.array .int) v = v) (hf : fits (.array .int) v = true) (q : Nat) (hq : ws[q]? = some (a, .inr (5, fs))) (hl : 24 < fs.length) (ws' : va_W) (he : ws.set q (a, .inr (5, fs.set 24 v)) = ws') (K : J k ws' c n (pc + 3) lv st) : J k ws c n pc lv (v :: .ref a :: st) := j_putfF F hw hin (C := RX4) (T := TX4) (N := 26) 24 inU_X4 tyX4 tyX4_ok nmX4 rfl (by decide) uf_X4_71 (fun _ h => h) rfl rfl (by decide +kernel) hd hn hf q hq hl ws' he K
theorem uf_X4_74 : Cond.fieldLink RX4 74 "HelpDeskModel" "notes" "[I" ∈ Uw := Uw_of (i := 743) (by decide +kernel) (by decide +kernel)
theorem gf_X4_74 {k : Kx} {cc : ByteArray} {R : Room} {nL : Nat} {ws : va_W} {c n pc : Nat} {lv : List (Option Value)} {st : List Value} {a : Nat} {fs : List Value} {v : Value} (F : Fx k cc RX4 R nL) (hd : decode cc pc = .ok (.getfield 74, 3)) (q : Nat) (hq : ws[q]? = some (a, .inr (5, fs))) (hv : fs[25]? = some v) (K : J k ws c n (pc + 3) lv (v :: st)) : J k ws c n pc lv (.ref a :: st) := j_getf F (C := RX4) (T := TX4) (N := 26) 25 inU_X4 rfl (by decide) uf_X4_74 (fun _ h => h) hd q hq hv K
theorem pf_X4_74 {k : Kx} {cc : ByteArray} {R : Room} {nL : Nat} {ws : va_W} {c n pc : Nat} {lv : List (Option Value)} {st : List Value} {a : Nat} {fs : List Value} {v : Value} (F : Fx k cc RX4 R nL) (hw : kw k = true) (hin : (kmeth k).name = "<init>") (hd : decode cc pc = .ok (.putfield 74, 3)) (hn : narrow (.array .int) v = v) (hf : fits (.array .int) v = true) (q : Nat) (hq : ws[q]? = some (a, .inr (5, fs))) (hl : 25 < fs.length) (ws' : va_W) (he : ws.set q (a, .inr (5, fs.set 25 v)) = ws') (K : J k ws' c n (pc + 3) lv st) : J k ws c n pc lv (v :: .ref a :: st) := j_putfF F hw hin (C := RX4) (T := TX4) (N := 26) 25 inU_X4 tyX4 tyX4_ok nmX4 rfl (by decide) uf_X4_74 (fun _ h => h) rfl rfl (by decide +kernel) hd hn hf q hq hl ws' he K
theorem uf_X4_77 : Cond.fieldLink RX4 77 "HelpDeskModel" "thrown" "I" ∈ Uw := Uw_of (i := 718) (by decide +kernel) (by decide +kernel)
theorem gf_X4_77 {k : Kx} {cc : ByteArray} {R : Room} {nL : Nat} {ws : va_W} {c n pc : Nat} {lv : List (Option Value)} {st : List Value} {a : Nat} {fs : List Value} {v : Value} (F : Fx k cc RX4 R nL) (hd : decode cc pc = .ok (.getfield 77, 3)) (q : Nat) (hq : ws[q]? = some (a, .inr (5, fs))) (hv : fs[0]? = some v) (K : J k ws c n (pc + 3) lv (v :: st)) : J k ws c n pc lv (.ref a :: st) := j_getf F (C := RX4) (T := TX4) (N := 26) 0 inU_X4 rfl (by decide) uf_X4_77 (fun _ h => h) hd q hq hv K
theorem pf_X4_77 {k : Kx} {cc : ByteArray} {R : Room} {nL : Nat} {ws : va_W} {c n pc : Nat} {lv : List (Option Value)} {st : List Value} {a : Nat} {fs : List Value} {v : Value} (F : Fx k cc RX4 R nL) (hw : kw k = true) (hd : decode cc pc = .ok (.putfield 77, 3)) (hn : narrow (.int) v = v) (hf : fits (.int) v = true) (q : Nat) (hq : ws[q]? = some (a, .inr (5, fs))) (hl : 0 < fs.length) (ws' : va_W) (he : ws.set q (a, .inr (5, fs.set 0 v)) = ws') (K : J k ws' c n (pc + 3) lv st) : J k ws c n pc lv (v :: .ref a :: st) := j_putf F hw (C := RX4) (T := TX4) (N := 26) 0 inU_X4 tyX4 tyX4_ok nmX4 rfl (by decide) uf_X4_77 (fun _ h => h) rfl (by decide +kernel) hd hn hf q hq hl ws' he K
theorem uf_X4_80 : Cond.fieldLink RX4 80 "HelpDeskModel" "agents" "I" ∈ Uw := Uw_of (i := 724) (by decide +kernel) (by decide +kernel)
theorem gf_X4_80 {k : Kx} {cc : ByteArray} {R : Room} {nL : Nat} {ws : va_W} {c n pc : Nat} {lv : List (Option Value)} {st : List Value} {a : Nat} {fs : List Value} {v : Value} (F : Fx k cc RX4 R nL) (hd : decode cc pc = .ok (.getfield 80, 3)) (q : Nat) (hq : ws[q]? = some (a, .inr (5, fs))) (hv : fs[6]? = some v) (K : J k ws c n (pc + 3) lv (v :: st)) : J k ws c n pc lv (.ref a :: st) := j_getf F (C := RX4) (T := TX4) (N := 26) 6 inU_X4 rfl (by decide) uf_X4_80 (fun _ h => h) hd q hq hv K
theorem pf_X4_80 {k : Kx} {cc : ByteArray} {R : Room} {nL : Nat} {ws : va_W} {c n pc : Nat} {lv : List (Option Value)} {st : List Value} {a : Nat} {fs : List Value} {v : Value} (F : Fx k cc RX4 R nL) (hw : kw k = true) (hd : decode cc pc = .ok (.putfield 80, 3)) (hn : narrow (.int) v = v) (hf : fits (.int) v = true) (q : Nat) (hq : ws[q]? = some (a, .inr (5, fs))) (hl : 6 < fs.length) (ws' : va_W) (he : ws.set q (a, .inr (5, fs.set 6 v)) = ws') (K : J k ws' c n (pc + 3) lv st) : J k ws c n pc lv (v :: .ref a :: st) := j_putf F hw (C := RX4) (T := TX4) (N := 26) 6 inU_X4 tyX4 tyX4_ok nmX4 rfl (by decide) uf_X4_80 (fun _ h => h) rfl (by decide +kernel) hd hn hf q hq hl ws' he K
theorem um_X4_83 : Cond.methodLink RX4 83 yX4_isIn ∈ Uw := Uw_of (i := 805) (by decide +kernel) (by decide +kernel)
theorem uf_X4_87 : Cond.fieldLink RX4 87 "HelpDeskModel" "tickets" "I" ∈ Uw := Uw_of (i := 732) (by decide +kernel) (by decide +kernel)
theorem gf_X4_87 {k : Kx} {cc : ByteArray} {R : Room} {nL : Nat} {ws : va_W} {c n pc : Nat} {lv : List (Option Value)} {st : List Value} {a : Nat} {fs : List Value} {v : Value} (F : Fx k cc RX4 R nL) (hd : decode cc pc = .ok (.getfield 87, 3)) (q : Nat) (hq : ws[q]? = some (a, .inr (5, fs))) (hv : fs[14]? = some v) (K : J k ws c n (pc + 3) lv (v :: st)) : J k ws c n pc lv (.ref a :: st) := j_getf F (C := RX4) (T := TX4) (N := 26) 14 inU_X4 rfl (by decide) uf_X4_87 (fun _ h => h) hd q hq hv K
theorem pf_X4_87 {k : Kx} {cc : ByteArray} {R : Room} {nL : Nat} {ws : va_W} {c n pc : Nat} {lv : List (Option Value)} {st : List Value} {a : Nat} {fs : List Value} {v : Value} (F : Fx k cc RX4 R nL) (hw : kw k = true) (hd : decode cc pc = .ok (.putfield 87, 3)) (hn : narrow (.int) v = v) (hf : fits (.int) v = true) (q : Nat) (hq : ws[q]? = some (a, .inr (5, fs))) (hl : 14 < fs.length) (ws' : va_W) (he : ws.set q (a, .inr (5, fs.set 14 v)) = ws') (K : J k ws' c n (pc + 3) lv st) : J k ws c n pc lv (v :: .ref a :: st) := j_putf F hw (C := RX4) (T := TX4) (N := 26) 14 inU_X4 tyX4 tyX4_ok nmX4 rfl (by decide) uf_X4_87 (fun _ h => h) rfl (by decide +kernel) hd hn hf q hq hl ws' he K
theorem um_X4_90 : Cond.methodLink RX4 90 yX4_no ∈ Uw := Uw_of (i := 812) (by decide +kernel) (by decide +kernel)
theorem uf_X4_94 : Cond.fieldLink RX4 94 "HelpDeskModel" "minute" "I" ∈ Uw := Uw_of (i := 719) (by decide +kernel) (by decide +kernel)
theorem gf_X4_94 {k : Kx} {cc : ByteArray} {R : Room} {nL : Nat} {ws : va_W} {c n pc : Nat} {lv : List (Option Value)} {st : List Value} {a : Nat} {fs : List Value} {v : Value} (F : Fx k cc RX4 R nL) (hd : decode cc pc = .ok (.getfield 94, 3)) (q : Nat) (hq : ws[q]? = some (a, .inr (5, fs))) (hv : fs[1]? = some v) (K : J k ws c n (pc + 3) lv (v :: st)) : J k ws c n pc lv (.ref a :: st) := j_getf F (C := RX4) (T := TX4) (N := 26) 1 inU_X4 rfl (by decide) uf_X4_94 (fun _ h => h) hd q hq hv K
theorem pf_X4_94 {k : Kx} {cc : ByteArray} {R : Room} {nL : Nat} {ws : va_W} {c n pc : Nat} {lv : List (Option Value)} {st : List Value} {a : Nat} {fs : List Value} {v : Value} (F : Fx k cc RX4 R nL) (hw : kw k = true) (hd : decode cc pc = .ok (.putfield 94, 3)) (hn : narrow (.int) v = v) (hf : fits (.int) v = true) (q : Nat) (hq : ws[q]? = some (a, .inr (5, fs))) (hl : 1 < fs.length) (ws' : va_W) (he : ws.set q (a, .inr (5, fs.set 1 v)) = ws') (K : J k ws' c n (pc + 3) lv st) : J k ws c n pc lv (v :: .ref a :: st) := j_putf F hw (C := RX4) (T := TX4) (N := 26) 1 inU_X4 tyX4 tyX4_ok nmX4 rfl (by decide) uf_X4_94 (fun _ h => h) rfl (by decide +kernel) hd hn hf q hq hl ws' he K
theorem um_X4_97 : Cond.methodLink RX4 97 Lib.Math.min.name ∈ Uw := Uw_of (i := 829) (by decide +kernel) (by decide +kernel)
theorem um_X4_103 : Cond.methodLink RX4 103 Lib.Math.max.name ∈ Uw := Uw_of (i := 830) (by decide +kernel) (by decide +kernel)
theorem uc_X4_106 : Cond.constant RX4 106 (99999) ∈ Uw := Uw_of (i := 824) (by decide +kernel) (by decide +kernel)
theorem um_X4_107 : Cond.methodLink RX4 107 yX4_serviceAhead ∈ Uw := Uw_of (i := 825) (by decide +kernel) (by decide +kernel)
theorem um_X4_110 : Cond.methodLink RX4 110 yX4_isAgent ∈ Uw := Uw_of (i := 839) (by decide +kernel) (by decide +kernel)
theorem um_X4_114 : Cond.methodLink RX4 114 yX4_has ∈ Uw := Uw_of (i := 843) (by decide +kernel) (by decide +kernel)
theorem um_X4_118 : Cond.methodLink RX4 118 yX4_leave ∈ Uw := Uw_of (i := 846) (by decide +kernel) (by decide +kernel)
theorem um_X4_122 : Cond.methodLink RX4 122 yX4_isThere ∈ Uw := Uw_of (i := 858) (by decide +kernel) (by decide +kernel)
theorem um_X4_125 : Cond.methodLink RX4 125 yX4_toldAgent ∈ Uw := Uw_of (i := 854) (by decide +kernel) (by decide +kernel)
theorem um_X4_128 : Cond.methodLink RX4 128 yX4_slack ∈ Uw := Uw_of (i := 874) (by decide +kernel) (by decide +kernel)
theorem um_X4_131 : Cond.methodLink RX4 131 yX4_likes ∈ Uw := Uw_of (i := 870) (by decide +kernel) (by decide +kernel)
theorem um_X4_134 : Cond.methodLink RX4 134 yX4_nextOf ∈ Uw := Uw_of (i := 866) (by decide +kernel) (by decide +kernel)
theorem um_X4_137 : Cond.methodLink RX4 137 yX4_isTicket ∈ Uw := Uw_of (i := 886) (by decide +kernel) (by decide +kernel)
theorem um_X4_140 : Cond.methodLink RX4 140 yX4_isOpen ∈ Uw := Uw_of (i := 902) (by decide +kernel) (by decide +kernel)
theorem um_X4_143 : Cond.methodLink RX4 143 yX4_customersOf ∈ Uw := Uw_of (i := 906) (by decide +kernel) (by decide +kernel)
theorem um_X4_146 : Cond.methodLink RX4 146 yX4_agentOf ∈ Uw := Uw_of (i := 930) (by decide +kernel) (by decide +kernel)
theorem um_X4_149 : Cond.methodLink RX4 149 yX4_toldTicket ∈ Uw := Uw_of (i := 926) (by decide +kernel) (by decide +kernel)
theorem um_X4_152 : Cond.methodLink RX4 152 yX4_isWithin ∈ Uw := Uw_of (i := 910) (by decide +kernel) (by decide +kernel)
theorem um_X4_155 : Cond.methodLink RX4 155 yX4_mainOf ∈ Uw := Uw_of (i := 938) (by decide +kernel) (by decide +kernel)
theorem um_X4_158 : Cond.methodLink RX4 158 yX4_isService ∈ Uw := Uw_of (i := 950) (by decide +kernel) (by decide +kernel)
theorem um_X4_161 : Cond.methodLink RX4 161 yX4_passMinute ∈ Uw := Uw_of (i := 958) (by decide +kernel) (by decide +kernel)
theorem um_X4_165 : Cond.methodLink RX4 165 yX4_breaks ∈ Uw := Uw_of (i := 970) (by decide +kernel) (by decide +kernel)
theorem uc_X4_169 : Cond.constantLong RX4 169 (5983) ∈ Uw := Uw_of (i := 986) (by decide +kernel) (by decide +kernel)
theorem uc_X4_171 : Cond.constantLong RX4 171 (31) ∈ Uw := Uw_of (i := 987) (by decide +kernel) (by decide +kernel)
theorem ui_J15 : Cond.initialized RJ15 ∈ Uw := Uw_of (i := 57) (by decide +kernel) (by decide +kernel)
theorem ui_J3 : Cond.initialized RJ3 ∈ Uw := Uw_of (i := 58) (by decide +kernel) (by decide +kernel)
theorem ui_J7 : Cond.initialized RJ7 ∈ Uw := Uw_of (i := 55) (by decide +kernel) (by decide +kernel)
theorem ui_J8 : Cond.initialized RJ8 ∈ Uw := Uw_of (i := 54) (by decide +kernel) (by decide +kernel)
theorem ui_J9 : Cond.initialized RJ9 ∈ Uw := Uw_of (i := 51) (by decide +kernel) (by decide +kernel)
theorem ui_Jx4a65c : Cond.initialized RJx4a65c ∈ Uw := Uw_of (i := 44) (by decide +kernel) (by decide +kernel)
theorem ui_Jxa1e45 : Cond.initialized RJxa1e45 ∈ Uw := Uw_of (i := 42) (by decide +kernel) (by decide +kernel)
theorem ui_Jxc12de : Cond.initialized RJxc12de ∈ Uw := Uw_of (i := 43) (by decide +kernel) (by decide +kernel)
theorem ui_L : Cond.initialized RL ∈ Uw := Uw_of (i := 39) (by decide +kernel) (by decide +kernel)
theorem ui_X0 : Cond.initialized RX0 ∈ Uw := Uw_of (i := 53) (by decide +kernel) (by decide +kernel)
theorem ui_X1 : Cond.initialized RX1 ∈ Uw := Uw_of (i := 41) (by decide +kernel) (by decide +kernel)
theorem ui_X2 : Cond.initialized RX2 ∈ Uw := Uw_of (i := 59) (by decide +kernel) (by decide +kernel)
theorem ui_X3 : Cond.initialized RX3 ∈ Uw := Uw_of (i := 40) (by decide +kernel) (by decide +kernel)
theorem ui_X4 : Cond.initialized RX4 ∈ Uw := Uw_of (i := 45) (by decide +kernel) (by decide +kernel)
theorem ui_Math : Cond.initialized "java/lang/Math" ∈ Uw := Uw_of (i := 51) (by decide +kernel) (by decide +kernel)
theorem ui_IllegalArgumentException : Cond.initialized "java/lang/IllegalArgumentException" ∈ Uw := Uw_of (i := 49) (by decide +kernel) (by decide +kernel)
theorem ui_IllegalStateException : Cond.initialized "java/lang/IllegalStateException" ∈ Uw := Uw_of (i := 52) (by decide +kernel) (by decide +kernel)
theorem ui_IndexOutOfBoundsException : Cond.initialized "java/lang/IndexOutOfBoundsException" ∈ Uw := Uw_of (i := 50) (by decide +kernel) (by decide +kernel)
theorem un_objectInit : Cond.instanceMethod objectInit ∈ Uw := Uw_of (i := 66) (by decide +kernel) (by decide +kernel)
theorem ud_objectInit : Cond.code objectInit ⟨#[0xb1]⟩ 1 none ∈ Uw := Uw_of (i := 67) (by decide +kernel) (by decide +kernel)
theorem us_max : Cond.static Lib.Math.max.name ∈ Uw := Uw_of (i := 350) (by decide +kernel) (by decide +kernel)
theorem ud_max : Cond.code Lib.Math.max.name Lib.Math.max.code 2 (some .int) ∈ Uw := Uw_of (i := 351) (by decide +kernel) (by decide +kernel)
theorem us_min : Cond.static Lib.Math.min.name ∈ Uw := Uw_of (i := 353) (by decide +kernel) (by decide +kernel)
theorem ud_min : Cond.code Lib.Math.min.name Lib.Math.min.code 2 (some .int) ∈ Uw := Uw_of (i := 354) (by decide +kernel) (by decide +kernel)
theorem ud_J15_checkIndex_7cf53 : Cond.code yJ15_checkIndex_7cf53 cJ15_checkIndex_7cf53 2 (some .int) ∈ Uw := Uw_of (i := 151) (by decide +kernel) (by decide +kernel)
theorem us_J15_checkIndex_7cf53 : Cond.static yJ15_checkIndex_7cf53 ∈ Uw := Uw_of (i := 150) (by decide +kernel) (by decide +kernel)
theorem ud_J3_checkIndex_8e157 : Cond.code yJ3_checkIndex_8e157 cJ3_checkIndex_8e157 3 (some .int) ∈ Uw := Uw_of (i := 154) (by decide +kernel) (by decide +kernel)
theorem us_J3_checkIndex_8e157 : Cond.static yJ3_checkIndex_8e157 ∈ Uw := Uw_of (i := 153) (by decide +kernel) (by decide +kernel)
theorem ud_J7_copyOf_1904c : Cond.code yJ7_copyOf_1904c cJ7_copyOf_1904c 2 (some (.array (.object "java/lang/Object"))) ∈ Uw := Uw_of (i := 441) (by decide +kernel) (by decide +kernel)
theorem us_J7_copyOf_1904c : Cond.static yJ7_copyOf_1904c ∈ Uw := Uw_of (i := 440) (by decide +kernel) (by decide +kernel)
theorem ud_J7_copyOf_6403c : Cond.code yJ7_copyOf_6403c cJ7_copyOf_6403c 4 (some (.array (.object "java/lang/Object"))) ∈ Uw := Uw_of (i := 457) (by decide +kernel) (by decide +kernel)
theorem us_J7_copyOf_6403c : Cond.static yJ7_copyOf_6403c ∈ Uw := Uw_of (i := 456) (by decide +kernel) (by decide +kernel)
theorem ud_J8_hugeLength_7cf53 : Cond.code yJ8_hugeLength_7cf53 cJ8_hugeLength_7cf53 3 (some .int) ∈ Uw := Uw_of (i := 438) (by decide +kernel) (by decide +kernel)
theorem us_J8_hugeLength_7cf53 : Cond.static yJ8_hugeLength_7cf53 ∈ Uw := Uw_of (i := 437) (by decide +kernel) (by decide +kernel)
theorem ud_J8_newLength_cabcc : Cond.code yJ8_newLength_cabcc cJ8_newLength_cabcc 4 (some .int) ∈ Uw := Uw_of (i := 433) (by decide +kernel) (by decide +kernel)
theorem us_J8_newLength_cabcc : Cond.static yJ8_newLength_cabcc ∈ Uw := Uw_of (i := 432) (by decide +kernel) (by decide +kernel)
theorem ud_J9_max_7cf53 : Cond.code yJ9_max_7cf53 cJ9_max_7cf53 2 (some .int) ∈ Uw := Uw_of (i := 351) (by decide +kernel) (by decide +kernel)
theorem us_J9_max_7cf53 : Cond.static yJ9_max_7cf53 ∈ Uw := Uw_of (i := 350) (by decide +kernel) (by decide +kernel)
theorem ud_J9_min_7cf53 : Cond.code yJ9_min_7cf53 cJ9_min_7cf53 2 (some .int) ∈ Uw := Uw_of (i := 354) (by decide +kernel) (by decide +kernel)
theorem us_J9_min_7cf53 : Cond.static yJ9_min_7cf53 ∈ Uw := Uw_of (i := 353) (by decide +kernel) (by decide +kernel)
theorem ud_Jx4a65c_add_72be8 : Cond.code yJx4a65c_add_72be8 cJx4a65c_add_72be8 4 none ∈ Uw := Uw_of (i := 422) (by decide +kernel) (by decide +kernel)
theorem un_Jx4a65c_add_72be8 : Cond.instanceMethod yJx4a65c_add_72be8 ∈ Uw := Uw_of (i := 421) (by decide +kernel) (by decide +kernel)
theorem ue_Jx4a65c_add_72be8 : Cond.selects RJx4a65c yJx4a65c_add_72be8 yJx4a65c_add_72be8 ∈ Uw := Uw_of (i := 7) (by decide +kernel) (by decide +kernel)
theorem ud_Jx4a65c_add_9ea2d : Cond.code yJx4a65c_add_9ea2d cJx4a65c_add_9ea2d 2 (some .boolean) ∈ Uw := Uw_of (i := 418) (by decide +kernel) (by decide +kernel)
theorem un_Jx4a65c_add_9ea2d : Cond.instanceMethod yJx4a65c_add_9ea2d ∈ Uw := Uw_of (i := 416) (by decide +kernel) (by decide +kernel)
theorem ue_Jx4a65c_add_9ea2d : Cond.selects RJx4a65c yJx4a65c_add_9ea2d yJx4a65c_add_9ea2d ∈ Uw := Uw_of (i := 417) (by decide +kernel) (by decide +kernel)
theorem ud_Jx4a65c_elementData_915e3 : Cond.code yJx4a65c_elementData_915e3 cJx4a65c_elementData_915e3 2 (some (.object "java/lang/Object")) ∈ Uw := Uw_of (i := 158) (by decide +kernel) (by decide +kernel)
theorem un_Jx4a65c_elementData_915e3 : Cond.instanceMethod yJx4a65c_elementData_915e3 ∈ Uw := Uw_of (i := 156) (by decide +kernel) (by decide +kernel)
theorem ue_Jx4a65c_elementData_915e3 : Cond.selects RJx4a65c yJx4a65c_elementData_915e3 yJx4a65c_elementData_915e3 ∈ Uw := Uw_of (i := 157) (by decide +kernel) (by decide +kernel)
theorem ud_Jx4a65c_get_915e3 : Cond.code yJx4a65c_get_915e3 cJx4a65c_get_915e3 2 (some (.object "java/lang/Object")) ∈ Uw := Uw_of (i := 148) (by decide +kernel) (by decide +kernel)
theorem un_Jx4a65c_get_915e3 : Cond.instanceMethod yJx4a65c_get_915e3 ∈ Uw := Uw_of (i := 146) (by decide +kernel) (by decide +kernel)
theorem ue_Jx4a65c_get_915e3 : Cond.selects RJx4a65c yJx4a65c_get_915e3 yJx4a65c_get_915e3 ∈ Uw := Uw_of (i := 147) (by decide +kernel) (by decide +kernel)
theorem ud_Jx4a65c_grow_92f84 : Cond.code yJx4a65c_grow_92f84 cJx4a65c_grow_92f84 4 (some (.array (.object "java/lang/Object"))) ∈ Uw := Uw_of (i := 430) (by decide +kernel) (by decide +kernel)
theorem un_Jx4a65c_grow_92f84 : Cond.instanceMethod yJx4a65c_grow_92f84 ∈ Uw := Uw_of (i := 429) (by decide +kernel) (by decide +kernel)
theorem ue_Jx4a65c_grow_92f84 : Cond.selects RJx4a65c yJx4a65c_grow_92f84 yJx4a65c_grow_92f84 ∈ Uw := Uw_of (i := 9) (by decide +kernel) (by decide +kernel)
theorem ud_Jx4a65c_grow_d5877 : Cond.code yJx4a65c_grow_d5877 cJx4a65c_grow_d5877 1 (some (.array (.object "java/lang/Object"))) ∈ Uw := Uw_of (i := 426) (by decide +kernel) (by decide +kernel)
theorem un_Jx4a65c_grow_d5877 : Cond.instanceMethod yJx4a65c_grow_d5877 ∈ Uw := Uw_of (i := 425) (by decide +kernel) (by decide +kernel)
theorem ue_Jx4a65c_grow_d5877 : Cond.selects RJx4a65c yJx4a65c_grow_d5877 yJx4a65c_grow_d5877 ∈ Uw := Uw_of (i := 8) (by decide +kernel) (by decide +kernel)
theorem ud_Jx4a65c_init_da8c8 : Cond.code yJx4a65c_init_da8c8 cJx4a65c_init_da8c8 1 none ∈ Uw := Uw_of (i := 87) (by decide +kernel) (by decide +kernel)
theorem un_Jx4a65c_init_da8c8 : Cond.instanceMethod yJx4a65c_init_da8c8 ∈ Uw := Uw_of (i := 86) (by decide +kernel) (by decide +kernel)
theorem ud_Jx4a65c_size_8abf5 : Cond.code yJx4a65c_size_8abf5 cJx4a65c_size_8abf5 1 (some .int) ∈ Uw := Uw_of (i := 140) (by decide +kernel) (by decide +kernel)
theorem un_Jx4a65c_size_8abf5 : Cond.instanceMethod yJx4a65c_size_8abf5 ∈ Uw := Uw_of (i := 138) (by decide +kernel) (by decide +kernel)
theorem ue_Jx4a65c_size_8abf5 : Cond.selects RJx4a65c yJx4a65c_size_8abf5 yJx4a65c_size_8abf5 ∈ Uw := Uw_of (i := 139) (by decide +kernel) (by decide +kernel)
theorem ud_Jxa1e45_init_da8c8 : Cond.code yJxa1e45_init_da8c8 cJxa1e45_init_da8c8 1 none ∈ Uw := Uw_of (i := 93) (by decide +kernel) (by decide +kernel)
theorem un_Jxa1e45_init_da8c8 : Cond.instanceMethod yJxa1e45_init_da8c8 ∈ Uw := Uw_of (i := 92) (by decide +kernel) (by decide +kernel)
theorem ud_Jxc12de_init_da8c8 : Cond.code yJxc12de_init_da8c8 cJxc12de_init_da8c8 1 none ∈ Uw := Uw_of (i := 90) (by decide +kernel) (by decide +kernel)
theorem un_Jxc12de_init_da8c8 : Cond.instanceMethod yJxc12de_init_da8c8 ∈ Uw := Uw_of (i := 89) (by decide +kernel) (by decide +kernel)
theorem ud_L_addAgent : Cond.codeWith yL_addAgent cL_addAgent 7 (some .int) [(0, 14, 17, 13), (0, 14, 21, 29)] ∈ Uw := Uw_of (i := 357) (by decide +kernel) (by decide +kernel)
theorem us_L_addAgent : Cond.static yL_addAgent ∈ Uw := Uw_of (i := 356) (by decide +kernel) (by decide +kernel)
theorem ud_L_agent : Cond.codeWith yL_agent cL_agent 5 (some .int) [(0, 10, 13, 19)] ∈ Uw := Uw_of (i := 492) (by decide +kernel) (by decide +kernel)
theorem us_L_agent : Cond.static yL_agent ∈ Uw := Uw_of (i := 491) (by decide +kernel) (by decide +kernel)
theorem ud_L_all : Cond.codeWith yL_all cL_all 4 (some .int) [(0, 9, 12, 19)] ∈ Uw := Uw_of (i := 706) (by decide +kernel) (by decide +kernel)
theorem us_L_all : Cond.static yL_all ∈ Uw := Uw_of (i := 705) (by decide +kernel) (by decide +kernel)
theorem ud_L_customers : Cond.codeWith yL_customers cL_customers 4 (some .int) [(0, 9, 12, 19)] ∈ Uw := Uw_of (i := 646) (by decide +kernel) (by decide +kernel)
theorem us_L_customers : Cond.static yL_customers ∈ Uw := Uw_of (i := 645) (by decide +kernel) (by decide +kernel)
theorem ud_L_due : Cond.codeWith yL_due cL_due 4 (some .int) [(0, 9, 12, 19)] ∈ Uw := Uw_of (i := 653) (by decide +kernel) (by decide +kernel)
theorem us_L_due : Cond.static yL_due ∈ Uw := Uw_of (i := 652) (by decide +kernel) (by decide +kernel)
theorem ud_L_main : Cond.codeWith yL_main cL_main 4 (some .int) [(0, 9, 12, 19)] ∈ Uw := Uw_of (i := 639) (by decide +kernel) (by decide +kernel)
theorem us_L_main : Cond.static yL_main ∈ Uw := Uw_of (i := 638) (by decide +kernel) (by decide +kernel)
theorem ud_L_merge : Cond.codeWith yL_merge cL_merge 5 (some .int) [(0, 10, 13, 19), (0, 10, 17, 13), (0, 10, 21, 29)] ∈ Uw := Uw_of (i := 611) (by decide +kernel) (by decide +kernel)
theorem us_L_merge : Cond.static yL_merge ∈ Uw := Uw_of (i := 610) (by decide +kernel) (by decide +kernel)
theorem ud_L_next : Cond.codeWith yL_next cL_next 4 (some .int) [(0, 9, 12, 19)] ∈ Uw := Uw_of (i := 500) (by decide +kernel) (by decide +kernel)
theorem us_L_next : Cond.static yL_next ∈ Uw := Uw_of (i := 499) (by decide +kernel) (by decide +kernel)
theorem ud_L_open : Cond.codeWith yL_open cL_open 7 (some .int) [(0, 14, 17, 13), (0, 14, 21, 29)] ∈ Uw := Uw_of (i := 515) (by decide +kernel) (by decide +kernel)
theorem us_L_open : Cond.static yL_open ∈ Uw := Uw_of (i := 514) (by decide +kernel) (by decide +kernel)
theorem ud_L_pass : Cond.codeWith yL_pass cL_pass 4 (some .int) [(0, 9, 12, 13), (0, 9, 15, 29)] ∈ Uw := Uw_of (i := 666) (by decide +kernel) (by decide +kernel)
theorem us_L_pass : Cond.static yL_pass ∈ Uw := Uw_of (i := 665) (by decide +kernel) (by decide +kernel)
theorem ud_L_pause : Cond.codeWith yL_pause cL_pause 4 (some .int) [(0, 9, 12, 19), (0, 9, 15, 29)] ∈ Uw := Uw_of (i := 595) (by decide +kernel) (by decide +kernel)
theorem us_L_pause : Cond.static yL_pause ∈ Uw := Uw_of (i := 594) (by decide +kernel) (by decide +kernel)
theorem ud_L_reopen : Cond.codeWith yL_reopen cL_reopen 5 (some .int) [(0, 10, 13, 19), (0, 10, 17, 13), (0, 10, 21, 29)] ∈ Uw := Uw_of (i := 622) (by decide +kernel) (by decide +kernel)
theorem us_L_reopen : Cond.static yL_reopen ∈ Uw := Uw_of (i := 621) (by decide +kernel) (by decide +kernel)
theorem ud_L_resume : Cond.codeWith yL_resume cL_resume 4 (some .int) [(0, 9, 12, 19), (0, 9, 15, 29)] ∈ Uw := Uw_of (i := 603) (by decide +kernel) (by decide +kernel)
theorem us_L_resume : Cond.static yL_resume ∈ Uw := Uw_of (i := 602) (by decide +kernel) (by decide +kernel)
theorem ud_L_service : Cond.codeWith yL_service cL_service 5 (some .int) [(0, 10, 13, 13)] ∈ Uw := Uw_of (i := 333) (by decide +kernel) (by decide +kernel)
theorem us_L_service : Cond.static yL_service ∈ Uw := Uw_of (i := 332) (by decide +kernel) (by decide +kernel)
theorem ud_L_setHours : Cond.codeWith yL_setHours cL_setHours 5 (some .int) [(0, 17, 20, 13)] ∈ Uw := Uw_of (i := 226) (by decide +kernel) (by decide +kernel)
theorem us_L_setHours : Cond.static yL_setHours ∈ Uw := Uw_of (i := 225) (by decide +kernel) (by decide +kernel)
theorem ud_L_setPriority : Cond.codeWith yL_setPriority cL_setPriority 5 (some .int) [(0, 10, 13, 19), (0, 10, 17, 13), (0, 10, 21, 29)] ∈ Uw := Uw_of (i := 582) (by decide +kernel) (by decide +kernel)
theorem us_L_setPriority : Cond.static yL_setPriority ∈ Uw := Uw_of (i := 581) (by decide +kernel) (by decide +kernel)
theorem ud_L_setSkills : Cond.codeWith yL_setSkills cL_setSkills 5 (some .int) [(0, 10, 13, 19), (0, 10, 17, 13)] ∈ Uw := Uw_of (i := 469) (by decide +kernel) (by decide +kernel)
theorem us_L_setSkills : Cond.static yL_setSkills ∈ Uw := Uw_of (i := 468) (by decide +kernel) (by decide +kernel)
theorem ud_L_setTargets : Cond.codeWith yL_setTargets cL_setTargets 6 (some .int) [(0, 12, 15, 19), (0, 12, 19, 13)] ∈ Uw := Uw_of (i := 305) (by decide +kernel) (by decide +kernel)
theorem us_L_setTargets : Cond.static yL_setTargets ∈ Uw := Uw_of (i := 304) (by decide +kernel) (by decide +kernel)
theorem ud_L_ticket : Cond.codeWith yL_ticket cL_ticket 5 (some .int) [(0, 10, 13, 19)] ∈ Uw := Uw_of (i := 631) (by decide +kernel) (by decide +kernel)
theorem us_L_ticket : Cond.static yL_ticket ∈ Uw := Uw_of (i := 630) (by decide +kernel) (by decide +kernel)
theorem ud_X0_hasSkill : Cond.code yX0_hasSkill cX0_hasSkill 2 (some .boolean) ∈ Uw := Uw_of (i := 483) (by decide +kernel) (by decide +kernel)
theorem un_X0_hasSkill : Cond.instanceMethod yX0_hasSkill ∈ Uw := Uw_of (i := 481) (by decide +kernel) (by decide +kernel)
theorem ue_X0_hasSkill : Cond.selects RX0 yX0_hasSkill yX0_hasSkill ∈ Uw := Uw_of (i := 482) (by decide +kernel) (by decide +kernel)
theorem ud_X0_init : Cond.code yX0_init cX0_init 6 none ∈ Uw := Uw_of (i := 386) (by decide +kernel) (by decide +kernel)
theorem un_X0_init : Cond.instanceMethod yX0_init ∈ Uw := Uw_of (i := 385) (by decide +kernel) (by decide +kernel)
theorem ud_X0_isThere : Cond.code yX0_isThere cX0_isThere 3 (some .boolean) ∈ Uw := Uw_of (i := 208) (by decide +kernel) (by decide +kernel)
theorem un_X0_isThere : Cond.instanceMethod yX0_isThere ∈ Uw := Uw_of (i := 206) (by decide +kernel) (by decide +kernel)
theorem ue_X0_isThere : Cond.selects RX0 yX0_isThere yX0_isThere ∈ Uw := Uw_of (i := 207) (by decide +kernel) (by decide +kernel)
theorem ud_X1_init : Cond.code yX1_init cX1_init 1 none ∈ Uw := Uw_of (i := 72) (by decide +kernel) (by decide +kernel)
theorem un_X1_init : Cond.instanceMethod yX1_init ∈ Uw := Uw_of (i := 71) (by decide +kernel) (by decide +kernel)
theorem ud_X1_isService : Cond.code yX1_isService cX1_isService 3 (some .boolean) ∈ Uw := Uw_of (i := 691) (by decide +kernel) (by decide +kernel)
theorem un_X1_isService : Cond.instanceMethod yX1_isService ∈ Uw := Uw_of (i := 689) (by decide +kernel) (by decide +kernel)
theorem ue_X1_isService : Cond.selects RX1 yX1_isService yX1_isService ∈ Uw := Uw_of (i := 690) (by decide +kernel) (by decide +kernel)
theorem ud_X1_minuteOfService : Cond.code yX1_minuteOfService cX1_minuteOfService 6 (some .int) ∈ Uw := Uw_of (i := 661) (by decide +kernel) (by decide +kernel)
theorem un_X1_minuteOfService : Cond.instanceMethod yX1_minuteOfService ∈ Uw := Uw_of (i := 659) (by decide +kernel) (by decide +kernel)
theorem ue_X1_minuteOfService : Cond.selects RX1 yX1_minuteOfService yX1_minuteOfService ∈ Uw := Uw_of (i := 660) (by decide +kernel) (by decide +kernel)
theorem ud_X1_minutesBetween : Cond.code yX1_minutesBetween cX1_minutesBetween 5 (some .int) ∈ Uw := Uw_of (i := 343) (by decide +kernel) (by decide +kernel)
theorem un_X1_minutesBetween : Cond.instanceMethod yX1_minutesBetween ∈ Uw := Uw_of (i := 341) (by decide +kernel) (by decide +kernel)
theorem ue_X1_minutesBetween : Cond.selects RX1 yX1_minutesBetween yX1_minutesBetween ∈ Uw := Uw_of (i := 342) (by decide +kernel) (by decide +kernel)
theorem ud_X1_minutesOfDay : Cond.code yX1_minutesOfDay cX1_minutesOfDay 6 (some .int) ∈ Uw := Uw_of (i := 347) (by decide +kernel) (by decide +kernel)
theorem un_X1_minutesOfDay : Cond.instanceMethod yX1_minutesOfDay ∈ Uw := Uw_of (i := 346) (by decide +kernel) (by decide +kernel)
theorem ue_X1_minutesOfDay : Cond.selects RX1 yX1_minutesOfDay yX1_minutesOfDay ∈ Uw := Uw_of (i := 6) (by decide +kernel) (by decide +kernel)
theorem ud_X2_init : Cond.code yX2_init cX2_init 6 none ∈ Uw := Uw_of (i := 525) (by decide +kernel) (by decide +kernel)
theorem un_X2_init : Cond.instanceMethod yX2_init ∈ Uw := Uw_of (i := 524) (by decide +kernel) (by decide +kernel)
theorem ud_X2_isOpen : Cond.code yX2_isOpen cX2_isOpen 1 (some .boolean) ∈ Uw := Uw_of (i := 179) (by decide +kernel) (by decide +kernel)
theorem un_X2_isOpen : Cond.instanceMethod yX2_isOpen ∈ Uw := Uw_of (i := 177) (by decide +kernel) (by decide +kernel)
theorem ue_X2_isOpen : Cond.selects RX2 yX2_isOpen yX2_isOpen ∈ Uw := Uw_of (i := 178) (by decide +kernel) (by decide +kernel)
theorem ud_X3_addAgent : Cond.code yX3_addAgent cX3_addAgent 6 (some .int) ∈ Uw := Uw_of (i := 362) (by decide +kernel) (by decide +kernel)
theorem un_X3_addAgent : Cond.instanceMethod yX3_addAgent ∈ Uw := Uw_of (i := 360) (by decide +kernel) (by decide +kernel)
theorem ue_X3_addAgent : Cond.selects RX3 yX3_addAgent yX3_addAgent ∈ Uw := Uw_of (i := 361) (by decide +kernel) (by decide +kernel)
theorem ud_X3_ageTickets : Cond.code yX3_ageTickets cX3_ageTickets 3 none ∈ Uw := Uw_of (i := 695) (by decide +kernel) (by decide +kernel)
theorem un_X3_ageTickets : Cond.instanceMethod yX3_ageTickets ∈ Uw := Uw_of (i := 694) (by decide +kernel) (by decide +kernel)
theorem ue_X3_ageTickets : Cond.selects RX3 yX3_ageTickets yX3_ageTickets ∈ Uw := Uw_of (i := 17) (by decide +kernel) (by decide +kernel)
theorem ud_X3_agent : Cond.code yX3_agent cX3_agent 4 (some .int) ∈ Uw := Uw_of (i := 496) (by decide +kernel) (by decide +kernel)
theorem un_X3_agent : Cond.instanceMethod yX3_agent ∈ Uw := Uw_of (i := 494) (by decide +kernel) (by decide +kernel)
theorem ue_X3_agent : Cond.selects RX3 yX3_agent yX3_agent ∈ Uw := Uw_of (i := 495) (by decide +kernel) (by decide +kernel)
theorem ud_X3_agentAt : Cond.code yX3_agentAt cX3_agentAt 2 (some (.object "HelpDesk$Agent")) ∈ Uw := Uw_of (i := 477) (by decide +kernel) (by decide +kernel)
theorem un_X3_agentAt : Cond.instanceMethod yX3_agentAt ∈ Uw := Uw_of (i := 476) (by decide +kernel) (by decide +kernel)
theorem ue_X3_agentAt : Cond.selects RX3 yX3_agentAt yX3_agentAt ∈ Uw := Uw_of (i := 10) (by decide +kernel) (by decide +kernel)
theorem ud_X3_all : Cond.code yX3_all cX3_all 4 (some .int) ∈ Uw := Uw_of (i := 710) (by decide +kernel) (by decide +kernel)
theorem un_X3_all : Cond.instanceMethod yX3_all ∈ Uw := Uw_of (i := 708) (by decide +kernel) (by decide +kernel)
theorem ue_X3_all : Cond.selects RX3 yX3_all yX3_all ∈ Uw := Uw_of (i := 709) (by decide +kernel) (by decide +kernel)
theorem ud_X3_breaksAnswer : Cond.code yX3_breaksAnswer cX3_breaksAnswer 3 (some .boolean) ∈ Uw := Uw_of (i := 163) (by decide +kernel) (by decide +kernel)
theorem un_X3_breaksAnswer : Cond.instanceMethod yX3_breaksAnswer ∈ Uw := Uw_of (i := 162) (by decide +kernel) (by decide +kernel)
theorem ue_X3_breaksAnswer : Cond.selects RX3 yX3_breaksAnswer yX3_breaksAnswer ∈ Uw := Uw_of (i := 0) (by decide +kernel) (by decide +kernel)
theorem ud_X3_breaksSolution : Cond.code yX3_breaksSolution cX3_breaksSolution 2 (some .boolean) ∈ Uw := Uw_of (i := 167) (by decide +kernel) (by decide +kernel)
theorem un_X3_breaksSolution : Cond.instanceMethod yX3_breaksSolution ∈ Uw := Uw_of (i := 166) (by decide +kernel) (by decide +kernel)
theorem ue_X3_breaksSolution : Cond.selects RX3 yX3_breaksSolution yX3_breaksSolution ∈ Uw := Uw_of (i := 1) (by decide +kernel) (by decide +kernel)
theorem ud_X3_broken : Cond.code yX3_broken cX3_broken 5 (some .int) ∈ Uw := Uw_of (i := 144) (by decide +kernel) (by decide +kernel)
theorem un_X3_broken : Cond.instanceMethod yX3_broken ∈ Uw := Uw_of (i := 142) (by decide +kernel) (by decide +kernel)
theorem ue_X3_broken : Cond.selects RX3 yX3_broken yX3_broken ∈ Uw := Uw_of (i := 143) (by decide +kernel) (by decide +kernel)
theorem ud_X3_customers : Cond.code yX3_customers cX3_customers 2 (some .int) ∈ Uw := Uw_of (i := 650) (by decide +kernel) (by decide +kernel)
theorem un_X3_customers : Cond.instanceMethod yX3_customers ∈ Uw := Uw_of (i := 648) (by decide +kernel) (by decide +kernel)
theorem ue_X3_customers : Cond.selects RX3 yX3_customers yX3_customers ∈ Uw := Uw_of (i := 649) (by decide +kernel) (by decide +kernel)
theorem ud_X3_digest : Cond.code yX3_digest cX3_digest 4 (some .long) ∈ Uw := Uw_of (i := 188) (by decide +kernel) (by decide +kernel)
theorem un_X3_digest : Cond.instanceMethod yX3_digest ∈ Uw := Uw_of (i := 186) (by decide +kernel) (by decide +kernel)
theorem ue_X3_digest : Cond.selects RX3 yX3_digest yX3_digest ∈ Uw := Uw_of (i := 187) (by decide +kernel) (by decide +kernel)
theorem ud_X3_digested : Cond.code yX3_digested cX3_digested 3 (some .long) ∈ Uw := Uw_of (i := 192) (by decide +kernel) (by decide +kernel)
theorem us_X3_digested : Cond.static yX3_digested ∈ Uw := Uw_of (i := 191) (by decide +kernel) (by decide +kernel)
theorem ud_X3_digestedAgent : Cond.code yX3_digestedAgent cX3_digestedAgent 7 (some .long) ∈ Uw := Uw_of (i := 197) (by decide +kernel) (by decide +kernel)
theorem un_X3_digestedAgent : Cond.instanceMethod yX3_digestedAgent ∈ Uw := Uw_of (i := 196) (by decide +kernel) (by decide +kernel)
theorem ue_X3_digestedAgent : Cond.selects RX3 yX3_digestedAgent yX3_digestedAgent ∈ Uw := Uw_of (i := 3) (by decide +kernel) (by decide +kernel)
theorem ud_X3_digestedTicket : Cond.code yX3_digestedTicket cX3_digestedTicket 6 (some .long) ∈ Uw := Uw_of (i := 214) (by decide +kernel) (by decide +kernel)
theorem us_X3_digestedTicket : Cond.static yX3_digestedTicket ∈ Uw := Uw_of (i := 213) (by decide +kernel) (by decide +kernel)
theorem ud_X3_due : Cond.code yX3_due cX3_due 4 (some .int) ∈ Uw := Uw_of (i := 657) (by decide +kernel) (by decide +kernel)
theorem un_X3_due : Cond.instanceMethod yX3_due ∈ Uw := Uw_of (i := 655) (by decide +kernel) (by decide +kernel)
theorem ue_X3_due : Cond.selects RX3 yX3_due yX3_due ∈ Uw := Uw_of (i := 656) (by decide +kernel) (by decide +kernel)
theorem ud_X3_firstByLiking : Cond.code yX3_firstByLiking cX3_firstByLiking 5 (some (.object "HelpDesk$Ticket")) ∈ Uw := Uw_of (i := 508) (by decide +kernel) (by decide +kernel)
theorem un_X3_firstByLiking : Cond.instanceMethod yX3_firstByLiking ∈ Uw := Uw_of (i := 507) (by decide +kernel) (by decide +kernel)
theorem ue_X3_firstByLiking : Cond.selects RX3 yX3_firstByLiking yX3_firstByLiking ∈ Uw := Uw_of (i := 11) (by decide +kernel) (by decide +kernel)
theorem ud_X3_give : Cond.code yX3_give cX3_give 2 none ∈ Uw := Uw_of (i := 687) (by decide +kernel) (by decide +kernel)
theorem us_X3_give : Cond.static yX3_give ∈ Uw := Uw_of (i := 686) (by decide +kernel) (by decide +kernel)
theorem ud_X3_giveOutTickets : Cond.code yX3_giveOutTickets cX3_giveOutTickets 4 none ∈ Uw := Uw_of (i := 684) (by decide +kernel) (by decide +kernel)
theorem un_X3_giveOutTickets : Cond.instanceMethod yX3_giveOutTickets ∈ Uw := Uw_of (i := 683) (by decide +kernel) (by decide +kernel)
theorem ue_X3_giveOutTickets : Cond.selects RX3 yX3_giveOutTickets yX3_giveOutTickets ∈ Uw := Uw_of (i := 16) (by decide +kernel) (by decide +kernel)
theorem ud_X3_handBack : Cond.code yX3_handBack cX3_handBack 1 none ∈ Uw := Uw_of (i := 486) (by decide +kernel) (by decide +kernel)
theorem us_X3_handBack : Cond.static yX3_handBack ∈ Uw := Uw_of (i := 485) (by decide +kernel) (by decide +kernel)
theorem ud_X3_init : Cond.code yX3_init cX3_init 1 none ∈ Uw := Uw_of (i := 64) (by decide +kernel) (by decide +kernel)
theorem un_X3_init : Cond.instanceMethod yX3_init ∈ Uw := Uw_of (i := 63) (by decide +kernel) (by decide +kernel)
theorem ud_X3_isLikedMore : Cond.code yX3_isLikedMore cX3_isLikedMore 6 (some .boolean) ∈ Uw := Uw_of (i := 512) (by decide +kernel) (by decide +kernel)
theorem un_X3_isLikedMore : Cond.instanceMethod yX3_isLikedMore ∈ Uw := Uw_of (i := 511) (by decide +kernel) (by decide +kernel)
theorem ue_X3_isLikedMore : Cond.selects RX3 yX3_isLikedMore yX3_isLikedMore ∈ Uw := Uw_of (i := 12) (by decide +kernel) (by decide +kernel)
theorem ud_X3_isPriority : Cond.code yX3_isPriority cX3_isPriority 1 (some .boolean) ∈ Uw := Uw_of (i := 313) (by decide +kernel) (by decide +kernel)
theorem us_X3_isPriority : Cond.static yX3_isPriority ∈ Uw := Uw_of (i := 312) (by decide +kernel) (by decide +kernel)
theorem ud_X3_isSetOfSkills : Cond.code yX3_isSetOfSkills cX3_isSetOfSkills 1 (some .boolean) ∈ Uw := Uw_of (i := 365) (by decide +kernel) (by decide +kernel)
theorem us_X3_isSetOfSkills : Cond.static yX3_isSetOfSkills ∈ Uw := Uw_of (i := 364) (by decide +kernel) (by decide +kernel)
theorem ud_X3_isSpanOfDay : Cond.code yX3_isSpanOfDay cX3_isSpanOfDay 2 (some .boolean) ∈ Uw := Uw_of (i := 234) (by decide +kernel) (by decide +kernel)
theorem us_X3_isSpanOfDay : Cond.static yX3_isSpanOfDay ∈ Uw := Uw_of (i := 233) (by decide +kernel) (by decide +kernel)
theorem ud_X3_lacking : Cond.code yX3_lacking cX3_lacking 4 (some .int) ∈ Uw := Uw_of (i := 175) (by decide +kernel) (by decide +kernel)
theorem un_X3_lacking : Cond.instanceMethod yX3_lacking ∈ Uw := Uw_of (i := 173) (by decide +kernel) (by decide +kernel)
theorem ue_X3_lacking : Cond.selects RX3 yX3_lacking yX3_lacking ∈ Uw := Uw_of (i := 174) (by decide +kernel) (by decide +kernel)
theorem ud_X3_main : Cond.code yX3_main cX3_main 2 (some .int) ∈ Uw := Uw_of (i := 643) (by decide +kernel) (by decide +kernel)
theorem un_X3_main : Cond.instanceMethod yX3_main ∈ Uw := Uw_of (i := 641) (by decide +kernel) (by decide +kernel)
theorem ue_X3_main : Cond.selects RX3 yX3_main yX3_main ∈ Uw := Uw_of (i := 642) (by decide +kernel) (by decide +kernel)
theorem ud_X3_mainOf : Cond.code yX3_mainOf cX3_mainOf 4 (some (.object "HelpDesk$Ticket")) ∈ Uw := Uw_of (i := 223) (by decide +kernel) (by decide +kernel)
theorem us_X3_mainOf : Cond.static yX3_mainOf ∈ Uw := Uw_of (i := 222) (by decide +kernel) (by decide +kernel)
theorem ud_X3_merge : Cond.code yX3_merge cX3_merge 5 (some .int) ∈ Uw := Uw_of (i := 615) (by decide +kernel) (by decide +kernel)
theorem un_X3_merge : Cond.instanceMethod yX3_merge ∈ Uw := Uw_of (i := 613) (by decide +kernel) (by decide +kernel)
theorem ue_X3_merge : Cond.selects RX3 yX3_merge yX3_merge ∈ Uw := Uw_of (i := 614) (by decide +kernel) (by decide +kernel)
theorem ud_X3_next : Cond.code yX3_next cX3_next 2 (some .int) ∈ Uw := Uw_of (i := 504) (by decide +kernel) (by decide +kernel)
theorem un_X3_next : Cond.instanceMethod yX3_next ∈ Uw := Uw_of (i := 502) (by decide +kernel) (by decide +kernel)
theorem ue_X3_next : Cond.selects RX3 yX3_next yX3_next ∈ Uw := Uw_of (i := 503) (by decide +kernel) (by decide +kernel)
theorem ud_X3_now : Cond.code yX3_now cX3_now 1 (some .int) ∈ Uw := Uw_of (i := 132) (by decide +kernel) (by decide +kernel)
theorem un_X3_now : Cond.instanceMethod yX3_now ∈ Uw := Uw_of (i := 130) (by decide +kernel) (by decide +kernel)
theorem ue_X3_now : Cond.selects RX3 yX3_now yX3_now ∈ Uw := Uw_of (i := 131) (by decide +kernel) (by decide +kernel)
theorem ud_X3_numberOfAgent : Cond.code yX3_numberOfAgent cX3_numberOfAgent 1 (some .int) ∈ Uw := Uw_of (i := 220) (by decide +kernel) (by decide +kernel)
theorem us_X3_numberOfAgent : Cond.static yX3_numberOfAgent ∈ Uw := Uw_of (i := 219) (by decide +kernel) (by decide +kernel)
theorem ud_X3_numberOfTicket : Cond.code yX3_numberOfTicket cX3_numberOfTicket 1 (some .int) ∈ Uw := Uw_of (i := 204) (by decide +kernel) (by decide +kernel)
theorem us_X3_numberOfTicket : Cond.static yX3_numberOfTicket ∈ Uw := Uw_of (i := 203) (by decide +kernel) (by decide +kernel)
theorem ud_X3_open : Cond.code yX3_open cX3_open 6 (some .int) ∈ Uw := Uw_of (i := 519) (by decide +kernel) (by decide +kernel)
theorem un_X3_open : Cond.instanceMethod yX3_open ∈ Uw := Uw_of (i := 517) (by decide +kernel) (by decide +kernel)
theorem ue_X3_open : Cond.selects RX3 yX3_open yX3_open ∈ Uw := Uw_of (i := 518) (by decide +kernel) (by decide +kernel)
theorem ud_X3_pass : Cond.code yX3_pass cX3_pass 4 (some .int) ∈ Uw := Uw_of (i := 670) (by decide +kernel) (by decide +kernel)
theorem un_X3_pass : Cond.instanceMethod yX3_pass ∈ Uw := Uw_of (i := 668) (by decide +kernel) (by decide +kernel)
theorem ue_X3_pass : Cond.selects RX3 yX3_pass yX3_pass ∈ Uw := Uw_of (i := 669) (by decide +kernel) (by decide +kernel)
theorem ud_X3_passMinute : Cond.code yX3_passMinute cX3_passMinute 2 (some .int) ∈ Uw := Uw_of (i := 676) (by decide +kernel) (by decide +kernel)
theorem un_X3_passMinute : Cond.instanceMethod yX3_passMinute ∈ Uw := Uw_of (i := 675) (by decide +kernel) (by decide +kernel)
theorem ue_X3_passMinute : Cond.selects RX3 yX3_passMinute yX3_passMinute ∈ Uw := Uw_of (i := 14) (by decide +kernel) (by decide +kernel)
theorem ud_X3_pause : Cond.code yX3_pause cX3_pause 3 (some .int) ∈ Uw := Uw_of (i := 599) (by decide +kernel) (by decide +kernel)
theorem un_X3_pause : Cond.instanceMethod yX3_pause ∈ Uw := Uw_of (i := 597) (by decide +kernel) (by decide +kernel)
theorem ue_X3_pause : Cond.selects RX3 yX3_pause yX3_pause ∈ Uw := Uw_of (i := 598) (by decide +kernel) (by decide +kernel)
theorem ud_X3_reopen : Cond.code yX3_reopen cX3_reopen 4 (some .int) ∈ Uw := Uw_of (i := 626) (by decide +kernel) (by decide +kernel)
theorem un_X3_reopen : Cond.instanceMethod yX3_reopen ∈ Uw := Uw_of (i := 624) (by decide +kernel) (by decide +kernel)
theorem ue_X3_reopen : Cond.selects RX3 yX3_reopen yX3_reopen ∈ Uw := Uw_of (i := 625) (by decide +kernel) (by decide +kernel)
theorem ud_X3_resume : Cond.code yX3_resume cX3_resume 3 (some .int) ∈ Uw := Uw_of (i := 607) (by decide +kernel) (by decide +kernel)
theorem un_X3_resume : Cond.instanceMethod yX3_resume ∈ Uw := Uw_of (i := 605) (by decide +kernel) (by decide +kernel)
theorem ue_X3_resume : Cond.selects RX3 yX3_resume yX3_resume ∈ Uw := Uw_of (i := 606) (by decide +kernel) (by decide +kernel)
theorem ud_X3_sendHomeAgents : Cond.code yX3_sendHomeAgents cX3_sendHomeAgents 4 none ∈ Uw := Uw_of (i := 680) (by decide +kernel) (by decide +kernel)
theorem un_X3_sendHomeAgents : Cond.instanceMethod yX3_sendHomeAgents ∈ Uw := Uw_of (i := 679) (by decide +kernel) (by decide +kernel)
theorem ue_X3_sendHomeAgents : Cond.selects RX3 yX3_sendHomeAgents yX3_sendHomeAgents ∈ Uw := Uw_of (i := 15) (by decide +kernel) (by decide +kernel)
theorem ud_X3_service : Cond.code yX3_service cX3_service 3 (some .int) ∈ Uw := Uw_of (i := 337) (by decide +kernel) (by decide +kernel)
theorem un_X3_service : Cond.instanceMethod yX3_service ∈ Uw := Uw_of (i := 335) (by decide +kernel) (by decide +kernel)
theorem ue_X3_service : Cond.selects RX3 yX3_service yX3_service ∈ Uw := Uw_of (i := 336) (by decide +kernel) (by decide +kernel)
theorem ud_X3_setHours : Cond.code yX3_setHours cX3_setHours 4 (some .boolean) ∈ Uw := Uw_of (i := 231) (by decide +kernel) (by decide +kernel)
theorem un_X3_setHours : Cond.instanceMethod yX3_setHours ∈ Uw := Uw_of (i := 229) (by decide +kernel) (by decide +kernel)
theorem ue_X3_setHours : Cond.selects RX3 yX3_setHours yX3_setHours ∈ Uw := Uw_of (i := 230) (by decide +kernel) (by decide +kernel)
theorem ud_X3_setPriority : Cond.code yX3_setPriority cX3_setPriority 5 (some .int) ∈ Uw := Uw_of (i := 586) (by decide +kernel) (by decide +kernel)
theorem un_X3_setPriority : Cond.instanceMethod yX3_setPriority ∈ Uw := Uw_of (i := 584) (by decide +kernel) (by decide +kernel)
theorem ue_X3_setPriority : Cond.selects RX3 yX3_setPriority yX3_setPriority ∈ Uw := Uw_of (i := 585) (by decide +kernel) (by decide +kernel)
theorem ud_X3_setSkills : Cond.code yX3_setSkills cX3_setSkills 6 (some .int) ∈ Uw := Uw_of (i := 473) (by decide +kernel) (by decide +kernel)
theorem un_X3_setSkills : Cond.instanceMethod yX3_setSkills ∈ Uw := Uw_of (i := 471) (by decide +kernel) (by decide +kernel)
theorem ue_X3_setSkills : Cond.selects RX3 yX3_setSkills yX3_setSkills ∈ Uw := Uw_of (i := 472) (by decide +kernel) (by decide +kernel)
theorem ud_X3_setTargets : Cond.code yX3_setTargets cX3_setTargets 5 (some .int) ∈ Uw := Uw_of (i := 310) (by decide +kernel) (by decide +kernel)
theorem un_X3_setTargets : Cond.instanceMethod yX3_setTargets ∈ Uw := Uw_of (i := 308) (by decide +kernel) (by decide +kernel)
theorem ue_X3_setTargets : Cond.selects RX3 yX3_setTargets yX3_setTargets ∈ Uw := Uw_of (i := 309) (by decide +kernel) (by decide +kernel)
theorem ud_X3_slackOf : Cond.code yX3_slackOf cX3_slackOf 2 (some .int) ∈ Uw := Uw_of (i := 171) (by decide +kernel) (by decide +kernel)
theorem un_X3_slackOf : Cond.instanceMethod yX3_slackOf ∈ Uw := Uw_of (i := 170) (by decide +kernel) (by decide +kernel)
theorem ue_X3_slackOf : Cond.selects RX3 yX3_slackOf yX3_slackOf ∈ Uw := Uw_of (i := 2) (by decide +kernel) (by decide +kernel)
theorem ud_X3_solve : Cond.code yX3_solve cX3_solve 3 none ∈ Uw := Uw_of (i := 703) (by decide +kernel) (by decide +kernel)
theorem un_X3_solve : Cond.instanceMethod yX3_solve ∈ Uw := Uw_of (i := 702) (by decide +kernel) (by decide +kernel)
theorem ue_X3_solve : Cond.selects RX3 yX3_solve yX3_solve ∈ Uw := Uw_of (i := 19) (by decide +kernel) (by decide +kernel)
theorem ud_X3_success : Cond.code yX3_success cX3_success 5 (some .double) ∈ Uw := Uw_of (i := 184) (by decide +kernel) (by decide +kernel)
theorem un_X3_success : Cond.instanceMethod yX3_success ∈ Uw := Uw_of (i := 182) (by decide +kernel) (by decide +kernel)
theorem ue_X3_success : Cond.selects RX3 yX3_success yX3_success ∈ Uw := Uw_of (i := 183) (by decide +kernel) (by decide +kernel)
theorem ud_X3_takeFromHolder : Cond.code yX3_takeFromHolder cX3_takeFromHolder 2 none ∈ Uw := Uw_of (i := 489) (by decide +kernel) (by decide +kernel)
theorem us_X3_takeFromHolder : Cond.static yX3_takeFromHolder ∈ Uw := Uw_of (i := 488) (by decide +kernel) (by decide +kernel)
theorem ud_X3_ticket : Cond.code yX3_ticket cX3_ticket 4 (some .int) ∈ Uw := Uw_of (i := 635) (by decide +kernel) (by decide +kernel)
theorem un_X3_ticket : Cond.instanceMethod yX3_ticket ∈ Uw := Uw_of (i := 633) (by decide +kernel) (by decide +kernel)
theorem ue_X3_ticket : Cond.selects RX3 yX3_ticket yX3_ticket ∈ Uw := Uw_of (i := 634) (by decide +kernel) (by decide +kernel)
theorem ud_X3_ticketAt : Cond.code yX3_ticketAt cX3_ticketAt 2 (some (.object "HelpDesk$Ticket")) ∈ Uw := Uw_of (i := 590) (by decide +kernel) (by decide +kernel)
theorem un_X3_ticketAt : Cond.instanceMethod yX3_ticketAt ∈ Uw := Uw_of (i := 589) (by decide +kernel) (by decide +kernel)
theorem ue_X3_ticketAt : Cond.selects RX3 yX3_ticketAt yX3_ticketAt ∈ Uw := Uw_of (i := 13) (by decide +kernel) (by decide +kernel)
theorem ud_X3_ticketCount : Cond.code yX3_ticketCount cX3_ticketCount 1 (some .int) ∈ Uw := Uw_of (i := 136) (by decide +kernel) (by decide +kernel)
theorem un_X3_ticketCount : Cond.instanceMethod yX3_ticketCount ∈ Uw := Uw_of (i := 134) (by decide +kernel) (by decide +kernel)
theorem ue_X3_ticketCount : Cond.selects RX3 yX3_ticketCount yX3_ticketCount ∈ Uw := Uw_of (i := 135) (by decide +kernel) (by decide +kernel)
theorem ud_X3_toldOfAgent : Cond.code yX3_toldOfAgent cX3_toldOfAgent 3 (some .int) ∈ Uw := Uw_of (i := 201) (by decide +kernel) (by decide +kernel)
theorem un_X3_toldOfAgent : Cond.instanceMethod yX3_toldOfAgent ∈ Uw := Uw_of (i := 200) (by decide +kernel) (by decide +kernel)
theorem ue_X3_toldOfAgent : Cond.selects RX3 yX3_toldOfAgent yX3_toldOfAgent ∈ Uw := Uw_of (i := 4) (by decide +kernel) (by decide +kernel)
theorem ud_X3_toldOfTicket : Cond.code yX3_toldOfTicket cX3_toldOfTicket 2 (some .int) ∈ Uw := Uw_of (i := 217) (by decide +kernel) (by decide +kernel)
theorem us_X3_toldOfTicket : Cond.static yX3_toldOfTicket ∈ Uw := Uw_of (i := 216) (by decide +kernel) (by decide +kernel)
theorem ud_X3_work : Cond.code yX3_work cX3_work 5 (some .int) ∈ Uw := Uw_of (i := 699) (by decide +kernel) (by decide +kernel)
theorem un_X3_work : Cond.instanceMethod yX3_work ∈ Uw := Uw_of (i := 698) (by decide +kernel) (by decide +kernel)
theorem ue_X3_work : Cond.selects RX3 yX3_work yX3_work ∈ Uw := Uw_of (i := 18) (by decide +kernel) (by decide +kernel)
theorem ud_X4_addAgent : Cond.code yX4_addAgent cX4_addAgent 5 (some .int) ∈ Uw := Uw_of (i := 834) (by decide +kernel) (by decide +kernel)
theorem un_X4_addAgent : Cond.instanceMethod yX4_addAgent ∈ Uw := Uw_of (i := 832) (by decide +kernel) (by decide +kernel)
theorem ue_X4_addAgent : Cond.selects RX4 yX4_addAgent yX4_addAgent ∈ Uw := Uw_of (i := 833) (by decide +kernel) (by decide +kernel)
theorem ud_X4_agent : Cond.code yX4_agent cX4_agent 3 (some .int) ∈ Uw := Uw_of (i := 853) (by decide +kernel) (by decide +kernel)
theorem un_X4_agent : Cond.instanceMethod yX4_agent ∈ Uw := Uw_of (i := 851) (by decide +kernel) (by decide +kernel)
theorem ue_X4_agent : Cond.selects RX4 yX4_agent yX4_agent ∈ Uw := Uw_of (i := 852) (by decide +kernel) (by decide +kernel)
theorem ud_X4_agentOf : Cond.code yX4_agentOf cX4_agentOf 3 (some .int) ∈ Uw := Uw_of (i := 933) (by decide +kernel) (by decide +kernel)
theorem un_X4_agentOf : Cond.instanceMethod yX4_agentOf ∈ Uw := Uw_of (i := 932) (by decide +kernel) (by decide +kernel)
theorem ue_X4_agentOf : Cond.selects RX4 yX4_agentOf yX4_agentOf ∈ Uw := Uw_of (i := 34) (by decide +kernel) (by decide +kernel)
theorem ud_X4_all : Cond.code yX4_all cX4_all 4 (some .int) ∈ Uw := Uw_of (i := 965) (by decide +kernel) (by decide +kernel)
theorem un_X4_all : Cond.instanceMethod yX4_all ∈ Uw := Uw_of (i := 963) (by decide +kernel) (by decide +kernel)
theorem ue_X4_all : Cond.selects RX4 yX4_all yX4_all ∈ Uw := Uw_of (i := 964) (by decide +kernel) (by decide +kernel)
theorem ud_X4_breaks : Cond.code yX4_breaks cX4_breaks 3 (some .boolean) ∈ Uw := Uw_of (i := 973) (by decide +kernel) (by decide +kernel)
theorem un_X4_breaks : Cond.instanceMethod yX4_breaks ∈ Uw := Uw_of (i := 972) (by decide +kernel) (by decide +kernel)
theorem ue_X4_breaks : Cond.selects RX4 yX4_breaks yX4_breaks ∈ Uw := Uw_of (i := 38) (by decide +kernel) (by decide +kernel)
theorem ud_X4_broken : Cond.code yX4_broken cX4_broken 4 (some .int) ∈ Uw := Uw_of (i := 969) (by decide +kernel) (by decide +kernel)
theorem un_X4_broken : Cond.instanceMethod yX4_broken ∈ Uw := Uw_of (i := 967) (by decide +kernel) (by decide +kernel)
theorem ue_X4_broken : Cond.selects RX4 yX4_broken yX4_broken ∈ Uw := Uw_of (i := 968) (by decide +kernel) (by decide +kernel)
theorem ud_X4_customers : Cond.code yX4_customers cX4_customers 2 (some .int) ∈ Uw := Uw_of (i := 945) (by decide +kernel) (by decide +kernel)
theorem un_X4_customers : Cond.instanceMethod yX4_customers ∈ Uw := Uw_of (i := 943) (by decide +kernel) (by decide +kernel)
theorem ue_X4_customers : Cond.selects RX4 yX4_customers yX4_customers ∈ Uw := Uw_of (i := 944) (by decide +kernel) (by decide +kernel)
theorem ud_X4_customersOf : Cond.code yX4_customersOf cX4_customersOf 4 (some .int) ∈ Uw := Uw_of (i := 909) (by decide +kernel) (by decide +kernel)
theorem un_X4_customersOf : Cond.instanceMethod yX4_customersOf ∈ Uw := Uw_of (i := 908) (by decide +kernel) (by decide +kernel)
theorem ue_X4_customersOf : Cond.selects RX4 yX4_customersOf yX4_customersOf ∈ Uw := Uw_of (i := 31) (by decide +kernel) (by decide +kernel)
theorem ud_X4_digest : Cond.code yX4_digest cX4_digest 5 (some .long) ∈ Uw := Uw_of (i := 985) (by decide +kernel) (by decide +kernel)
theorem un_X4_digest : Cond.instanceMethod yX4_digest ∈ Uw := Uw_of (i := 983) (by decide +kernel) (by decide +kernel)
theorem ue_X4_digest : Cond.selects RX4 yX4_digest yX4_digest ∈ Uw := Uw_of (i := 984) (by decide +kernel) (by decide +kernel)
theorem ud_X4_due : Cond.code yX4_due cX4_due 4 (some .int) ∈ Uw := Uw_of (i := 949) (by decide +kernel) (by decide +kernel)
theorem un_X4_due : Cond.instanceMethod yX4_due ∈ Uw := Uw_of (i := 947) (by decide +kernel) (by decide +kernel)
theorem ue_X4_due : Cond.selects RX4 yX4_due yX4_due ∈ Uw := Uw_of (i := 948) (by decide +kernel) (by decide +kernel)
theorem ud_X4_has : Cond.code yX4_has cX4_has 2 (some .boolean) ∈ Uw := Uw_of (i := 845) (by decide +kernel) (by decide +kernel)
theorem us_X4_has : Cond.static yX4_has ∈ Uw := Uw_of (i := 844) (by decide +kernel) (by decide +kernel)
theorem ud_X4_init : Cond.code yX4_init cX4_init 1 none ∈ Uw := Uw_of (i := 716) (by decide +kernel) (by decide +kernel)
theorem un_X4_init : Cond.instanceMethod yX4_init ∈ Uw := Uw_of (i := 715) (by decide +kernel) (by decide +kernel)
theorem ud_X4_isAgent : Cond.code yX4_isAgent cX4_isAgent 2 (some .boolean) ∈ Uw := Uw_of (i := 842) (by decide +kernel) (by decide +kernel)
theorem un_X4_isAgent : Cond.instanceMethod yX4_isAgent ∈ Uw := Uw_of (i := 841) (by decide +kernel) (by decide +kernel)
theorem ue_X4_isAgent : Cond.selects RX4 yX4_isAgent yX4_isAgent ∈ Uw := Uw_of (i := 22) (by decide +kernel) (by decide +kernel)
theorem ud_X4_isIn : Cond.code yX4_isIn cX4_isIn 3 (some .boolean) ∈ Uw := Uw_of (i := 807) (by decide +kernel) (by decide +kernel)
theorem us_X4_isIn : Cond.static yX4_isIn ∈ Uw := Uw_of (i := 806) (by decide +kernel) (by decide +kernel)
theorem ud_X4_isOpen : Cond.code yX4_isOpen cX4_isOpen 2 (some .boolean) ∈ Uw := Uw_of (i := 905) (by decide +kernel) (by decide +kernel)
theorem un_X4_isOpen : Cond.instanceMethod yX4_isOpen ∈ Uw := Uw_of (i := 904) (by decide +kernel) (by decide +kernel)
theorem ue_X4_isOpen : Cond.selects RX4 yX4_isOpen yX4_isOpen ∈ Uw := Uw_of (i := 30) (by decide +kernel) (by decide +kernel)
theorem ud_X4_isService : Cond.code yX4_isService cX4_isService 2 (some .boolean) ∈ Uw := Uw_of (i := 953) (by decide +kernel) (by decide +kernel)
theorem un_X4_isService : Cond.instanceMethod yX4_isService ∈ Uw := Uw_of (i := 952) (by decide +kernel) (by decide +kernel)
theorem ue_X4_isService : Cond.selects RX4 yX4_isService yX4_isService ∈ Uw := Uw_of (i := 36) (by decide +kernel) (by decide +kernel)
theorem ud_X4_isThere : Cond.code yX4_isThere cX4_isThere 2 (some .boolean) ∈ Uw := Uw_of (i := 861) (by decide +kernel) (by decide +kernel)
theorem un_X4_isThere : Cond.instanceMethod yX4_isThere ∈ Uw := Uw_of (i := 860) (by decide +kernel) (by decide +kernel)
theorem ue_X4_isThere : Cond.selects RX4 yX4_isThere yX4_isThere ∈ Uw := Uw_of (i := 25) (by decide +kernel) (by decide +kernel)
theorem ud_X4_isTicket : Cond.code yX4_isTicket cX4_isTicket 2 (some .boolean) ∈ Uw := Uw_of (i := 889) (by decide +kernel) (by decide +kernel)
theorem un_X4_isTicket : Cond.instanceMethod yX4_isTicket ∈ Uw := Uw_of (i := 888) (by decide +kernel) (by decide +kernel)
theorem ue_X4_isTicket : Cond.selects RX4 yX4_isTicket yX4_isTicket ∈ Uw := Uw_of (i := 29) (by decide +kernel) (by decide +kernel)
theorem ud_X4_isWithin : Cond.code yX4_isWithin cX4_isWithin 4 (some .boolean) ∈ Uw := Uw_of (i := 913) (by decide +kernel) (by decide +kernel)
theorem un_X4_isWithin : Cond.instanceMethod yX4_isWithin ∈ Uw := Uw_of (i := 912) (by decide +kernel) (by decide +kernel)
theorem ue_X4_isWithin : Cond.selects RX4 yX4_isWithin yX4_isWithin ∈ Uw := Uw_of (i := 32) (by decide +kernel) (by decide +kernel)
theorem ud_X4_lacking : Cond.code yX4_lacking cX4_lacking 3 (some .int) ∈ Uw := Uw_of (i := 977) (by decide +kernel) (by decide +kernel)
theorem un_X4_lacking : Cond.instanceMethod yX4_lacking ∈ Uw := Uw_of (i := 975) (by decide +kernel) (by decide +kernel)
theorem ue_X4_lacking : Cond.selects RX4 yX4_lacking yX4_lacking ∈ Uw := Uw_of (i := 976) (by decide +kernel) (by decide +kernel)
theorem ud_X4_leave : Cond.code yX4_leave cX4_leave 4 none ∈ Uw := Uw_of (i := 849) (by decide +kernel) (by decide +kernel)
theorem un_X4_leave : Cond.instanceMethod yX4_leave ∈ Uw := Uw_of (i := 848) (by decide +kernel) (by decide +kernel)
theorem ue_X4_leave : Cond.selects RX4 yX4_leave yX4_leave ∈ Uw := Uw_of (i := 23) (by decide +kernel) (by decide +kernel)
theorem ud_X4_likes : Cond.code yX4_likes cX4_likes 5 (some .boolean) ∈ Uw := Uw_of (i := 873) (by decide +kernel) (by decide +kernel)
theorem un_X4_likes : Cond.instanceMethod yX4_likes ∈ Uw := Uw_of (i := 872) (by decide +kernel) (by decide +kernel)
theorem ue_X4_likes : Cond.selects RX4 yX4_likes yX4_likes ∈ Uw := Uw_of (i := 27) (by decide +kernel) (by decide +kernel)
theorem ud_X4_main : Cond.code yX4_main cX4_main 2 (some .int) ∈ Uw := Uw_of (i := 937) (by decide +kernel) (by decide +kernel)
theorem un_X4_main : Cond.instanceMethod yX4_main ∈ Uw := Uw_of (i := 935) (by decide +kernel) (by decide +kernel)
theorem ue_X4_main : Cond.selects RX4 yX4_main yX4_main ∈ Uw := Uw_of (i := 936) (by decide +kernel) (by decide +kernel)
theorem ud_X4_mainOf : Cond.code yX4_mainOf cX4_mainOf 3 (some .int) ∈ Uw := Uw_of (i := 941) (by decide +kernel) (by decide +kernel)
theorem un_X4_mainOf : Cond.instanceMethod yX4_mainOf ∈ Uw := Uw_of (i := 940) (by decide +kernel) (by decide +kernel)
theorem ue_X4_mainOf : Cond.selects RX4 yX4_mainOf yX4_mainOf ∈ Uw := Uw_of (i := 35) (by decide +kernel) (by decide +kernel)
theorem ud_X4_merge : Cond.code yX4_merge cX4_merge 3 (some .int) ∈ Uw := Uw_of (i := 901) (by decide +kernel) (by decide +kernel)
theorem un_X4_merge : Cond.instanceMethod yX4_merge ∈ Uw := Uw_of (i := 899) (by decide +kernel) (by decide +kernel)
theorem ue_X4_merge : Cond.selects RX4 yX4_merge yX4_merge ∈ Uw := Uw_of (i := 900) (by decide +kernel) (by decide +kernel)
theorem ud_X4_next : Cond.code yX4_next cX4_next 2 (some .int) ∈ Uw := Uw_of (i := 865) (by decide +kernel) (by decide +kernel)
theorem un_X4_next : Cond.instanceMethod yX4_next ∈ Uw := Uw_of (i := 863) (by decide +kernel) (by decide +kernel)
theorem ue_X4_next : Cond.selects RX4 yX4_next yX4_next ∈ Uw := Uw_of (i := 864) (by decide +kernel) (by decide +kernel)
theorem ud_X4_nextOf : Cond.code yX4_nextOf cX4_nextOf 4 (some .int) ∈ Uw := Uw_of (i := 869) (by decide +kernel) (by decide +kernel)
theorem un_X4_nextOf : Cond.instanceMethod yX4_nextOf ∈ Uw := Uw_of (i := 868) (by decide +kernel) (by decide +kernel)
theorem ue_X4_nextOf : Cond.selects RX4 yX4_nextOf yX4_nextOf ∈ Uw := Uw_of (i := 26) (by decide +kernel) (by decide +kernel)
theorem ud_X4_no : Cond.code yX4_no cX4_no 2 (some .int) ∈ Uw := Uw_of (i := 815) (by decide +kernel) (by decide +kernel)
theorem un_X4_no : Cond.instanceMethod yX4_no ∈ Uw := Uw_of (i := 814) (by decide +kernel) (by decide +kernel)
theorem ue_X4_no : Cond.selects RX4 yX4_no yX4_no ∈ Uw := Uw_of (i := 20) (by decide +kernel) (by decide +kernel)
theorem ud_X4_now : Cond.code yX4_now cX4_now 1 (some .int) ∈ Uw := Uw_of (i := 819) (by decide +kernel) (by decide +kernel)
theorem un_X4_now : Cond.instanceMethod yX4_now ∈ Uw := Uw_of (i := 817) (by decide +kernel) (by decide +kernel)
theorem ue_X4_now : Cond.selects RX4 yX4_now yX4_now ∈ Uw := Uw_of (i := 818) (by decide +kernel) (by decide +kernel)
theorem ud_X4_open : Cond.code yX4_open cX4_open 5 (some .int) ∈ Uw := Uw_of (i := 881) (by decide +kernel) (by decide +kernel)
theorem un_X4_open : Cond.instanceMethod yX4_open ∈ Uw := Uw_of (i := 879) (by decide +kernel) (by decide +kernel)
theorem ue_X4_open : Cond.selects RX4 yX4_open yX4_open ∈ Uw := Uw_of (i := 880) (by decide +kernel) (by decide +kernel)
theorem ud_X4_pass : Cond.code yX4_pass cX4_pass 4 (some .int) ∈ Uw := Uw_of (i := 957) (by decide +kernel) (by decide +kernel)
theorem un_X4_pass : Cond.instanceMethod yX4_pass ∈ Uw := Uw_of (i := 955) (by decide +kernel) (by decide +kernel)
theorem ue_X4_pass : Cond.selects RX4 yX4_pass yX4_pass ∈ Uw := Uw_of (i := 956) (by decide +kernel) (by decide +kernel)
theorem ud_X4_passMinute : Cond.code yX4_passMinute cX4_passMinute 4 (some .int) ∈ Uw := Uw_of (i := 961) (by decide +kernel) (by decide +kernel)
theorem un_X4_passMinute : Cond.instanceMethod yX4_passMinute ∈ Uw := Uw_of (i := 960) (by decide +kernel) (by decide +kernel)
theorem ue_X4_passMinute : Cond.selects RX4 yX4_passMinute yX4_passMinute ∈ Uw := Uw_of (i := 37) (by decide +kernel) (by decide +kernel)
theorem ud_X4_pause : Cond.code yX4_pause cX4_pause 2 (some .int) ∈ Uw := Uw_of (i := 893) (by decide +kernel) (by decide +kernel)
theorem un_X4_pause : Cond.instanceMethod yX4_pause ∈ Uw := Uw_of (i := 891) (by decide +kernel) (by decide +kernel)
theorem ue_X4_pause : Cond.selects RX4 yX4_pause yX4_pause ∈ Uw := Uw_of (i := 892) (by decide +kernel) (by decide +kernel)
theorem ud_X4_reopen : Cond.code yX4_reopen cX4_reopen 3 (some .int) ∈ Uw := Uw_of (i := 917) (by decide +kernel) (by decide +kernel)
theorem un_X4_reopen : Cond.instanceMethod yX4_reopen ∈ Uw := Uw_of (i := 915) (by decide +kernel) (by decide +kernel)
theorem ue_X4_reopen : Cond.selects RX4 yX4_reopen yX4_reopen ∈ Uw := Uw_of (i := 916) (by decide +kernel) (by decide +kernel)
theorem ud_X4_resume : Cond.code yX4_resume cX4_resume 2 (some .int) ∈ Uw := Uw_of (i := 897) (by decide +kernel) (by decide +kernel)
theorem un_X4_resume : Cond.instanceMethod yX4_resume ∈ Uw := Uw_of (i := 895) (by decide +kernel) (by decide +kernel)
theorem ue_X4_resume : Cond.selects RX4 yX4_resume yX4_resume ∈ Uw := Uw_of (i := 896) (by decide +kernel) (by decide +kernel)
theorem ud_X4_service : Cond.code yX4_service cX4_service 3 (some .int) ∈ Uw := Uw_of (i := 823) (by decide +kernel) (by decide +kernel)
theorem un_X4_service : Cond.instanceMethod yX4_service ∈ Uw := Uw_of (i := 821) (by decide +kernel) (by decide +kernel)
theorem ue_X4_service : Cond.selects RX4 yX4_service yX4_service ∈ Uw := Uw_of (i := 822) (by decide +kernel) (by decide +kernel)
theorem ud_X4_serviceAhead : Cond.code yX4_serviceAhead cX4_serviceAhead 5 (some .int) ∈ Uw := Uw_of (i := 828) (by decide +kernel) (by decide +kernel)
theorem un_X4_serviceAhead : Cond.instanceMethod yX4_serviceAhead ∈ Uw := Uw_of (i := 827) (by decide +kernel) (by decide +kernel)
theorem ue_X4_serviceAhead : Cond.selects RX4 yX4_serviceAhead yX4_serviceAhead ∈ Uw := Uw_of (i := 21) (by decide +kernel) (by decide +kernel)
theorem ud_X4_setHours : Cond.code yX4_setHours cX4_setHours 4 (some .boolean) ∈ Uw := Uw_of (i := 804) (by decide +kernel) (by decide +kernel)
theorem un_X4_setHours : Cond.instanceMethod yX4_setHours ∈ Uw := Uw_of (i := 802) (by decide +kernel) (by decide +kernel)
theorem ue_X4_setHours : Cond.selects RX4 yX4_setHours yX4_setHours ∈ Uw := Uw_of (i := 803) (by decide +kernel) (by decide +kernel)
theorem ud_X4_setPriority : Cond.code yX4_setPriority cX4_setPriority 4 (some .int) ∈ Uw := Uw_of (i := 885) (by decide +kernel) (by decide +kernel)
theorem un_X4_setPriority : Cond.instanceMethod yX4_setPriority ∈ Uw := Uw_of (i := 883) (by decide +kernel) (by decide +kernel)
theorem ue_X4_setPriority : Cond.selects RX4 yX4_setPriority yX4_setPriority ∈ Uw := Uw_of (i := 884) (by decide +kernel) (by decide +kernel)
theorem ud_X4_setSkills : Cond.code yX4_setSkills cX4_setSkills 4 (some .int) ∈ Uw := Uw_of (i := 838) (by decide +kernel) (by decide +kernel)
theorem un_X4_setSkills : Cond.instanceMethod yX4_setSkills ∈ Uw := Uw_of (i := 836) (by decide +kernel) (by decide +kernel)
theorem ue_X4_setSkills : Cond.selects RX4 yX4_setSkills yX4_setSkills ∈ Uw := Uw_of (i := 837) (by decide +kernel) (by decide +kernel)
theorem ud_X4_setTargets : Cond.code yX4_setTargets cX4_setTargets 5 (some .int) ∈ Uw := Uw_of (i := 811) (by decide +kernel) (by decide +kernel)
theorem un_X4_setTargets : Cond.instanceMethod yX4_setTargets ∈ Uw := Uw_of (i := 809) (by decide +kernel) (by decide +kernel)
theorem ue_X4_setTargets : Cond.selects RX4 yX4_setTargets yX4_setTargets ∈ Uw := Uw_of (i := 810) (by decide +kernel) (by decide +kernel)
theorem ud_X4_slack : Cond.code yX4_slack cX4_slack 2 (some .int) ∈ Uw := Uw_of (i := 877) (by decide +kernel) (by decide +kernel)
theorem un_X4_slack : Cond.instanceMethod yX4_slack ∈ Uw := Uw_of (i := 876) (by decide +kernel) (by decide +kernel)
theorem ue_X4_slack : Cond.selects RX4 yX4_slack yX4_slack ∈ Uw := Uw_of (i := 28) (by decide +kernel) (by decide +kernel)
theorem ud_X4_success : Cond.code yX4_success cX4_success 4 (some .double) ∈ Uw := Uw_of (i := 981) (by decide +kernel) (by decide +kernel)
theorem un_X4_success : Cond.instanceMethod yX4_success ∈ Uw := Uw_of (i := 979) (by decide +kernel) (by decide +kernel)
theorem ue_X4_success : Cond.selects RX4 yX4_success yX4_success ∈ Uw := Uw_of (i := 980) (by decide +kernel) (by decide +kernel)
theorem ud_X4_thrown : Cond.code yX4_thrown cX4_thrown 1 (some .int) ∈ Uw := Uw_of (i := 800) (by decide +kernel) (by decide +kernel)
theorem un_X4_thrown : Cond.instanceMethod yX4_thrown ∈ Uw := Uw_of (i := 798) (by decide +kernel) (by decide +kernel)
theorem ue_X4_thrown : Cond.selects RX4 yX4_thrown yX4_thrown ∈ Uw := Uw_of (i := 799) (by decide +kernel) (by decide +kernel)
theorem ud_X4_ticket : Cond.code yX4_ticket cX4_ticket 3 (some .int) ∈ Uw := Uw_of (i := 925) (by decide +kernel) (by decide +kernel)
theorem un_X4_ticket : Cond.instanceMethod yX4_ticket ∈ Uw := Uw_of (i := 923) (by decide +kernel) (by decide +kernel)
theorem ue_X4_ticket : Cond.selects RX4 yX4_ticket yX4_ticket ∈ Uw := Uw_of (i := 924) (by decide +kernel) (by decide +kernel)
theorem ud_X4_ticketCount : Cond.code yX4_ticketCount cX4_ticketCount 1 (some .int) ∈ Uw := Uw_of (i := 921) (by decide +kernel) (by decide +kernel)
theorem un_X4_ticketCount : Cond.instanceMethod yX4_ticketCount ∈ Uw := Uw_of (i := 919) (by decide +kernel) (by decide +kernel)
theorem ue_X4_ticketCount : Cond.selects RX4 yX4_ticketCount yX4_ticketCount ∈ Uw := Uw_of (i := 920) (by decide +kernel) (by decide +kernel)
theorem ud_X4_toldAgent : Cond.code yX4_toldAgent cX4_toldAgent 3 (some .int) ∈ Uw := Uw_of (i := 857) (by decide +kernel) (by decide +kernel)
theorem un_X4_toldAgent : Cond.instanceMethod yX4_toldAgent ∈ Uw := Uw_of (i := 856) (by decide +kernel) (by decide +kernel)
theorem ue_X4_toldAgent : Cond.selects RX4 yX4_toldAgent yX4_toldAgent ∈ Uw := Uw_of (i := 24) (by decide +kernel) (by decide +kernel)
theorem ud_X4_toldTicket : Cond.code yX4_toldTicket cX4_toldTicket 3 (some .int) ∈ Uw := Uw_of (i := 929) (by decide +kernel) (by decide +kernel)
theorem un_X4_toldTicket : Cond.instanceMethod yX4_toldTicket ∈ Uw := Uw_of (i := 928) (by decide +kernel) (by decide +kernel)
theorem ue_X4_toldTicket : Cond.selects RX4 yX4_toldTicket yX4_toldTicket ∈ Uw := Uw_of (i := 33) (by decide +kernel) (by decide +kernel)
theorem lk_J15_105 : LkS RJ15 105 yJ3_checkIndex_8e157 cJ3_checkIndex_8e157 3 (some .int) 3 := ⟨⟨um_J15_105, ui_J3, ud_J3_checkIndex_8e157, by decide +kernel⟩, us_J3_checkIndex_8e157⟩
theorem lk_J7_300 : LkS RJ7 300 yJ7_copyOf_6403c cJ7_copyOf_6403c 4 (some (.array (.object "java/lang/Object"))) 3 := ⟨⟨um_J7_300, ui_J7, ud_J7_copyOf_6403c, by decide +kernel⟩, us_J7_copyOf_6403c⟩
theorem lk_J7_304 : LkS RJ7 304 yJ9_min_7cf53 cJ9_min_7cf53 2 (some .int) 2 := ⟨⟨um_J7_304, ui_J9, ud_J9_min_7cf53, by decide +kernel⟩, us_J9_min_7cf53⟩
theorem lk_J8_194 : LkS RJ8 194 yJ9_max_7cf53 cJ9_max_7cf53 2 (some .int) 2 := ⟨⟨um_J8_194, ui_J9, ud_J9_max_7cf53, by decide +kernel⟩, us_J9_max_7cf53⟩
theorem lk_J8_201 : LkS RJ8 201 yJ8_hugeLength_7cf53 cJ8_hugeLength_7cf53 3 (some .int) 2 := ⟨⟨um_J8_201, ui_J8, ud_J8_hugeLength_7cf53, by decide +kernel⟩, us_J8_hugeLength_7cf53⟩
theorem lk_Jx4a65c_1 : LkI RJx4a65c 1 yJxc12de_init_da8c8 cJxc12de_init_da8c8 1 0 := ⟨⟨um_Jx4a65c_1, ui_Jxc12de, ud_Jxc12de_init_da8c8, by decide +kernel⟩, by decide +kernel, un_Jxc12de_init_da8c8⟩
theorem lk_Jx4a65c_66 : LkS RJx4a65c 66 yJ7_copyOf_1904c cJ7_copyOf_1904c 2 (some (.array (.object "java/lang/Object"))) 2 := ⟨⟨um_Jx4a65c_66, ui_J7, ud_J7_copyOf_1904c, by decide +kernel⟩, us_J7_copyOf_1904c⟩
theorem lk_Jx4a65c_69 : LkV RJx4a65c 69 RJx4a65c yJx4a65c_grow_92f84 cJx4a65c_grow_92f84 4 (some (.array (.object "java/lang/Object"))) 1 := ⟨⟨um_Jx4a65c_69, ui_Jx4a65c, ud_Jx4a65c_grow_92f84, by decide +kernel⟩, un_Jx4a65c_grow_92f84, ue_Jx4a65c_grow_92f84⟩
theorem lk_Jx4a65c_73 : LkS RJx4a65c 73 yJ8_newLength_cabcc cJ8_newLength_cabcc 4 (some .int) 3 := ⟨⟨um_Jx4a65c_73, ui_J8, ud_J8_newLength_cabcc, by decide +kernel⟩, us_J8_newLength_cabcc⟩
theorem lk_Jx4a65c_79 : LkS RJx4a65c 79 yJ9_max_7cf53 cJ9_max_7cf53 2 (some .int) 2 := ⟨⟨um_Jx4a65c_79, ui_J9, ud_J9_max_7cf53, by decide +kernel⟩, us_J9_max_7cf53⟩
theorem lk_Jx4a65c_118 : LkS RJx4a65c 118 yJ15_checkIndex_7cf53 cJ15_checkIndex_7cf53 2 (some .int) 2 := ⟨⟨um_Jx4a65c_118, ui_J15, ud_J15_checkIndex_7cf53, by decide +kernel⟩, us_J15_checkIndex_7cf53⟩
theorem lk_Jx4a65c_123 : LkV RJx4a65c 123 RJx4a65c yJx4a65c_elementData_915e3 cJx4a65c_elementData_915e3 2 (some (.object "java/lang/Object")) 1 := ⟨⟨um_Jx4a65c_123, ui_Jx4a65c, ud_Jx4a65c_elementData_915e3, by decide +kernel⟩, un_Jx4a65c_elementData_915e3, ue_Jx4a65c_elementData_915e3⟩
theorem lk_Jx4a65c_129 : LkV RJx4a65c 129 RJx4a65c yJx4a65c_grow_d5877 cJx4a65c_grow_d5877 1 (some (.array (.object "java/lang/Object"))) 0 := ⟨⟨um_Jx4a65c_129, ui_Jx4a65c, ud_Jx4a65c_grow_d5877, by decide +kernel⟩, un_Jx4a65c_grow_d5877, ue_Jx4a65c_grow_d5877⟩
theorem lk_Jx4a65c_131 : LkV RJx4a65c 131 RJx4a65c yJx4a65c_add_72be8 cJx4a65c_add_72be8 4 none 3 := ⟨⟨um_Jx4a65c_131, ui_Jx4a65c, ud_Jx4a65c_add_72be8, by decide +kernel⟩, un_Jx4a65c_add_72be8, ue_Jx4a65c_add_72be8⟩
theorem lk_Jxc12de_1 : LkI RJxc12de 1 yJxa1e45_init_da8c8 cJxa1e45_init_da8c8 1 0 := ⟨⟨um_Jxc12de_1, ui_Jxa1e45, ud_Jxa1e45_init_da8c8, by decide +kernel⟩, by decide +kernel, un_Jxa1e45_init_da8c8⟩
theorem lk_L_7 : LkV RL 7 RX3 yX3_setHours cX3_setHours 4 (some .boolean) 2 := ⟨⟨um_L_7, ui_X3, ud_X3_setHours, by decide +kernel⟩, un_X3_setHours, ue_X3_setHours⟩
theorem lk_L_15 : LkV RL 15 RX3 yX3_setTargets cX3_setTargets 5 (some .int) 3 := ⟨⟨um_L_15, ui_X3, ud_X3_setTargets, by decide +kernel⟩, un_X3_setTargets, ue_X3_setTargets⟩
theorem lk_L_21 : LkV RL 21 RX3 yX3_service cX3_service 3 (some .int) 2 := ⟨⟨um_L_21, ui_X3, ud_X3_service, by decide +kernel⟩, un_X3_service, ue_X3_service⟩
theorem lk_L_25 : LkV RL 25 RX3 yX3_addAgent cX3_addAgent 6 (some .int) 4 := ⟨⟨um_L_25, ui_X3, ud_X3_addAgent, by decide +kernel⟩, un_X3_addAgent, ue_X3_addAgent⟩
theorem lk_L_31 : LkV RL 31 RX3 yX3_setSkills cX3_setSkills 6 (some .int) 2 := ⟨⟨um_L_31, ui_X3, ud_X3_setSkills, by decide +kernel⟩, un_X3_setSkills, ue_X3_setSkills⟩
theorem lk_L_34 : LkV RL 34 RX3 yX3_agent cX3_agent 4 (some .int) 2 := ⟨⟨um_L_34, ui_X3, ud_X3_agent, by decide +kernel⟩, un_X3_agent, ue_X3_agent⟩
theorem lk_L_37 : LkV RL 37 RX3 yX3_next cX3_next 2 (some .int) 1 := ⟨⟨um_L_37, ui_X3, ud_X3_next, by decide +kernel⟩, un_X3_next, ue_X3_next⟩
theorem lk_L_41 : LkV RL 41 RX3 yX3_open cX3_open 6 (some .int) 4 := ⟨⟨um_L_41, ui_X3, ud_X3_open, by decide +kernel⟩, un_X3_open, ue_X3_open⟩
theorem lk_L_44 : LkV RL 44 RX3 yX3_setPriority cX3_setPriority 5 (some .int) 2 := ⟨⟨um_L_44, ui_X3, ud_X3_setPriority, by decide +kernel⟩, un_X3_setPriority, ue_X3_setPriority⟩
theorem lk_L_47 : LkV RL 47 RX3 yX3_pause cX3_pause 3 (some .int) 1 := ⟨⟨um_L_47, ui_X3, ud_X3_pause, by decide +kernel⟩, un_X3_pause, ue_X3_pause⟩
theorem lk_L_50 : LkV RL 50 RX3 yX3_resume cX3_resume 3 (some .int) 1 := ⟨⟨um_L_50, ui_X3, ud_X3_resume, by decide +kernel⟩, un_X3_resume, ue_X3_resume⟩
theorem lk_L_53 : LkV RL 53 RX3 yX3_merge cX3_merge 5 (some .int) 2 := ⟨⟨um_L_53, ui_X3, ud_X3_merge, by decide +kernel⟩, un_X3_merge, ue_X3_merge⟩
theorem lk_L_56 : LkV RL 56 RX3 yX3_reopen cX3_reopen 4 (some .int) 2 := ⟨⟨um_L_56, ui_X3, ud_X3_reopen, by decide +kernel⟩, un_X3_reopen, ue_X3_reopen⟩
theorem lk_L_59 : LkV RL 59 RX3 yX3_ticket cX3_ticket 4 (some .int) 2 := ⟨⟨um_L_59, ui_X3, ud_X3_ticket, by decide +kernel⟩, un_X3_ticket, ue_X3_ticket⟩
theorem lk_L_62 : LkV RL 62 RX3 yX3_main cX3_main 2 (some .int) 1 := ⟨⟨um_L_62, ui_X3, ud_X3_main, by decide +kernel⟩, un_X3_main, ue_X3_main⟩
theorem lk_L_65 : LkV RL 65 RX3 yX3_customers cX3_customers 2 (some .int) 1 := ⟨⟨um_L_65, ui_X3, ud_X3_customers, by decide +kernel⟩, un_X3_customers, ue_X3_customers⟩
theorem lk_L_68 : LkV RL 68 RX3 yX3_due cX3_due 4 (some .int) 1 := ⟨⟨um_L_68, ui_X3, ud_X3_due, by decide +kernel⟩, un_X3_due, ue_X3_due⟩
theorem lk_L_71 : LkV RL 71 RX3 yX3_pass cX3_pass 4 (some .int) 1 := ⟨⟨um_L_71, ui_X3, ud_X3_pass, by decide +kernel⟩, un_X3_pass, ue_X3_pass⟩
theorem lk_L_74 : LkV RL 74 RX3 yX3_all cX3_all 4 (some .int) 1 := ⟨⟨um_L_74, ui_X3, ud_X3_all, by decide +kernel⟩, un_X3_all, ue_X3_all⟩
theorem lk_L_77 : LkI RL 77 yX3_init cX3_init 1 0 := ⟨⟨um_L_77, ui_X3, ud_X3_init, by decide +kernel⟩, by decide +kernel, un_X3_init⟩
theorem lk_L_80 : LkI RL 80 yX4_init cX4_init 1 0 := ⟨⟨um_L_80, ui_X4, ud_X4_init, by decide +kernel⟩, by decide +kernel, un_X4_init⟩
theorem lk_L_86 : LkV RL 86 RX4 yX4_setHours cX4_setHours 4 (some .boolean) 2 := ⟨⟨um_L_86, ui_X4, ud_X4_setHours, by decide +kernel⟩, un_X4_setHours, ue_X4_setHours⟩
theorem lk_L_87 : LkV RL 87 RX4 yX4_thrown cX4_thrown 1 (some .int) 0 := ⟨⟨um_L_87, ui_X4, ud_X4_thrown, by decide +kernel⟩, un_X4_thrown, ue_X4_thrown⟩
theorem lk_L_94 : LkV RL 94 RX4 yX4_setTargets cX4_setTargets 5 (some .int) 3 := ⟨⟨um_L_94, ui_X4, ud_X4_setTargets, by decide +kernel⟩, un_X4_setTargets, ue_X4_setTargets⟩
theorem lk_L_95 : LkV RL 95 RX3 yX3_now cX3_now 1 (some .int) 0 := ⟨⟨um_L_95, ui_X3, ud_X3_now, by decide +kernel⟩, un_X3_now, ue_X3_now⟩
theorem lk_L_98 : LkV RL 98 RX4 yX4_now cX4_now 1 (some .int) 0 := ⟨⟨um_L_98, ui_X4, ud_X4_now, by decide +kernel⟩, un_X4_now, ue_X4_now⟩
theorem lk_L_101 : LkV RL 101 RX4 yX4_service cX4_service 3 (some .int) 2 := ⟨⟨um_L_101, ui_X4, ud_X4_service, by decide +kernel⟩, un_X4_service, ue_X4_service⟩
theorem lk_L_105 : LkV RL 105 RX4 yX4_addAgent cX4_addAgent 5 (some .int) 4 := ⟨⟨um_L_105, ui_X4, ud_X4_addAgent, by decide +kernel⟩, un_X4_addAgent, ue_X4_addAgent⟩
theorem lk_L_108 : LkV RL 108 RX4 yX4_setSkills cX4_setSkills 4 (some .int) 2 := ⟨⟨um_L_108, ui_X4, ud_X4_setSkills, by decide +kernel⟩, un_X4_setSkills, ue_X4_setSkills⟩
theorem lk_L_111 : LkV RL 111 RX4 yX4_agent cX4_agent 3 (some .int) 2 := ⟨⟨um_L_111, ui_X4, ud_X4_agent, by decide +kernel⟩, un_X4_agent, ue_X4_agent⟩
theorem lk_L_115 : LkV RL 115 RX4 yX4_next cX4_next 2 (some .int) 1 := ⟨⟨um_L_115, ui_X4, ud_X4_next, by decide +kernel⟩, un_X4_next, ue_X4_next⟩
theorem lk_L_118 : LkV RL 118 RX4 yX4_open cX4_open 5 (some .int) 4 := ⟨⟨um_L_118, ui_X4, ud_X4_open, by decide +kernel⟩, un_X4_open, ue_X4_open⟩
theorem lk_L_121 : LkV RL 121 RX4 yX4_setPriority cX4_setPriority 4 (some .int) 2 := ⟨⟨um_L_121, ui_X4, ud_X4_setPriority, by decide +kernel⟩, un_X4_setPriority, ue_X4_setPriority⟩
theorem lk_L_124 : LkV RL 124 RX4 yX4_pause cX4_pause 2 (some .int) 1 := ⟨⟨um_L_124, ui_X4, ud_X4_pause, by decide +kernel⟩, un_X4_pause, ue_X4_pause⟩
theorem lk_L_127 : LkV RL 127 RX4 yX4_resume cX4_resume 2 (some .int) 1 := ⟨⟨um_L_127, ui_X4, ud_X4_resume, by decide +kernel⟩, un_X4_resume, ue_X4_resume⟩
theorem lk_L_130 : LkV RL 130 RX4 yX4_merge cX4_merge 3 (some .int) 2 := ⟨⟨um_L_130, ui_X4, ud_X4_merge, by decide +kernel⟩, un_X4_merge, ue_X4_merge⟩
theorem lk_L_133 : LkV RL 133 RX4 yX4_reopen cX4_reopen 3 (some .int) 2 := ⟨⟨um_L_133, ui_X4, ud_X4_reopen, by decide +kernel⟩, un_X4_reopen, ue_X4_reopen⟩
theorem lk_L_134 : LkV RL 134 RX3 yX3_ticketCount cX3_ticketCount 1 (some .int) 0 := ⟨⟨um_L_134, ui_X3, ud_X3_ticketCount, by decide +kernel⟩, un_X3_ticketCount, ue_X3_ticketCount⟩
theorem lk_L_137 : LkV RL 137 RX4 yX4_ticketCount cX4_ticketCount 1 (some .int) 0 := ⟨⟨um_L_137, ui_X4, ud_X4_ticketCount, by decide +kernel⟩, un_X4_ticketCount, ue_X4_ticketCount⟩
theorem lk_L_140 : LkV RL 140 RX4 yX4_ticket cX4_ticket 3 (some .int) 2 := ⟨⟨um_L_140, ui_X4, ud_X4_ticket, by decide +kernel⟩, un_X4_ticket, ue_X4_ticket⟩
theorem lk_L_143 : LkV RL 143 RX4 yX4_main cX4_main 2 (some .int) 1 := ⟨⟨um_L_143, ui_X4, ud_X4_main, by decide +kernel⟩, un_X4_main, ue_X4_main⟩
theorem lk_L_146 : LkV RL 146 RX4 yX4_customers cX4_customers 2 (some .int) 1 := ⟨⟨um_L_146, ui_X4, ud_X4_customers, by decide +kernel⟩, un_X4_customers, ue_X4_customers⟩
theorem lk_L_149 : LkV RL 149 RX4 yX4_due cX4_due 4 (some .int) 1 := ⟨⟨um_L_149, ui_X4, ud_X4_due, by decide +kernel⟩, un_X4_due, ue_X4_due⟩
theorem lk_L_152 : LkV RL 152 RX4 yX4_pass cX4_pass 4 (some .int) 1 := ⟨⟨um_L_152, ui_X4, ud_X4_pass, by decide +kernel⟩, un_X4_pass, ue_X4_pass⟩
theorem lk_L_155 : LkV RL 155 RX4 yX4_all cX4_all 4 (some .int) 1 := ⟨⟨um_L_155, ui_X4, ud_X4_all, by decide +kernel⟩, un_X4_all, ue_X4_all⟩
theorem lk_L_156 : LkV RL 156 RX3 yX3_broken cX3_broken 5 (some .int) 1 := ⟨⟨um_L_156, ui_X3, ud_X3_broken, by decide +kernel⟩, un_X3_broken, ue_X3_broken⟩
theorem lk_L_160 : LkV RL 160 RX4 yX4_broken cX4_broken 4 (some .int) 1 := ⟨⟨um_L_160, ui_X4, ud_X4_broken, by decide +kernel⟩, un_X4_broken, ue_X4_broken⟩
theorem lk_L_161 : LkV RL 161 RX3 yX3_lacking cX3_lacking 4 (some .int) 0 := ⟨⟨um_L_161, ui_X3, ud_X3_lacking, by decide +kernel⟩, un_X3_lacking, ue_X3_lacking⟩
theorem lk_L_164 : LkV RL 164 RX4 yX4_lacking cX4_lacking 3 (some .int) 0 := ⟨⟨um_L_164, ui_X4, ud_X4_lacking, by decide +kernel⟩, un_X4_lacking, ue_X4_lacking⟩
theorem lk_L_165 : LkV RL 165 RX3 yX3_success cX3_success 5 (some .double) 0 := ⟨⟨um_L_165, ui_X3, ud_X3_success, by decide +kernel⟩, un_X3_success, ue_X3_success⟩
theorem lk_L_169 : LkV RL 169 RX4 yX4_success cX4_success 4 (some .double) 0 := ⟨⟨um_L_169, ui_X4, ud_X4_success, by decide +kernel⟩, un_X4_success, ue_X4_success⟩
theorem lk_L_170 : LkV RL 170 RX3 yX3_digest cX3_digest 4 (some .long) 0 := ⟨⟨um_L_170, ui_X3, ud_X3_digest, by decide +kernel⟩, un_X3_digest, ue_X3_digest⟩
theorem lk_L_174 : LkV RL 174 RX4 yX4_digest cX4_digest 5 (some .long) 0 := ⟨⟨um_L_174, ui_X4, ud_X4_digest, by decide +kernel⟩, un_X4_digest, ue_X4_digest⟩
theorem lk_X1_22 : LkV RX1 22 RX1 yX1_minutesOfDay cX1_minutesOfDay 6 (some .int) 3 := ⟨⟨um_X1_22, ui_X1, ud_X1_minutesOfDay, by decide +kernel⟩, un_X1_minutesOfDay, ue_X1_minutesOfDay⟩
theorem lk_X1_28 : LkS RX1 28 yJ9_max_7cf53 cJ9_max_7cf53 2 (some .int) 2 := ⟨⟨um_X1_28, ui_J9, ud_J9_max_7cf53, by decide +kernel⟩, us_J9_max_7cf53⟩
theorem lk_X1_34 : LkS RX1 34 yJ9_min_7cf53 cJ9_min_7cf53 2 (some .int) 2 := ⟨⟨um_X1_34, ui_J9, ud_J9_min_7cf53, by decide +kernel⟩, us_J9_min_7cf53⟩
theorem lk_X3_9 : LkI RX3 9 yX1_init cX1_init 1 0 := ⟨⟨um_X3_9, ui_X1, ud_X1_init, by decide +kernel⟩, by decide +kernel, un_X1_init⟩
theorem lk_X3_25 : LkI RX3 25 yJx4a65c_init_da8c8 cJx4a65c_init_da8c8 1 0 := ⟨⟨um_X3_25, ui_Jx4a65c, ud_Jx4a65c_init_da8c8, by decide +kernel⟩, by decide +kernel, un_Jx4a65c_init_da8c8⟩
theorem lk_X3_37 : LkS RX3 37 yX3_isSpanOfDay cX3_isSpanOfDay 2 (some .boolean) 2 := ⟨⟨um_X3_37, ui_X3, ud_X3_isSpanOfDay, by decide +kernel⟩, us_X3_isSpanOfDay⟩
theorem lk_X3_54 : LkS RX3 54 yX3_isPriority cX3_isPriority 1 (some .boolean) 1 := ⟨⟨um_X3_54, ui_X3, ud_X3_isPriority, by decide +kernel⟩, us_X3_isPriority⟩
theorem lk_X3_68 : LkV RX3 68 RX1 yX1_minutesBetween cX1_minutesBetween 5 (some .int) 2 := ⟨⟨um_X3_68, ui_X1, ud_X1_minutesBetween, by decide +kernel⟩, un_X1_minutesBetween, ue_X1_minutesBetween⟩
theorem lk_X3_72 : LkS RX3 72 yX3_isSetOfSkills cX3_isSetOfSkills 1 (some .boolean) 1 := ⟨⟨um_X3_72, ui_X3, ud_X3_isSetOfSkills, by decide +kernel⟩, us_X3_isSetOfSkills⟩
theorem lk_X3_77 : LkV RX3 77 RJx4a65c yJx4a65c_size_8abf5 cJx4a65c_size_8abf5 1 (some .int) 0 := ⟨⟨um_X3_77, ui_Jx4a65c, ud_Jx4a65c_size_8abf5, by decide +kernel⟩, un_Jx4a65c_size_8abf5, ue_Jx4a65c_size_8abf5⟩
theorem lk_X3_88 : LkI RX3 88 yX0_init cX0_init 6 5 := ⟨⟨um_X3_88, ui_X0, ud_X0_init, by decide +kernel⟩, by decide +kernel, un_X0_init⟩
theorem lk_X3_91 : LkV RX3 91 RJx4a65c yJx4a65c_add_9ea2d cJx4a65c_add_9ea2d 2 (some .boolean) 1 := ⟨⟨um_X3_91, ui_Jx4a65c, ud_Jx4a65c_add_9ea2d, by decide +kernel⟩, un_Jx4a65c_add_9ea2d, ue_Jx4a65c_add_9ea2d⟩
theorem lk_X3_98 : LkV RX3 98 RX3 yX3_agentAt cX3_agentAt 2 (some (.object "HelpDesk$Agent")) 1 := ⟨⟨um_X3_98, ui_X3, ud_X3_agentAt, by decide +kernel⟩, un_X3_agentAt, ue_X3_agentAt⟩
theorem lk_X3_116 : LkV RX3 116 RX0 yX0_hasSkill cX0_hasSkill 2 (some .boolean) 1 := ⟨⟨um_X3_116, ui_X0, ud_X0_hasSkill, by decide +kernel⟩, un_X0_hasSkill, ue_X0_hasSkill⟩
theorem lk_X3_119 : LkS RX3 119 yX3_handBack cX3_handBack 1 none 1 := ⟨⟨um_X3_119, ui_X3, ud_X3_handBack, by decide +kernel⟩, us_X3_handBack⟩
theorem lk_X3_125 : LkV RX3 125 RX3 yX3_toldOfAgent cX3_toldOfAgent 3 (some .int) 2 := ⟨⟨um_X3_125, ui_X3, ud_X3_toldOfAgent, by decide +kernel⟩, un_X3_toldOfAgent, ue_X3_toldOfAgent⟩
theorem lk_X3_129 : LkV RX3 129 RX3 yX3_firstByLiking cX3_firstByLiking 5 (some (.object "HelpDesk$Ticket")) 1 := ⟨⟨um_X3_129, ui_X3, ud_X3_firstByLiking, by decide +kernel⟩, un_X3_firstByLiking, ue_X3_firstByLiking⟩
theorem lk_X3_133 : LkS RX3 133 yX3_numberOfTicket cX3_numberOfTicket 1 (some .int) 1 := ⟨⟨um_X3_133, ui_X3, ud_X3_numberOfTicket, by decide +kernel⟩, us_X3_numberOfTicket⟩
theorem lk_X3_141 : LkI RX3 141 yX2_init cX2_init 6 5 := ⟨⟨um_X3_141, ui_X2, ud_X2_init, by decide +kernel⟩, by decide +kernel, un_X2_init⟩
theorem lk_X3_143 : LkV RX3 143 RX3 yX3_ticketAt cX3_ticketAt 2 (some (.object "HelpDesk$Ticket")) 1 := ⟨⟨um_X3_143, ui_X3, ud_X3_ticketAt, by decide +kernel⟩, un_X3_ticketAt, ue_X3_ticketAt⟩
theorem lk_X3_157 : LkS RX3 157 yX3_takeFromHolder cX3_takeFromHolder 2 none 1 := ⟨⟨um_X3_157, ui_X3, ud_X3_takeFromHolder, by decide +kernel⟩, us_X3_takeFromHolder⟩
theorem lk_X3_173 : LkV RX3 173 RX2 yX2_isOpen cX2_isOpen 1 (some .boolean) 0 := ⟨⟨um_X3_173, ui_X2, ud_X2_isOpen, by decide +kernel⟩, un_X2_isOpen, ue_X2_isOpen⟩
theorem lk_X3_182 : LkS RX3 182 yJ9_min_7cf53 cJ9_min_7cf53 2 (some .int) 2 := ⟨⟨um_X3_182, ui_J9, ud_J9_min_7cf53, by decide +kernel⟩, us_J9_min_7cf53⟩
theorem lk_X3_190 : LkS RX3 190 yJ9_max_7cf53 cJ9_max_7cf53 2 (some .int) 2 := ⟨⟨um_X3_190, ui_J9, ud_J9_max_7cf53, by decide +kernel⟩, us_J9_max_7cf53⟩
theorem lk_X3_208 : LkS RX3 208 yX3_toldOfTicket cX3_toldOfTicket 2 (some .int) 2 := ⟨⟨um_X3_208, ui_X3, ud_X3_toldOfTicket, by decide +kernel⟩, us_X3_toldOfTicket⟩
theorem lk_X3_212 : LkS RX3 212 yX3_mainOf cX3_mainOf 4 (some (.object "HelpDesk$Ticket")) 1 := ⟨⟨um_X3_212, ui_X3, ud_X3_mainOf, by decide +kernel⟩, us_X3_mainOf⟩
theorem lk_X3_216 : LkV RX3 216 RX3 yX3_slackOf cX3_slackOf 2 (some .int) 1 := ⟨⟨um_X3_216, ui_X3, ud_X3_slackOf, by decide +kernel⟩, un_X3_slackOf, ue_X3_slackOf⟩
theorem lk_X3_219 : LkV RX3 219 RX1 yX1_minuteOfService cX1_minuteOfService 6 (some .int) 2 := ⟨⟨um_X3_219, ui_X1, ud_X1_minuteOfService, by decide +kernel⟩, un_X1_minuteOfService, ue_X1_minuteOfService⟩
theorem lk_X3_226 : LkV RX3 226 RX3 yX3_passMinute cX3_passMinute 2 (some .int) 0 := ⟨⟨um_X3_226, ui_X3, ud_X3_passMinute, by decide +kernel⟩, un_X3_passMinute, ue_X3_passMinute⟩
theorem lk_X3_231 : LkV RX3 231 RJx4a65c yJx4a65c_get_915e3 cJx4a65c_get_915e3 2 (some (.object "java/lang/Object")) 1 := ⟨⟨um_X3_231, ui_Jx4a65c, ud_Jx4a65c_get_915e3, by decide +kernel⟩, un_Jx4a65c_get_915e3, ue_Jx4a65c_get_915e3⟩
theorem lk_X3_235 : LkV RX3 235 RX3 yX3_breaksAnswer cX3_breaksAnswer 3 (some .boolean) 1 := ⟨⟨um_X3_235, ui_X3, ud_X3_breaksAnswer, by decide +kernel⟩, un_X3_breaksAnswer, ue_X3_breaksAnswer⟩
theorem lk_X3_239 : LkV RX3 239 RX3 yX3_breaksSolution cX3_breaksSolution 2 (some .boolean) 1 := ⟨⟨um_X3_239, ui_X3, ud_X3_breaksSolution, by decide +kernel⟩, un_X3_breaksSolution, ue_X3_breaksSolution⟩
theorem lk_X3_244 : LkS RX3 244 yX3_digested cX3_digested 3 (some .long) 2 := ⟨⟨um_X3_244, ui_X3, ud_X3_digested, by decide +kernel⟩, us_X3_digested⟩
theorem lk_X3_248 : LkV RX3 248 RX3 yX3_digestedAgent cX3_digestedAgent 7 (some .long) 2 := ⟨⟨um_X3_248, ui_X3, ud_X3_digestedAgent, by decide +kernel⟩, un_X3_digestedAgent, ue_X3_digestedAgent⟩
theorem lk_X3_252 : LkS RX3 252 yX3_digestedTicket cX3_digestedTicket 6 (some .long) 2 := ⟨⟨um_X3_252, ui_X3, ud_X3_digestedTicket, by decide +kernel⟩, us_X3_digestedTicket⟩
theorem lk_X3_256 : LkV RX3 256 RX3 yX3_sendHomeAgents cX3_sendHomeAgents 4 none 0 := ⟨⟨um_X3_256, ui_X3, ud_X3_sendHomeAgents, by decide +kernel⟩, un_X3_sendHomeAgents, ue_X3_sendHomeAgents⟩
theorem lk_X3_259 : LkV RX3 259 RX3 yX3_giveOutTickets cX3_giveOutTickets 4 none 0 := ⟨⟨um_X3_259, ui_X3, ud_X3_giveOutTickets, by decide +kernel⟩, un_X3_giveOutTickets, ue_X3_giveOutTickets⟩
theorem lk_X3_262 : LkV RX3 262 RX1 yX1_isService cX1_isService 3 (some .boolean) 1 := ⟨⟨um_X3_262, ui_X1, ud_X1_isService, by decide +kernel⟩, un_X1_isService, ue_X1_isService⟩
theorem lk_X3_265 : LkV RX3 265 RX3 yX3_ageTickets cX3_ageTickets 3 none 0 := ⟨⟨um_X3_265, ui_X3, ud_X3_ageTickets, by decide +kernel⟩, un_X3_ageTickets, ue_X3_ageTickets⟩
theorem lk_X3_268 : LkV RX3 268 RX3 yX3_work cX3_work 5 (some .int) 0 := ⟨⟨um_X3_268, ui_X3, ud_X3_work, by decide +kernel⟩, un_X3_work, ue_X3_work⟩
theorem lk_X3_271 : LkV RX3 271 RX0 yX0_isThere cX0_isThere 3 (some .boolean) 1 := ⟨⟨um_X3_271, ui_X0, ud_X0_isThere, by decide +kernel⟩, un_X0_isThere, ue_X0_isThere⟩
theorem lk_X3_274 : LkS RX3 274 yX3_give cX3_give 2 none 2 := ⟨⟨um_X3_274, ui_X3, ud_X3_give, by decide +kernel⟩, us_X3_give⟩
theorem lk_X3_281 : LkV RX3 281 RX3 yX3_solve cX3_solve 3 none 2 := ⟨⟨um_X3_281, ui_X3, ud_X3_solve, by decide +kernel⟩, un_X3_solve, ue_X3_solve⟩
theorem lk_X3_297 : LkV RX3 297 RX3 yX3_isLikedMore cX3_isLikedMore 6 (some .boolean) 3 := ⟨⟨um_X3_297, ui_X3, ud_X3_isLikedMore, by decide +kernel⟩, un_X3_isLikedMore, ue_X3_isLikedMore⟩
theorem lk_X3_301 : LkS RX3 301 yX3_numberOfAgent cX3_numberOfAgent 1 (some .int) 1 := ⟨⟨um_X3_301, ui_X3, ud_X3_numberOfAgent, by decide +kernel⟩, us_X3_numberOfAgent⟩
theorem lk_X4_83 : LkS RX4 83 yX4_isIn cX4_isIn 3 (some .boolean) 3 := ⟨⟨um_X4_83, ui_X4, ud_X4_isIn, by decide +kernel⟩, us_X4_isIn⟩
theorem lk_X4_90 : LkV RX4 90 RX4 yX4_no cX4_no 2 (some .int) 1 := ⟨⟨um_X4_90, ui_X4, ud_X4_no, by decide +kernel⟩, un_X4_no, ue_X4_no⟩
theorem lk_X4_97 : LkS RX4 97 yJ9_min_7cf53 cJ9_min_7cf53 2 (some .int) 2 := ⟨⟨um_X4_97, ui_J9, ud_J9_min_7cf53, by decide +kernel⟩, us_J9_min_7cf53⟩
theorem lk_X4_103 : LkS RX4 103 yJ9_max_7cf53 cJ9_max_7cf53 2 (some .int) 2 := ⟨⟨um_X4_103, ui_J9, ud_J9_max_7cf53, by decide +kernel⟩, us_J9_max_7cf53⟩
theorem lk_X4_107 : LkV RX4 107 RX4 yX4_serviceAhead cX4_serviceAhead 5 (some .int) 1 := ⟨⟨um_X4_107, ui_X4, ud_X4_serviceAhead, by decide +kernel⟩, un_X4_serviceAhead, ue_X4_serviceAhead⟩
theorem lk_X4_110 : LkV RX4 110 RX4 yX4_isAgent cX4_isAgent 2 (some .boolean) 1 := ⟨⟨um_X4_110, ui_X4, ud_X4_isAgent, by decide +kernel⟩, un_X4_isAgent, ue_X4_isAgent⟩
theorem lk_X4_114 : LkS RX4 114 yX4_has cX4_has 2 (some .boolean) 2 := ⟨⟨um_X4_114, ui_X4, ud_X4_has, by decide +kernel⟩, us_X4_has⟩
theorem lk_X4_118 : LkV RX4 118 RX4 yX4_leave cX4_leave 4 none 2 := ⟨⟨um_X4_118, ui_X4, ud_X4_leave, by decide +kernel⟩, un_X4_leave, ue_X4_leave⟩
theorem lk_X4_122 : LkV RX4 122 RX4 yX4_isThere cX4_isThere 2 (some .boolean) 1 := ⟨⟨um_X4_122, ui_X4, ud_X4_isThere, by decide +kernel⟩, un_X4_isThere, ue_X4_isThere⟩
theorem lk_X4_125 : LkV RX4 125 RX4 yX4_toldAgent cX4_toldAgent 3 (some .int) 2 := ⟨⟨um_X4_125, ui_X4, ud_X4_toldAgent, by decide +kernel⟩, un_X4_toldAgent, ue_X4_toldAgent⟩
theorem lk_X4_128 : LkV RX4 128 RX4 yX4_slack cX4_slack 2 (some .int) 1 := ⟨⟨um_X4_128, ui_X4, ud_X4_slack, by decide +kernel⟩, un_X4_slack, ue_X4_slack⟩
theorem lk_X4_131 : LkV RX4 131 RX4 yX4_likes cX4_likes 5 (some .boolean) 3 := ⟨⟨um_X4_131, ui_X4, ud_X4_likes, by decide +kernel⟩, un_X4_likes, ue_X4_likes⟩
theorem lk_X4_134 : LkV RX4 134 RX4 yX4_nextOf cX4_nextOf 4 (some .int) 1 := ⟨⟨um_X4_134, ui_X4, ud_X4_nextOf, by decide +kernel⟩, un_X4_nextOf, ue_X4_nextOf⟩
theorem lk_X4_137 : LkV RX4 137 RX4 yX4_isTicket cX4_isTicket 2 (some .boolean) 1 := ⟨⟨um_X4_137, ui_X4, ud_X4_isTicket, by decide +kernel⟩, un_X4_isTicket, ue_X4_isTicket⟩
theorem lk_X4_140 : LkV RX4 140 RX4 yX4_isOpen cX4_isOpen 2 (some .boolean) 1 := ⟨⟨um_X4_140, ui_X4, ud_X4_isOpen, by decide +kernel⟩, un_X4_isOpen, ue_X4_isOpen⟩
theorem lk_X4_143 : LkV RX4 143 RX4 yX4_customersOf cX4_customersOf 4 (some .int) 1 := ⟨⟨um_X4_143, ui_X4, ud_X4_customersOf, by decide +kernel⟩, un_X4_customersOf, ue_X4_customersOf⟩
theorem lk_X4_146 : LkV RX4 146 RX4 yX4_agentOf cX4_agentOf 3 (some .int) 1 := ⟨⟨um_X4_146, ui_X4, ud_X4_agentOf, by decide +kernel⟩, un_X4_agentOf, ue_X4_agentOf⟩
theorem lk_X4_149 : LkV RX4 149 RX4 yX4_toldTicket cX4_toldTicket 3 (some .int) 2 := ⟨⟨um_X4_149, ui_X4, ud_X4_toldTicket, by decide +kernel⟩, un_X4_toldTicket, ue_X4_toldTicket⟩
theorem lk_X4_152 : LkV RX4 152 RX4 yX4_isWithin cX4_isWithin 4 (some .boolean) 2 := ⟨⟨um_X4_152, ui_X4, ud_X4_isWithin, by decide +kernel⟩, un_X4_isWithin, ue_X4_isWithin⟩
theorem lk_X4_155 : LkV RX4 155 RX4 yX4_mainOf cX4_mainOf 3 (some .int) 1 := ⟨⟨um_X4_155, ui_X4, ud_X4_mainOf, by decide +kernel⟩, un_X4_mainOf, ue_X4_mainOf⟩
theorem lk_X4_158 : LkV RX4 158 RX4 yX4_isService cX4_isService 2 (some .boolean) 1 := ⟨⟨um_X4_158, ui_X4, ud_X4_isService, by decide +kernel⟩, un_X4_isService, ue_X4_isService⟩
theorem lk_X4_161 : LkV RX4 161 RX4 yX4_passMinute cX4_passMinute 4 (some .int) 0 := ⟨⟨um_X4_161, ui_X4, ud_X4_passMinute, by decide +kernel⟩, un_X4_passMinute, ue_X4_passMinute⟩
theorem lk_X4_165 : LkV RX4 165 RX4 yX4_breaks cX4_breaks 3 (some .boolean) 2 := ⟨⟨um_X4_165, ui_X4, ud_X4_breaks, by decide +kernel⟩, un_X4_breaks, ue_X4_breaks⟩
theorem uk_X3 : Cond.instantiable RX3 6 ∈ Uw := Uw_of (i := 61) (by decide +kernel) (by decide +kernel)
theorem uk_X1 : Cond.instantiable RX1 2 ∈ Uw := Uw_of (i := 69) (by decide +kernel) (by decide +kernel)
theorem uk_Jx4a65c : Cond.instantiable RJx4a65c 3 ∈ Uw := Uw_of (i := 84) (by decide +kernel) (by decide +kernel)
theorem ua_int : Cond.arrayClass .int ∈ Uw := Uw_of (i := 109) (by decide +kernel) (by decide +kernel)
theorem ua_byte : Cond.arrayClass .byte ∈ Uw := Uw_of (i := 302) (by decide +kernel) (by decide +kernel)
theorem uk_X0 : Cond.instantiable RX0 8 ∈ Uw := Uw_of (i := 383) (by decide +kernel) (by decide +kernel)
theorem uk_X2 : Cond.instantiable RX2 15 ∈ Uw := Uw_of (i := 522) (by decide +kernel) (by decide +kernel)
theorem uk_X4 : Cond.instantiable RX4 26 ∈ Uw := Uw_of (i := 713) (by decide +kernel) (by decide +kernel)
theorem ua_long : Cond.arrayClass .long ∈ Uw := Uw_of (i := 988) (by decide +kernel) (by decide +kernel)
theorem lt_eA : LkT RX3 41 45 eA := ⟨ul_X3_41, ui_IllegalArgumentException, by decide +kernel, by decide +kernel, by decide +kernel, by decide +kernel⟩
theorem lt_eS : LkT RX3 81 85 eS := ⟨ul_X3_81, ui_IllegalStateException, by decide +kernel, by decide +kernel, by decide +kernel, by decide +kernel⟩
theorem lt_eI : LkT RX3 58 62 eI := ⟨ul_X3_58, ui_IndexOutOfBoundsException, by decide +kernel, by decide +kernel, by decide +kernel, by decide +kernel⟩
end
