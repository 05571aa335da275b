section
-- ===== PART A: goes FIRST, ahead of the names: the tables' words, and 'selects' of the private methods out of them =====
/-- a private method of a class that the tables say can be made, by its rows of tables_1 -/
def lw_okq (q : MethodName × Nat) : Prop := (q.1.cls ≠ "java/lang/invoke/MethodHandle" ∧ q.1.cls ≠ "java/lang/invoke/VarHandle") ∧ Cond.instantiable q.1.cls q.2 ∈ tables_1 ∧ Cond.privateMethod q.1 ∈ tables_1 ∧ Cond.instanceMethod q.1 ∈ tables_1
theorem lw_p0 : lw_okq (⟨"java/lang/Throwable", "fillInStackTrace", "(I)Ljava/lang/Throwable;"⟩, 6) := ⟨⟨by decide +kernel, by decide +kernel⟩, List.mem_of_getElem? (i := 137) (by decide +kernel), List.mem_of_getElem? (i := 135) (by decide +kernel), List.mem_of_getElem? (i := 136) (by decide +kernel)⟩
theorem lw_p1 : lw_okq (⟨"HelpDesk$Hours", "minutesOfDay", "(III)I"⟩, 2) := ⟨⟨by decide +kernel, by decide +kernel⟩, List.mem_of_getElem? (i := 29) (by decide +kernel), List.mem_of_getElem? (i := 171) (by decide +kernel), List.mem_of_getElem? (i := 172) (by decide +kernel)⟩
theorem lw_p2 : lw_okq (⟨"HelpDesk", "agentAt", "(I)LHelpDesk$Agent;"⟩, 6) := ⟨⟨by decide +kernel, by decide +kernel⟩, List.mem_of_getElem? (i := 21) (by decide +kernel), List.mem_of_getElem? (i := 188) (by decide +kernel), List.mem_of_getElem? (i := 189) (by decide +kernel)⟩
theorem lw_p3 : lw_okq (⟨"HelpDesk", "toldOfAgent", "(LHelpDesk$Agent;I)I"⟩, 6) := ⟨⟨by decide +kernel, by decide +kernel⟩, List.mem_of_getElem? (i := 21) (by decide +kernel), List.mem_of_getElem? (i := 228) (by decide +kernel), List.mem_of_getElem? (i := 229) (by decide +kernel)⟩
theorem lw_p4 : lw_okq (⟨"HelpDesk", "ticketAt", "(I)LHelpDesk$Ticket;"⟩, 6) := ⟨⟨by decide +kernel, by decide +kernel⟩, List.mem_of_getElem? (i := 21) (by decide +kernel), List.mem_of_getElem? (i := 244) (by decide +kernel), List.mem_of_getElem? (i := 245) (by decide +kernel)⟩
theorem lw_p5 : lw_okq (⟨"HelpDesk", "passMinute", "()I"⟩, 6) := ⟨⟨by decide +kernel, by decide +kernel⟩, List.mem_of_getElem? (i := 21) (by decide +kernel), List.mem_of_getElem? (i := 309) (by decide +kernel), List.mem_of_getElem? (i := 310) (by decide +kernel)⟩
theorem lw_p6 : lw_okq (⟨"HelpDesk", "sendHomeAgents", "()V"⟩, 6) := ⟨⟨by decide +kernel, by decide +kernel⟩, List.mem_of_getElem? (i := 21) (by decide +kernel), List.mem_of_getElem? (i := 313) (by decide +kernel), List.mem_of_getElem? (i := 314) (by decide +kernel)⟩
theorem lw_p7 : lw_okq (⟨"HelpDesk", "giveOutTickets", "()V"⟩, 6) := ⟨⟨by decide +kernel, by decide +kernel⟩, List.mem_of_getElem? (i := 21) (by decide +kernel), List.mem_of_getElem? (i := 320) (by decide +kernel), List.mem_of_getElem? (i := 321) (by decide +kernel)⟩
theorem lw_p8 : lw_okq (⟨"HelpDesk", "firstByLiking", "(LHelpDesk$Agent;)LHelpDesk$Ticket;"⟩, 6) := ⟨⟨by decide +kernel, by decide +kernel⟩, List.mem_of_getElem? (i := 21) (by decide +kernel), List.mem_of_getElem? (i := 324) (by decide +kernel), List.mem_of_getElem? (i := 325) (by decide +kernel)⟩
theorem lw_p9 : lw_okq (⟨"HelpDesk", "isLikedMore", "(LHelpDesk$Agent;LHelpDesk$Ticket;LHelpDesk$Ticket;)Z"⟩, 6) := ⟨⟨by decide +kernel, by decide +kernel⟩, List.mem_of_getElem? (i := 21) (by decide +kernel), List.mem_of_getElem? (i := 332) (by decide +kernel), List.mem_of_getElem? (i := 333) (by decide +kernel)⟩
theorem lw_p10 : lw_okq (⟨"HelpDesk", "slackOf", "(LHelpDesk$Ticket;)I"⟩, 6) := ⟨⟨by decide +kernel, by decide +kernel⟩, List.mem_of_getElem? (i := 21) (by decide +kernel), List.mem_of_getElem? (i := 336) (by decide +kernel), List.mem_of_getElem? (i := 337) (by decide +kernel)⟩
theorem lw_p11 : lw_okq (⟨"HelpDesk", "ageTickets", "()V"⟩, 6) := ⟨⟨by decide +kernel, by decide +kernel⟩, List.mem_of_getElem? (i := 21) (by decide +kernel), List.mem_of_getElem? (i := 347) (by decide +kernel), List.mem_of_getElem? (i := 348) (by decide +kernel)⟩
theorem lw_p12 : lw_okq (⟨"HelpDesk", "work", "()I"⟩, 6) := ⟨⟨by decide +kernel, by decide +kernel⟩, List.mem_of_getElem? (i := 21) (by decide +kernel), List.mem_of_getElem? (i := 351) (by decide +kernel), List.mem_of_getElem? (i := 352) (by decide +kernel)⟩
theorem lw_p13 : lw_okq (⟨"HelpDesk", "solve", "(LHelpDesk$Ticket;LHelpDesk$Agent;)V"⟩, 6) := ⟨⟨by decide +kernel, by decide +kernel⟩, List.mem_of_getElem? (i := 21) (by decide +kernel), List.mem_of_getElem? (i := 355) (by decide +kernel), List.mem_of_getElem? (i := 356) (by decide +kernel)⟩
theorem lw_p14 : lw_okq (⟨"java/util/ArrayList", "add", "(Ljava/lang/Object;[Ljava/lang/Object;I)V"⟩, 3) := ⟨⟨by decide +kernel, by decide +kernel⟩, List.mem_of_getElem? (i := 44) (by decide +kernel), List.mem_of_getElem? (i := 436) (by decide +kernel), List.mem_of_getElem? (i := 437) (by decide +kernel)⟩
theorem lw_p15 : lw_okq (⟨"java/util/ArrayList", "grow", "()[Ljava/lang/Object;"⟩, 3) := ⟨⟨by decide +kernel, by decide +kernel⟩, List.mem_of_getElem? (i := 44) (by decide +kernel), List.mem_of_getElem? (i := 440) (by decide +kernel), List.mem_of_getElem? (i := 441) (by decide +kernel)⟩
def lw_privs_1 : List (MethodName × Nat) := [(⟨"java/lang/Throwable", "fillInStackTrace", "(I)Ljava/lang/Throwable;"⟩, 6), (⟨"HelpDesk$Hours", "minutesOfDay", "(III)I"⟩, 2), (⟨"HelpDesk", "agentAt", "(I)LHelpDesk$Agent;"⟩, 6), (⟨"HelpDesk", "toldOfAgent", "(LHelpDesk$Agent;I)I"⟩, 6), (⟨"HelpDesk", "ticketAt", "(I)LHelpDesk$Ticket;"⟩, 6), (⟨"HelpDesk", "passMinute", "()I"⟩, 6), (⟨"HelpDesk", "sendHomeAgents", "()V"⟩, 6), (⟨"HelpDesk", "giveOutTickets", "()V"⟩, 6), (⟨"HelpDesk", "firstByLiking", "(LHelpDesk$Agent;)LHelpDesk$Ticket;"⟩, 6), (⟨"HelpDesk", "isLikedMore", "(LHelpDesk$Agent;LHelpDesk$Ticket;LHelpDesk$Ticket;)Z"⟩, 6), (⟨"HelpDesk", "slackOf", "(LHelpDesk$Ticket;)I"⟩, 6), (⟨"HelpDesk", "ageTickets", "()V"⟩, 6), (⟨"HelpDesk", "work", "()I"⟩, 6), (⟨"HelpDesk", "solve", "(LHelpDesk$Ticket;LHelpDesk$Agent;)V"⟩, 6), (⟨"java/util/ArrayList", "add", "(Ljava/lang/Object;[Ljava/lang/Object;I)V"⟩, 3), (⟨"java/util/ArrayList", "grow", "()[Ljava/lang/Object;"⟩, 3)]
theorem lw_r1 : ∀ q ∈ lw_privs_1, lw_okq q := List.forall_mem_cons.mpr ⟨lw_p0, List.forall_mem_cons.mpr ⟨lw_p1, List.forall_mem_cons.mpr ⟨lw_p2, List.forall_mem_cons.mpr ⟨lw_p3, List.forall_mem_cons.mpr ⟨lw_p4, List.forall_mem_cons.mpr ⟨lw_p5, List.forall_mem_cons.mpr ⟨lw_p6, List.forall_mem_cons.mpr ⟨lw_p7, List.forall_mem_cons.mpr ⟨lw_p8, List.forall_mem_cons.mpr ⟨lw_p9, List.forall_mem_cons.mpr ⟨lw_p10, List.forall_mem_cons.mpr ⟨lw_p11, List.forall_mem_cons.mpr ⟨lw_p12, List.forall_mem_cons.mpr ⟨lw_p13, List.forall_mem_cons.mpr ⟨lw_p14, List.forall_mem_cons.mpr ⟨lw_p15, fun _ h => absurd h List.not_mem_nil⟩⟩⟩⟩⟩⟩⟩⟩⟩⟩⟩⟩⟩⟩⟩⟩
theorem lw_p16 : lw_okq (⟨"java/util/ArrayList", "grow", "(I)[Ljava/lang/Object;"⟩, 3) := ⟨⟨by decide +kernel, by decide +kernel⟩, List.mem_of_getElem? (i := 44) (by decide +kernel), List.mem_of_getElem? (i := 444) (by decide +kernel), List.mem_of_getElem? (i := 445) (by decide +kernel)⟩
def lw_privs_2 : List (MethodName × Nat) := [(⟨"java/util/ArrayList", "grow", "(I)[Ljava/lang/Object;"⟩, 3)]
theorem lw_r2 : ∀ q ∈ lw_privs_2, lw_okq q := List.forall_mem_cons.mpr ⟨lw_p16, fun _ h => absurd h List.not_mem_nil⟩
def lw_privs : List (MethodName × Nat) := lw_privs_1 ++ (lw_privs_2)
def lw_tbl : List Cond := k2_sels lw_privs ++ tables_1
theorem lw_privs_ok : ∀ q ∈ lw_privs, lw_okq q := by
  show ∀ q ∈ lw_privs_1 ++ (lw_privs_2), lw_okq q
  exact List.forall_mem_append.mpr ⟨lw_r1, lw_r2⟩
end
section
/-! ===== BEGIN words of one list among another's, by their places ===== -/
theorem goodIn_r {big : List Cond} (ws : List Cond) (ps : List Nat) (hp : ws = ps.filterMap (fun i => big[i]?)) (h : ws.all goodWord = true) : GoodIn big ws := by
  intro w hw
  have h1 := List.all_eq_true.mp h w hw
  rw [hp] at hw
  obtain ⟨i, -, hi⟩ := List.mem_filterMap.mp hw
  have hm : w ∈ big := by first | exact List.mem_of_getElem? hi | exact List.getElem?_mem hi
  exact ⟨hm, good_of_word h1⟩
theorem goodIn_app {big a b : List Cond} (ha : GoodIn big a) (hb : GoodIn big b) : GoodIn big (a ++ b) := fun w h => (List.mem_append.mp h).elim (ha w) (hb w)
theorem goodIn_ca {big a b : List Cond} {c : Cond} (ha : GoodIn big (c :: a)) (hb : GoodIn big b) : GoodIn big (c :: (a ++ b)) := fun w h => (List.mem_cons.mp h).elim (fun e => ha w (List.mem_cons.mpr (Or.inl e))) (fun h => (List.mem_append.mp h).elim (fun h => ha w (List.mem_cons.mpr (Or.inr h))) (hb w))
theorem goodIn_sub {big ws : List Cond} (hm : ∀ w ∈ ws, w ∈ big) (h : ws.all goodWord = true) : GoodIn big ws := fun w hw => ⟨hm w hw, good_of_word (List.all_eq_true.mp h w hw)⟩
/-! ===== END ===== -/

/-! ===== BEGIN exceptions that leave a method, and their catching by the caller (launches without stack traces) ===== -/
section VXA
/-! The laws vx_back, vx_callV, vx_callS, vx_callSW, vx_throw0, vx_throwS follow proofs of the library, with one case more: JvmDerived/Free/Laws.lean (Back.of_free), Shelf42/LK1.lean (callV, callS), Shelf/KitTraced.lean (throwNew0V, throwNewS). -/
/-- where a method has thrown q: the class by its name, the cell, what was written, the world -/
def vx_T (XC : String → State → State → Prop) (st : State) (q : Addr) (t : State) (mc ms : Nat) (free : Addr → Prop) : Prop :=
  ∃ (E : String) (ce : Cell) (L : List Loc), XC E st t ∧ t.heap[q]? = some ce ∧ ce.vm = .none ∧ st.vm.findClass E = some ce.cls ∧ st.WarmedH t.vm ∧ st.sameButNew ({ t with vm := st.vm } : State) L mc ms ∧ ∀ z ∈ L, free z.base
def vx_Q (Qc : Array Value → State → Outcome → State → Prop) (XC : String → State → State → Prop) (mc ms : Nat) (free : Addr → Prop) : Array Value → State → Outcome → State → Prop := fun a st o t =>
  (Qc a st o t ∧ ∃ L, FrameEnd st o t L mc ms ∧ ∀ q ∈ L, free q.base) ∨ ∃ q, o = .threw q ∧ vx_T XC st q t mc ms free
/-- a callee that returns or throws -/
def vx_Met (l : Launch) (y : MethodName) (ws : List Cond) (rm : Room) (Pc : Array Value → State → Prop) (Qc : Array Value → State → Outcome → State → Prop) (XC : String → State → State → Prop) (mc ms : Nat) (free : Addr → Prop) : Prop :=
  MetFree l y (headSpec ws rm) Pc (fun _ _ _ _ _ => True) (vx_Q Qc XC mc ms free)
def vx_Post (XC : String → State → State → Prop) (mc ms : Nat) (free : Addr → Prop) : Pt → Array Value → Addr → Pt → Prop := fun A a q B =>
  ∃ (g : JFrame) (mk : MethodId) (t : State) (L : List Loc) (E : String) (ce : Cell), B.U.heap = t.heap ∧ B.U.vm = t.vm ∧ XC E (A.U.calling g mk a) t ∧ t.heap[q]? = some ce ∧ ce.vm = .none ∧ A.U.vm.findClass E = some ce.cls ∧ B.locs = A.locs ++ L ∧ (∀ z ∈ L, free z.base) ∧ B.cells = A.cells + mc ∧ B.slots = A.slots + ms
def vx_Back (l : Launch) (R : Room) (p : Program) (e : Env) (below : List Frame) (s : State) (sargs : Array Value) (y : MethodName) (len W9 : Nat)
    (Pre : Pt → Array Value → Prop) (Post : Pt → Array Value → Option Value → Pt → Prop) (PostX : Pt → Array Value → Addr → Pt → Prop) : Prop :=
  ∀ (m : MethodId) (meth : Method) (c : Code) (A : Pt) (g : JFrame) (ig : Instr) (mk : MethodId) (a : Array Value),
    Stand p l e R s m sargs below meth c A.U A.locs A.cells A.slots → g.method = m → g.locals.size = c.maxLocals → decode c.code g.pc = .ok (ig, len) →
    2 * g.monitorRoom + (g.stack.map fun v => v.category).sum ≤ W9 → A.U.methodNamed? y = some mk → Pre A a →
    (∃ (v : Option Value) (B : Pt), Stand p l e R s m sargs below meth c B.U B.locs B.cells B.slots ∧ Post A a v B ∧
      Steps p.tables e below (doInvoke e (A.U.setTop g) [] mk a).1 (B.U.setTop { g with pc := g.pc + len, stack := v.toList ++ g.stack })) ∨
    (∃ (q : Addr) (B : Pt), Stand p l e R s m sargs below meth c B.U B.locs B.cells B.slots ∧ PostX A a q B ∧
      Steps p.tables e below (doInvoke e (A.U.setTop g) [] mk a).1 ((B.U.setTop g).pushFrame (.throwing q)))
section Payer
variable {l : Launch} {R : Room} {p : Program} {e : Env} {below : List Frame} {s : State} {sargs : Array Value} {y : MethodName} {len W9 : Nat}
theorem vx_back {ws : List Cond} {rm : Room} {Pc : Array Value → State → Prop} {Qc : Array Value → State → Outcome → State → Prop} {XC : String → State → State → Prop} {mc ms : Nat} {free : Addr → Prop} {bytes : ByteArray} {maxL : Nat} {ret : Option FieldType}
    (hM : vx_Met l y ws rm Pc Qc XC mc ms free) (hblind : FrameBlind Pc) (hrc : rm.cells = mc) (hrs : rm.slots = ms)
    (hframes : rm.frames + 1 ≤ R.frames) (hlocals : W9 + (maxL + 11) + rm.locals ≤ R.locals)
    (hws : ∀ w ∈ ws, ∀ a' U, s.WarmedH U.vm → w.before a' U = true) (hcode : Cond.code y bytes maxL ret ∈ ws) (hinit : ∀ a' U, s.WarmedH U.vm → (Cond.initialized y.cls).before a' U = true) :
    vx_Back l R p e below s sargs y len W9 (PreOf R mc ms Pc) (PostOf Qc mc ms free) (vx_Post XC mc ms free) := by
  intro m meth c A g ig mk a X hg hsize hdg hW hn hp
  have h1 : (headSpec ws rm).pre.before a A.U = true := atoms_intro fun w hw => hws w hw _ _ X.warmed
  have h2 : (Cond.code y bytes maxL ret).before a A.U = true := hws _ hcode _ _ X.warmed
  have h3 : (Cond.initialized y.cls).before a A.U = true := hinit _ _ X.warmed
  have h4 : A.cells + (headSpec ws rm).room.cells ≤ R.cells := by rw [show (headSpec ws rm).room.cells = mc from hrc]; exact hp.1
  have h5 : A.slots + (headSpec ws rm).room.slots ≤ R.slots := by rw [show (headSpec ws rm).room.slots = ms from hrs]; exact hp.2.1
  have hPc : Pc a (A.U.calling g mk a) := hblind _ _ _ _ hp.2.2
  obtain ⟨U, Ls, c0, s0⟩ := A
  dsimp only [Pt.U, Pt.locs, Pt.cells, Pt.slots] at h1 h2 h3 h4 h5 X hn hPc ⊢
  obtain ⟨methY, cY, hmY, hcY, -, hlY, -, -, -, -⟩ := Cond.code_spec hn h2
  obtain ⟨kY, hkY, -⟩ := className_of_methodNamed hn
  have hinitY : kY.init = .initialized := Cond.initialized_spec (findClass_of_methodNamed hn) hkY h3
  have h : At U g.method c below := by rw [hg]; exact X.here
  have hlocals9 : W9 + (maxL + 11) + (headSpec ws rm).room.locals ≤ R.locals := hlocals
  have happ : (headSpec ws rm).appliesLoose y e.platform (U.calling g mk a) = true :=
    Spec.appliesLoose_calling (g := g) h hdg hn hkY hinitY
      (X.room_calling (g := g) (R' := (headSpec ws rm).room) hsize hmY hcY hframes (by rw [hlY]; omega) h4 h5) h1
  obtain ⟨mid, hmid⟩ := h.above
  have hfr : (U.setTop g).frames = (.java g :: mid) ++ below := by rw [State.frames_setTop' g h.top, hmid]; rfl
  obtain ⟨o, s₂, hsteps, -, hend, hq⟩ := Steps.callFree hM p X.admits X.cas X.clock (acts := []) hfr happ hPc trivial
  have hq' : vx_Q Qc XC mc ms free a (U.calling g mk a) o s₂ := hq
  rw [State.frames_setTop' g h.top] at hend
  obtain ⟨g₀, hg0⟩ := Option.isSome_iff_exists.mp h.top
  obtain ⟨r, hr⟩ := State.topJava?_eq_some.mp hg0
  have hr' : (({ U with heap := s₂.heap, slotsUsed := s₂.slotsUsed } : State).setVm s₂.vm).frames = .java g₀ :: r := hr
  rcases hq' with ⟨hqc, L, hfe, hL⟩ | ⟨q, rfl, E, ce, L, hx, hce, hcv, hcl, hW₂, hsm, hL⟩
  · obtain ⟨⟨v, rfl⟩, hW₂, e2, q2, q3, q4, q5, q6⟩ := id hfe
    have e3 : s₂ = ({ (U.calling g mk a).setFrames s₂.frames with heap := s₂.heap, slotsUsed := s₂.slotsUsed } : State).setVm s₂.vm := by
      have : s₂ = ({ s₂ with vm := (U.calling g mk a).vm } : State).setVm s₂.vm := rfl
      rw [e2] at this
      exact this
    obtain ⟨c₂, i₂, len₂, hc₂, hd₂, hf₂⟩ := hend
    have hW' : U.WarmedH s₂.vm := hW₂
    have hcc : c₂ = c := by
      have h1 : s₂.code? g.method = U.code? g.method := by
        rw [State.code?_eq, State.code?_eq, hW'.alike.method?]
      exact Option.some.inj (hc₂.symm.trans (h1.trans h.code))
    subst hcc
    have hlen : len₂ = len := by rw [hdg] at hd₂; cases hd₂; rfl
    subst hlen
    have hs₂ : s₂ = (({ U with heap := s₂.heap, slotsUsed := s₂.slotsUsed } : State).setVm s₂.vm).setTop { g with pc := g.pc + len₂, stack := v.toList ++ g.stack } := by
      refine e3.trans ?_
      rw [hf₂, State.calling_eq h.top, State.setFrames_setFrames, State.setTop_of_frames _ hr', hr]
      rfl
    have hsame : U.sameButNew ({ U with heap := s₂.heap, slotsUsed := s₂.slotsUsed } : State) L mc ms := by
      refine ⟨?_, q2, q3, q4, q5, q6⟩
      obtain ⟨t, ht, -⟩ := State.frames_cons hr
      show ({ U with heap := s₂.heap, slotsUsed := s₂.slotsUsed } : State) = { U.setFrames U.frames with heap := s₂.heap, slotsUsed := s₂.slotsUsed }
      rw [State.setFrames_self ht]
    subst hg
    refine Or.inl ⟨v, ⟨(({ U with heap := s₂.heap, slotsUsed := s₂.slotsUsed } : State).setVm s₂.vm), Ls ++ L, c0 + mc, s0 + ms⟩,
      ⟨X.admits, X.cas, X.clock, X.frames, X.room, X.hears, X.method, X.code, (X.here.setHeapUsed s₂.heap s₂.slotsUsed).setVm hW'.alike, X.tail, State.WarmedH.trans X.warmed hW', X.limits, X.bytes, X.same.trans (hsame.setVm s.vm)⟩,
      ⟨g, mk, s₂, L, rfl, rfl, hqc, rfl, hL, rfl, rfl⟩, ?_⟩
    show Steps p.tables e below _ ((({ U with heap := s₂.heap, slotsUsed := s₂.slotsUsed } : State).setVm s₂.vm).setTop { g with pc := g.pc + len₂, stack := v.toList ++ g.stack })
    rw [← hs₂]
    exact hsteps
  · obtain ⟨e2, q2, q3, q4, q5, q6⟩ := id hsm
    have e3 : s₂ = ({ (U.calling g mk a).setFrames s₂.frames with heap := s₂.heap, slotsUsed := s₂.slotsUsed } : State).setVm s₂.vm := by
      have : s₂ = ({ s₂ with vm := (U.calling g mk a).vm } : State).setVm s₂.vm := rfl
      rw [e2] at this
      exact this
    have hf₂ : s₂.frames = .throwing q :: .java g :: U.frames.tail := hend
    have hW' : U.WarmedH s₂.vm := hW₂
    have hs₂ : s₂ = ((({ U with heap := s₂.heap, slotsUsed := s₂.slotsUsed } : State).setVm s₂.vm).setTop g).pushFrame (.throwing q) := by
      refine e3.trans ?_
      rw [hf₂, State.calling_eq h.top, State.setFrames_setFrames, State.pushFrame, State.frames_setTop _ hr', State.setTop_of_frames _ hr', State.setFrames_setFrames, hr]
      rfl
    have hsame : U.sameButNew ({ U with heap := s₂.heap, slotsUsed := s₂.slotsUsed } : State) L mc ms := by
      refine ⟨?_, q2, q3, q4, q5, q6⟩
      obtain ⟨t, ht, -⟩ := State.frames_cons hr
      show ({ U with heap := s₂.heap, slotsUsed := s₂.slotsUsed } : State) = { U.setFrames U.frames with heap := s₂.heap, slotsUsed := s₂.slotsUsed }
      rw [State.setFrames_self ht]
    subst hg
    refine Or.inr ⟨q, ⟨(({ U with heap := s₂.heap, slotsUsed := s₂.slotsUsed } : State).setVm s₂.vm), Ls ++ L, c0 + mc, s0 + ms⟩,
      ⟨X.admits, X.cas, X.clock, X.frames, X.room, X.hears, X.method, X.code, (X.here.setHeapUsed s₂.heap s₂.slotsUsed).setVm hW'.alike, X.tail, State.WarmedH.trans X.warmed hW', X.limits, X.bytes, X.same.trans (hsame.setVm s.vm)⟩,
      ⟨g, mk, s₂, L, E, ce, rfl, rfl, hx, hce, hcv, hcl, rfl, hL, rfl, rfl⟩, ?_⟩
    show Steps p.tables e below _ (((({ U with heap := s₂.heap, slotsUsed := s₂.slotsUsed } : State).setVm s₂.vm).setTop g).pushFrame (.throwing q))
    rw [← hs₂]
    exact hsteps
end Payer
section Calls
variable {p : Program} {l : Launch} {e : Env} {R : Room} {s : State} {m : MethodId} {args : Array Value} {below : List Frame} {meth : Method} {c : Code} {T : State} {locs : List Loc} {cells slots : Nat}
theorem vx_callV (X : Stand p l e R s m args below meth c T locs cells slots) (hexec : p.tables.exec = Jvm.exec) {own C : String} {index : Nat} {y : MethodName} {bytes : ByteArray} {maxL : Nat} {ret : Option FieldType}
    (hown : s.vm.findClass own = some m.cls) (hlink : (Cond.methodLink own index y).before args s = true) (hinst : (Cond.instanceMethod y).before args s = true) (hsel : (Cond.selects C y y).before args s = true)
    (hcode : (Cond.code y bytes maxL ret).before args s = true) (hy : y.cls ≠ "java/lang/invoke/MethodHandle" ∧ y.cls ≠ "java/lang/invoke/VarHandle")
    {W9 : Nat} {Pre : Pt → Array Value → Prop} {Post : Pt → Array Value → Option Value → Pt → Prop} {PostX : Pt → Array Value → Addr → Pt → Prop} (hK : vx_Back l R p e below s args y 3 W9 Pre Post PostX)
    {b : Addr} {cellB : Cell} (hcell : T.heap[b]? = some cellB) (hobj : cellB.vm.isStatics = false) (hcls : s.vm.findClass C = some cellB.cls)
    {g : JFrame} (hg : g.method = m) (hsize : g.locals.size = c.maxLocals) {argsL rest : List Value} (hlen : ∀ sig, parseMethodDescriptor y.desc = some sig → argsL.length = sig.parameters.length)
    (hstack : g.stack = argsL.reverse ++ .ref b :: rest) (hW : 2 * g.monitorRoom + (rest.map fun v => v.category).sum ≤ W9) (hdg : decode c.code g.pc = .ok (.invokevirtual index, 3))
    (hpre : ∀ vm₁, s.WarmedH vm₁ → Pre ⟨T.setVm vm₁, locs, cells, slots⟩ (Value.ref b :: argsL).toArray) :
    (∃ (v : Option Value) (vm₁ : Vm) (B : Pt), s.WarmedH vm₁ ∧ Stand p l e R s m args below meth c B.U B.locs B.cells B.slots ∧ Post ⟨T.setVm vm₁, locs, cells, slots⟩ (Value.ref b :: argsL).toArray v B ∧
      ∀ target, Steps p.tables e below (B.U.setTop { g with pc := g.pc + 3, stack := v.toList ++ rest }) target → Steps p.tables e below (T.setTop g) target) ∨
    (∃ (q : Addr) (vm₁ : Vm) (B : Pt), s.WarmedH vm₁ ∧ Stand p l e R s m args below meth c B.U B.locs B.cells B.slots ∧ PostX ⟨T.setVm vm₁, locs, cells, slots⟩ (Value.ref b :: argsL).toArray q B ∧
      Steps p.tables e below (T.setTop g) ((B.U.setTop { g with stack := rest }).pushFrame (.throwing q))) := by
  obtain ⟨mk, methM, hnamed, hmethM, hstM, habM⟩ := Cond.instanceMethod_spec hinst
  obtain ⟨methM', cM, hmethM', -, -, -, -, -, -, hsigM⟩ := Cond.code_spec hnamed hcode
  cases hmethM.symm.trans hmethM'
  obtain ⟨c2, r2, m2, q1, q2, q3, q4, kP, hkP, hkPi⟩ := Cond.selects_spec hsel
  cases hcls.symm.trans q1
  cases (State.methodFound?_of_named hnamed hy).symm.trans q2
  cases hnamed.symm.trans q3
  have hselP : selectMethod e.platform s.vm cellB.cls mk = .method mk := by rw [Launch.admits_selectMethod X.admits]; exact q4
  obtain ⟨vm₁, X₁, hstep₁⟩ := X.invokevirtual hexec hown hlink hnamed hmethM hstM hkP hkPi hy (a := b) (cell := cellB) hcell
    (fun z h => by rw [h] at hobj; cases hobj) hselP hmethM habM hkP hkPi (g := g) hg (argsL := argsL) (rest := rest) (hlen _ hsigM) hstack hdg
  rcases hK m meth c ⟨T.setVm vm₁, locs, cells, slots⟩ { g with stack := rest } (.invokevirtual index) mk (Value.ref b :: argsL).toArray X₁ hg hsize hdg hW (X₁.named hnamed) (hpre vm₁ X₁.warmed) with ⟨v, B, X', hpost, hsteps⟩ | ⟨q, B, X', hpost, hsteps⟩
  · exact Or.inl ⟨v, vm₁, B, X₁.warmed, X', hpost, fun target h => hstep₁ _ fun acts => by rw [doInvoke_state]; exact hsteps.trans h⟩
  · exact Or.inr ⟨q, vm₁, B, X₁.warmed, X', hpost, hstep₁ _ fun acts => by rw [doInvoke_state]; exact hsteps⟩
theorem vx_callS (X : Stand p l e R s m args below meth c T locs cells slots) (hexec : p.tables.exec = Jvm.exec) {own : String} {index : Nat} {y : MethodName} {bytes : ByteArray} {maxL : Nat} {ret : Option FieldType}
    (hown : s.vm.findClass own = some m.cls) (hlink : (Cond.methodLink own index y).before args s = true) (hstat : (Cond.static y).before args s = true) (hinit : (Cond.initialized y.cls).before args s = true)
    (hcode : (Cond.code y bytes maxL ret).before args s = true) (hy : y.cls ≠ "java/lang/invoke/MethodHandle" ∧ y.cls ≠ "java/lang/invoke/VarHandle")
    {W9 : Nat} {Pre : Pt → Array Value → Prop} {Post : Pt → Array Value → Option Value → Pt → Prop} {PostX : Pt → Array Value → Addr → Pt → Prop} (hK : vx_Back l R p e below s args y 3 W9 Pre Post PostX)
    {g : JFrame} (hg : g.method = m) (hsize : g.locals.size = c.maxLocals) {argsL rest : List Value} (hlen : ∀ sig, parseMethodDescriptor y.desc = some sig → argsL.length = sig.parameters.length)
    (hstack : g.stack = argsL.reverse ++ rest) (hW : 2 * g.monitorRoom + (rest.map fun v => v.category).sum ≤ W9) (hdg : decode c.code g.pc = .ok (.invokestatic index, 3))
    (hpre : ∀ vm₁, s.WarmedH vm₁ → Pre ⟨T.setVm vm₁, locs, cells, slots⟩ argsL.toArray) :
    (∃ (v : Option Value) (vm₁ : Vm) (B : Pt), s.WarmedH vm₁ ∧ Stand p l e R s m args below meth c B.U B.locs B.cells B.slots ∧ Post ⟨T.setVm vm₁, locs, cells, slots⟩ argsL.toArray v B ∧
      ∀ target, Steps p.tables e below (B.U.setTop { g with pc := g.pc + 3, stack := v.toList ++ rest }) target → Steps p.tables e below (T.setTop g) target) ∨
    (∃ (q : Addr) (vm₁ : Vm) (B : Pt), s.WarmedH vm₁ ∧ Stand p l e R s m args below meth c B.U B.locs B.cells B.slots ∧ PostX ⟨T.setVm vm₁, locs, cells, slots⟩ argsL.toArray q B ∧
      Steps p.tables e below (T.setTop g) ((B.U.setTop { g with stack := rest }).pushFrame (.throwing q))) := by
  obtain ⟨mk, hnamed⟩ := Cond.code_named hcode
  obtain ⟨methM, cM, hmethM, -, -, -, -, -, -, hsigM⟩ := Cond.code_spec hnamed hcode
  have hstatic : methM.isStatic = true := Cond.static_spec hnamed hmethM hstat
  obtain ⟨kP, hkP, -⟩ := className_of_methodNamed hnamed
  have hinitP : kP.init = .initialized := Cond.initialized_spec (findClass_of_methodNamed hnamed) hkP hinit
  obtain ⟨vm₁, X₁, hstep₁⟩ := X.invokestatic hexec hown hlink hnamed hmethM hstatic hkP hinitP hy (g := g) hg (argsL := argsL) (rest := rest) (hlen _ hsigM) hstack hdg
  rcases hK m meth c ⟨T.setVm vm₁, locs, cells, slots⟩ { g with stack := rest } (.invokestatic index) mk argsL.toArray X₁ hg hsize hdg hW (X₁.named hnamed) (hpre vm₁ X₁.warmed) with ⟨v, B, X', hpost, hsteps⟩ | ⟨q, B, X', hpost, hsteps⟩
  · exact Or.inl ⟨v, vm₁, B, X₁.warmed, X', hpost, fun target h => hstep₁ _ fun acts => by rw [doInvoke_state]; exact hsteps.trans h⟩
  · exact Or.inr ⟨q, vm₁, B, X₁.warmed, X', hpost, hstep₁ _ fun acts => by rw [doInvoke_state]; exact hsteps⟩
end Calls
theorem vx_cls {s : State} {T : State} {vm₁ : Vm} {E : String} {k : ClassId} (hW : s.WarmedH vm₁) (h : (T.setVm vm₁).vm.findClass E = some k) : s.vm.findClass E = some k := by
  have h1 : vm₁.findClass E = some k := h
  rw [hW.alike.findClass] at h1
  exact h1
/-- the method's frame g, with q thrown over it -/
def vx_W (p : Program) (l : Launch) (e : Env) (R : Room) (s : State) (m : MethodId) (args : Array Value) (below : List Frame) (meth : Method) (c : Code) (H : Heap) (locs : List Loc) (cells slots : Nat) (Q : State → Prop) (g : JFrame) (q : Addr) : Prop :=
  ∀ T : State, T.heap = H → Stand p l e R s m args below meth c T locs cells slots → ∃ t, Steps p.tables e below ((T.setTop g).pushFrame (.throwing q)) t ∧ Q t
def vx_Run (p : Program) (l : Launch) (e : Env) (R : Room) (s : State) (m : MethodId) (args : Array Value) (below : List Frame) (meth : Method) (c : Code) (H : Heap) (locs : List Loc) (cells slots mc ms : Nat) (g : JFrame) (rest : List Value) (Qa : State → Outcome → State → Prop) (XC : String → State → State → Prop) (free : Addr → Prop) : Prop :=
  ∀ T : State, T.heap = H → Stand p l e R s m args below meth c T locs cells slots →
    (∃ (v : Option Value) (st₀ t T' : State) (L : List Loc), st₀.heap = H ∧ Stand p l e R s m args below meth c T' (locs ++ L) (cells + mc) (slots + ms) ∧ (∀ q ∈ L, free q.base) ∧ T'.heap = t.heap ∧ T'.vm = t.vm ∧ Qa st₀ (.returned v) t ∧
      Goes p e below T g T' { g with pc := g.pc + 3, stack := v.toList ++ rest }) ∨
    (∃ (q : Addr) (st₀ t T' : State) (L : List Loc) (E : String) (ce : Cell), st₀.heap = H ∧ Stand p l e R s m args below meth c T' (locs ++ L) (cells + mc) (slots + ms) ∧ (∀ z ∈ L, free z.base) ∧ T'.heap = t.heap ∧ T'.vm = t.vm ∧ XC E st₀ t ∧ t.heap[q]? = some ce ∧ ce.vm = .none ∧ s.vm.findClass E = some ce.cls ∧
      Steps p.tables e below (T.setTop g) ((T'.setTop { g with stack := rest }).pushFrame (.throwing q)))
def vx_X {S : Type} (px : S → Prop) (B : String → S → State → Prop) (A : Nat → Prop) : String → State → State → Prop := fun E st t => ∃ u : S, px u ∧ B E u t ∧ va_F A st t
section Runs
variable {p : Program} {l : Launch} {e : Env} {R : Room} {s : State} {m : MethodId} {args : Array Value} {below : List Frame} {meth : Method} {c : Code} {H : Heap} {locs : List Loc} {cells slots : Nat}
variable {y : MethodName} {bytes cc : ByteArray} {maxL nL mc ms n index : Nat} {ret : Option FieldType} {ws : List Cond} {rm : Room} {Pc : Array Value → State → Prop} {Qc : Array Value → State → Outcome → State → Prop} {XC : String → State → State → Prop} {free : Addr → Prop} {Ts : List Cond} {own C : String} {b : Addr} {As rest : List Value} {g : JFrame}
theorem vx_callBack (cb : CallB R s args own index y bytes maxL ret ws rm mc ms n) (hM : vx_Met l y ws rm Pc Qc XC mc ms free) (hbl : FrameBlind Pc) : vx_Back l R p e below s args y 3 8 (PreOf R mc ms Pc) (PostOf Qc mc ms free) (vx_Post XC mc ms free) := by
  obtain ⟨hrc, hrs, hfr, hlo, hws, hcw, -, hini, -⟩ := cb
  exact vx_back (bytes := bytes) (maxL := maxL) (ret := ret) hM hbl hrc hrs hfr hlo hws hcw (fun a' U hW => word_at hW (Or.inl (by first | rfl | simp [Cond.onTables, Cond.keeps, Cond.steady])) hini)
theorem vx_runV (S : CallFix p m c cc nL s args Ts own) (hM : vx_Met l y ws rm Pc Qc XC mc ms free) (cw : CallW R s args own C index y bytes maxL ret ws rm mc ms n) (hp : PreV s H C b Pc As)
    (hg : g.method = m) (hn : As.length = n) (hsize : g.locals.size = nL) (hstack : g.stack = As.reverse ++ .ref b :: rest) (hW : 2 * g.monitorRoom + (rest.map fun v => v.category).sum ≤ 8) (hdg : decode cc g.pc = .ok (.invokevirtual index, 3)) (hf : cells + mc ≤ R.cells ∧ slots + ms ≤ R.slots) :
    vx_Run p l e R s m args below meth c H locs cells slots mc ms g rest (Qc (Value.ref b :: As).toArray) XC free := by
  have hK : vx_Back l R p e below s args y 3 8 (PreOf R mc ms Pc) (PostOf Qc mc ms free) (vx_Post XC mc ms free) := vx_callBack cw.1 hM hp.1
  obtain ⟨⟨-, -, -, -, -, -, hcode, -, hy, hlen, hl⟩, hin, hse⟩ := cw
  obtain ⟨hx, hb, hml, ho, -⟩ := S
  obtain ⟨-, ⟨cellB, hcB, hoB, hclB⟩, hPc⟩ := hp
  intro T hT X
  rcases vx_callV X hx (C := C) (bytes := bytes) (maxL := maxL) (ret := ret) ho hl hin hse hcode hy hK (by rw [hT]; exact hcB) hoB hclB hg (hsize.trans hml.symm) (argsL := As) (rest := rest) (fun sig h => hn.trans (hlen sig h)) hstack hW (by rw [hb]; exact hdg)
    (fun vm₁ hW₁ => ⟨hf.1, hf.2, hPc (T.setVm vm₁) hT hW₁⟩) with ⟨v, vm₁, ⟨U', l2, c2, s2⟩, hW₁, X', ⟨g', mk, t, L, e1, e2, hq, h1, hL, h2, h3⟩, st⟩ | ⟨q, vm₁, ⟨U', l2, c2, s2⟩, hW₁, X', ⟨g', mk, t, L, E, ce, e1, e2, hq, hce, hcv, hcl, h1, hL, h2, h3⟩, st⟩
  · dsimp only [Pt.U, Pt.locs, Pt.cells, Pt.slots] at X' e1 e2 h1 h2 h3 st
    subst h1; subst h2; subst h3
    exact Or.inl ⟨v, (T.setVm vm₁).calling g' mk (Value.ref b :: As).toArray, t, U', L, hT, X', hL, e1, e2, hq, st⟩
  · dsimp only [Pt.U, Pt.locs, Pt.cells, Pt.slots] at X' e1 e2 h1 h2 h3 st hcl
    subst h1; subst h2; subst h3
    exact Or.inr ⟨q, (T.setVm vm₁).calling g' mk (Value.ref b :: As).toArray, t, U', L, E, ce, hT, X', hL, e1, e2, hq, hce, hcv, vx_cls hW₁ hcl, st⟩
theorem vx_runS (S : CallFix p m c cc nL s args Ts own) (hM : vx_Met l y ws rm Pc Qc XC mc ms free) (cw : CallB R s args own index y bytes maxL ret ws rm mc ms n ∧ (Cond.static y).before args s = true) (hp : PreS s H Pc As)
    (hg : g.method = m) (hn : As.length = n) (hsize : g.locals.size = nL) (hstack : g.stack = As.reverse ++ rest) (hW : 2 * g.monitorRoom + (rest.map fun v => v.category).sum ≤ 8) (hdg : decode cc g.pc = .ok (.invokestatic index, 3)) (hf : cells + mc ≤ R.cells ∧ slots + ms ≤ R.slots) :
    vx_Run p l e R s m args below meth c H locs cells slots mc ms g rest (Qc As.toArray) XC free := by
  have hK : vx_Back l R p e below s args y 3 8 (PreOf R mc ms Pc) (PostOf Qc mc ms free) (vx_Post XC mc ms free) := vx_callBack cw.1 hM hp.1
  obtain ⟨⟨-, -, -, -, -, -, hcode, hini, hy, hlen, hl⟩, hstt⟩ := cw
  obtain ⟨hx, hb, hml, ho, -⟩ := S
  intro T hT X
  rcases vx_callS X hx (bytes := bytes) (maxL := maxL) (ret := ret) ho hl hstt hini hcode hy hK hg (hsize.trans hml.symm) (argsL := As) (rest := rest) (fun sig h => hn.trans (hlen sig h)) hstack hW (by rw [hb]; exact hdg)
    (fun vm₁ hW₁ => ⟨hf.1, hf.2, hp.2 (T.setVm vm₁) hT hW₁⟩) with ⟨v, vm₁, ⟨U', l2, c2, s2⟩, hW₁, X', ⟨g', mk, t, L, e1, e2, hq, h1, hL, h2, h3⟩, st⟩ | ⟨q, vm₁, ⟨U', l2, c2, s2⟩, hW₁, X', ⟨g', mk, t, L, E, ce, e1, e2, hq, hce, hcv, hcl, h1, hL, h2, h3⟩, st⟩
  · dsimp only [Pt.U, Pt.locs, Pt.cells, Pt.slots] at X' e1 e2 h1 h2 h3 st
    subst h1; subst h2; subst h3
    exact Or.inl ⟨v, (T.setVm vm₁).calling g' mk As.toArray, t, U', L, hT, X', hL, e1, e2, hq, st⟩
  · dsimp only [Pt.U, Pt.locs, Pt.cells, Pt.slots] at X' e1 e2 h1 h2 h3 st hcl
    subst h1; subst h2; subst h3
    exact Or.inr ⟨q, (T.setVm vm₁).calling g' mk As.toArray, t, U', L, E, ce, hT, X', hL, e1, e2, hq, hce, hcv, vx_cls hW₁ hcl, st⟩
end Runs
section Rows
variable {p : Program} {l : Launch} {e : Env} {R : Room} {s : State} {m : MethodId} {args : Array Value} {below : List Frame} {meth : Method} {c : Code} {H : Heap} {locs : List Loc} {cells slots : Nat} {Q : State → Prop}
variable {mc ms : Nat} {free : Addr → Prop} {A0 A1 : Nat → Prop} {H0 : Heap} {a : Array Value} {pc : Nat} {ls : Array Slot} {st0 rest : List Value}
theorem vx_keep {st₀ t T' : State} {L : List Loc} (h0 : st₀.heap = H) (e1 : T'.heap = t.heap) (hS : va_S A0 H0 H locs) (hA : ∀ q, q < H.size → A1 q → A0 q) (hf : ∀ q, free q → A0 q) (hL : ∀ q ∈ L, free q.base) (hF : va_F A1 st₀ t) :
    H.size ≤ T'.heap.size ∧ (∀ q : Nat, q < H.size → ¬ A1 q → T'.heap[q]? = H[q]?) ∧ va_S A0 H0 T'.heap (locs ++ L) := by
  obtain ⟨hz, hk⟩ := hF
  rw [h0] at hz hk
  exact ⟨by rw [e1]; exact hz, fun q h1 h2 => by rw [e1]; exact hk q h1 h2,
    ⟨Nat.le_trans hS.1 (by rw [e1]; exact hz), fun q h1 h2 => by rw [e1, hk q (Nat.lt_of_lt_of_le h1 hS.1) (fun z => h2 (hA q (Nat.lt_of_lt_of_le h1 hS.1) z))]; exact hS.2.1 q h1 h2, fun q hq => by
      rcases List.mem_append.mp hq with h | h
      · exact hS.2.2 q h
      · exact hf _ (hL q h)⟩⟩
theorem vx_calli {S SX : Type} {post : Int32 → S → Prop} {px : SX → Prop} {B : S → State → Prop} {BX : String → SX → State → Prop} {AX : Nat → Prop} (hr : vx_Run p l e R s m args below meth c H locs cells slots mc ms (F0 m pc ls st0) rest (va_Qi post B A1 a) (vx_X px BX AX) free) (hS : va_S A0 H0 H locs) (hA : ∀ q, q < H.size → A1 q → A0 q) (hf : ∀ q, free q → A0 q) (hAX : ∀ q, q < H.size → AX q → A0 q)
    (kx : ∀ (E : String) (ce : Cell) (q9 : Addr) (u : SX) (t : State) (H1 : Heap) (locs1 : List Loc), t.heap = H1 → s.vm.Alike t.vm → px u → BX E u t → H.size ≤ H1.size → (∀ q : Nat, q < H.size → ¬ AX q → H1[q]? = H[q]?) → va_S A0 H0 H1 locs1 → H1[q9]? = some ce → ce.vm = .none → s.vm.findClass E = some ce.cls → vx_W p l e R s m args below meth c H1 locs1 (cells + mc) (slots + ms) Q (F0 m pc ls rest) q9)
    (kk : ∀ (r : Int32) (u : S) (t : State) (H1 : Heap) (locs1 : List Loc), t.heap = H1 → s.vm.Alike t.vm → post r u → B u t → H.size ≤ H1.size → (∀ q : Nat, q < H.size → ¬ A1 q → H1[q]? = H[q]?) → va_S A0 H0 H1 locs1 → W p l e R s m args below meth c H1 locs1 (cells + mc) (slots + ms) Q (F0 m (pc + 3) ls (.int r :: rest))) : W p l e R s m args below meth c H locs cells slots Q (F0 m pc ls st0) := by
  intro T hT X
  rcases hr T hT X with ⟨v, st₀, t, T', L, h0, X', hL, e1, e2, ⟨⟨r, u, hv, hp, hb⟩, hF⟩, st⟩ | ⟨q, st₀, t, T', L, E, ce, h0, X', hL, e1, e2, ⟨u, hp, hb, hF⟩, hce, hcv, hcl, st⟩
  · cases hv
    obtain ⟨k1, k2, k3⟩ := vx_keep h0 e1 hS hA hf hL hF
    obtain ⟨t2, a1, b1⟩ := kk r u t T'.heap (locs ++ L) e1.symm (by rw [← e2]; exact X'.warmed.alike) hp hb k1 k2 k3 T' rfl X'
    exact ⟨t2, st t2 a1, b1⟩
  · obtain ⟨k1, k2, k3⟩ := vx_keep h0 e1 hS hAX hf hL hF
    obtain ⟨t2, a1, b1⟩ := kx E ce q u t T'.heap (locs ++ L) e1.symm (by rw [← e2]; exact X'.warmed.alike) hp hb k1 k2 k3 (by rw [e1]; exact hce) hcv hcl T' rfl X'
    exact ⟨t2, st.trans a1, b1⟩
theorem vx_calll {S SX : Type} {post : Int64 → S → Prop} {px : SX → Prop} {B : S → State → Prop} {BX : String → SX → State → Prop} {AX : Nat → Prop} (hr : vx_Run p l e R s m args below meth c H locs cells slots mc ms (F0 m pc ls st0) rest (va_Ql post B A1 a) (vx_X px BX AX) free) (hS : va_S A0 H0 H locs) (hA : ∀ q, q < H.size → A1 q → A0 q) (hf : ∀ q, free q → A0 q) (hAX : ∀ q, q < H.size → AX q → A0 q)
    (kx : ∀ (E : String) (ce : Cell) (q9 : Addr) (u : SX) (t : State) (H1 : Heap) (locs1 : List Loc), t.heap = H1 → s.vm.Alike t.vm → px u → BX E u t → H.size ≤ H1.size → (∀ q : Nat, q < H.size → ¬ AX q → H1[q]? = H[q]?) → va_S A0 H0 H1 locs1 → H1[q9]? = some ce → ce.vm = .none → s.vm.findClass E = some ce.cls → vx_W p l e R s m args below meth c H1 locs1 (cells + mc) (slots + ms) Q (F0 m pc ls rest) q9)
    (kk : ∀ (r : Int64) (u : S) (t : State) (H1 : Heap) (locs1 : List Loc), t.heap = H1 → s.vm.Alike t.vm → post r u → B u t → H.size ≤ H1.size → (∀ q : Nat, q < H.size → ¬ A1 q → H1[q]? = H[q]?) → va_S A0 H0 H1 locs1 → W p l e R s m args below meth c H1 locs1 (cells + mc) (slots + ms) Q (F0 m (pc + 3) ls (.long r :: rest))) : W p l e R s m args below meth c H locs cells slots Q (F0 m pc ls st0) := by
  intro T hT X
  rcases hr T hT X with ⟨v, st₀, t, T', L, h0, X', hL, e1, e2, ⟨⟨r, u, hv, hp, hb⟩, hF⟩, st⟩ | ⟨q, st₀, t, T', L, E, ce, h0, X', hL, e1, e2, ⟨u, hp, hb, hF⟩, hce, hcv, hcl, st⟩
  · cases hv
    obtain ⟨k1, k2, k3⟩ := vx_keep h0 e1 hS hA hf hL hF
    obtain ⟨t2, a1, b1⟩ := kk r u t T'.heap (locs ++ L) e1.symm (by rw [← e2]; exact X'.warmed.alike) hp hb k1 k2 k3 T' rfl X'
    exact ⟨t2, st t2 a1, b1⟩
  · obtain ⟨k1, k2, k3⟩ := vx_keep h0 e1 hS hAX hf hL hF
    obtain ⟨t2, a1, b1⟩ := kx E ce q u t T'.heap (locs ++ L) e1.symm (by rw [← e2]; exact X'.warmed.alike) hp hb k1 k2 k3 (by rw [e1]; exact hce) hcv hcl T' rfl X'
    exact ⟨t2, st.trans a1, b1⟩
theorem vx_callf {S SX : Type} {post : UInt32 → S → Prop} {px : SX → Prop} {B : S → State → Prop} {BX : String → SX → State → Prop} {AX : Nat → Prop} (hr : vx_Run p l e R s m args below meth c H locs cells slots mc ms (F0 m pc ls st0) rest (va_Qf post B A1 a) (vx_X px BX AX) free) (hS : va_S A0 H0 H locs) (hA : ∀ q, q < H.size → A1 q → A0 q) (hf : ∀ q, free q → A0 q) (hAX : ∀ q, q < H.size → AX q → A0 q)
    (kx : ∀ (E : String) (ce : Cell) (q9 : Addr) (u : SX) (t : State) (H1 : Heap) (locs1 : List Loc), t.heap = H1 → s.vm.Alike t.vm → px u → BX E u t → H.size ≤ H1.size → (∀ q : Nat, q < H.size → ¬ AX q → H1[q]? = H[q]?) → va_S A0 H0 H1 locs1 → H1[q9]? = some ce → ce.vm = .none → s.vm.findClass E = some ce.cls → vx_W p l e R s m args below meth c H1 locs1 (cells + mc) (slots + ms) Q (F0 m pc ls rest) q9)
    (kk : ∀ (r : UInt32) (u : S) (t : State) (H1 : Heap) (locs1 : List Loc), t.heap = H1 → s.vm.Alike t.vm → post r u → B u t → H.size ≤ H1.size → (∀ q : Nat, q < H.size → ¬ A1 q → H1[q]? = H[q]?) → va_S A0 H0 H1 locs1 → W p l e R s m args below meth c H1 locs1 (cells + mc) (slots + ms) Q (F0 m (pc + 3) ls (.float r :: rest))) : W p l e R s m args below meth c H locs cells slots Q (F0 m pc ls st0) := by
  intro T hT X
  rcases hr T hT X with ⟨v, st₀, t, T', L, h0, X', hL, e1, e2, ⟨⟨r, u, hv, hp, hb⟩, hF⟩, st⟩ | ⟨q, st₀, t, T', L, E, ce, h0, X', hL, e1, e2, ⟨u, hp, hb, hF⟩, hce, hcv, hcl, st⟩
  · cases hv
    obtain ⟨k1, k2, k3⟩ := vx_keep h0 e1 hS hA hf hL hF
    obtain ⟨t2, a1, b1⟩ := kk r u t T'.heap (locs ++ L) e1.symm (by rw [← e2]; exact X'.warmed.alike) hp hb k1 k2 k3 T' rfl X'
    exact ⟨t2, st t2 a1, b1⟩
  · obtain ⟨k1, k2, k3⟩ := vx_keep h0 e1 hS hAX hf hL hF
    obtain ⟨t2, a1, b1⟩ := kx E ce q u t T'.heap (locs ++ L) e1.symm (by rw [← e2]; exact X'.warmed.alike) hp hb k1 k2 k3 (by rw [e1]; exact hce) hcv hcl T' rfl X'
    exact ⟨t2, st.trans a1, b1⟩
theorem vx_calld {S SX : Type} {post : UInt64 → S → Prop} {px : SX → Prop} {B : S → State → Prop} {BX : String → SX → State → Prop} {AX : Nat → Prop} (hr : vx_Run p l e R s m args below meth c H locs cells slots mc ms (F0 m pc ls st0) rest (va_Qd post B A1 a) (vx_X px BX AX) free) (hS : va_S A0 H0 H locs) (hA : ∀ q, q < H.size → A1 q → A0 q) (hf : ∀ q, free q → A0 q) (hAX : ∀ q, q < H.size → AX q → A0 q)
    (kx : ∀ (E : String) (ce : Cell) (q9 : Addr) (u : SX) (t : State) (H1 : Heap) (locs1 : List Loc), t.heap = H1 → s.vm.Alike t.vm → px u → BX E u t → H.size ≤ H1.size → (∀ q : Nat, q < H.size → ¬ AX q → H1[q]? = H[q]?) → va_S A0 H0 H1 locs1 → H1[q9]? = some ce → ce.vm = .none → s.vm.findClass E = some ce.cls → vx_W p l e R s m args below meth c H1 locs1 (cells + mc) (slots + ms) Q (F0 m pc ls rest) q9)
    (kk : ∀ (r : UInt64) (u : S) (t : State) (H1 : Heap) (locs1 : List Loc), t.heap = H1 → s.vm.Alike t.vm → post r u → B u t → H.size ≤ H1.size → (∀ q : Nat, q < H.size → ¬ A1 q → H1[q]? = H[q]?) → va_S A0 H0 H1 locs1 → W p l e R s m args below meth c H1 locs1 (cells + mc) (slots + ms) Q (F0 m (pc + 3) ls (.double r :: rest))) : W p l e R s m args below meth c H locs cells slots Q (F0 m pc ls st0) := by
  intro T hT X
  rcases hr T hT X with ⟨v, st₀, t, T', L, h0, X', hL, e1, e2, ⟨⟨r, u, hv, hp, hb⟩, hF⟩, st⟩ | ⟨q, st₀, t, T', L, E, ce, h0, X', hL, e1, e2, ⟨u, hp, hb, hF⟩, hce, hcv, hcl, st⟩
  · cases hv
    obtain ⟨k1, k2, k3⟩ := vx_keep h0 e1 hS hA hf hL hF
    obtain ⟨t2, a1, b1⟩ := kk r u t T'.heap (locs ++ L) e1.symm (by rw [← e2]; exact X'.warmed.alike) hp hb k1 k2 k3 T' rfl X'
    exact ⟨t2, st t2 a1, b1⟩
  · obtain ⟨k1, k2, k3⟩ := vx_keep h0 e1 hS hAX hf hL hF
    obtain ⟨t2, a1, b1⟩ := kx E ce q u t T'.heap (locs ++ L) e1.symm (by rw [← e2]; exact X'.warmed.alike) hp hb k1 k2 k3 (by rw [e1]; exact hce) hcv hcl T' rfl X'
    exact ⟨t2, st.trans a1, b1⟩
theorem vx_callv {S SX : Type} {post : S → Prop} {px : SX → Prop} {B : S → State → Prop} {BX : String → SX → State → Prop} {AX : Nat → Prop} (hr : vx_Run p l e R s m args below meth c H locs cells slots mc ms (F0 m pc ls st0) rest (va_Qv post B A1 a) (vx_X px BX AX) free) (hS : va_S A0 H0 H locs) (hA : ∀ q, q < H.size → A1 q → A0 q) (hf : ∀ q, free q → A0 q) (hAX : ∀ q, q < H.size → AX q → A0 q)
    (kx : ∀ (E : String) (ce : Cell) (q9 : Addr) (u : SX) (t : State) (H1 : Heap) (locs1 : List Loc), t.heap = H1 → s.vm.Alike t.vm → px u → BX E u t → H.size ≤ H1.size → (∀ q : Nat, q < H.size → ¬ AX q → H1[q]? = H[q]?) → va_S A0 H0 H1 locs1 → H1[q9]? = some ce → ce.vm = .none → s.vm.findClass E = some ce.cls → vx_W p l e R s m args below meth c H1 locs1 (cells + mc) (slots + ms) Q (F0 m pc ls rest) q9)
    (kk : ∀ (u : S) (t : State) (H1 : Heap) (locs1 : List Loc), t.heap = H1 → s.vm.Alike t.vm → post u → B u t → H.size ≤ H1.size → (∀ q : Nat, q < H.size → ¬ A1 q → H1[q]? = H[q]?) → va_S A0 H0 H1 locs1 → W p l e R s m args below meth c H1 locs1 (cells + mc) (slots + ms) Q (F0 m (pc + 3) ls (rest))) : W p l e R s m args below meth c H locs cells slots Q (F0 m pc ls st0) := by
  intro T hT X
  rcases hr T hT X with ⟨v, st₀, t, T', L, h0, X', hL, e1, e2, ⟨⟨u, hv, hp, hb⟩, hF⟩, st⟩ | ⟨q, st₀, t, T', L, E, ce, h0, X', hL, e1, e2, ⟨u, hp, hb, hF⟩, hce, hcv, hcl, st⟩
  · cases hv
    obtain ⟨k1, k2, k3⟩ := vx_keep h0 e1 hS hA hf hL hF
    obtain ⟨t2, a1, b1⟩ := kk u t T'.heap (locs ++ L) e1.symm (by rw [← e2]; exact X'.warmed.alike) hp hb k1 k2 k3 T' rfl X'
    exact ⟨t2, st t2 a1, b1⟩
  · obtain ⟨k1, k2, k3⟩ := vx_keep h0 e1 hS hAX hf hL hF
    obtain ⟨t2, a1, b1⟩ := kx E ce q u t T'.heap (locs ++ L) e1.symm (by rw [← e2]; exact X'.warmed.alike) hp hb k1 k2 k3 (by rw [e1]; exact hce) hcv hcl T' rfl X'
    exact ⟨t2, st.trans a1, b1⟩
/-- caught by the row x of this method's table; the rows ahead don't take it -/
theorem vx_catch {own name : String} {E : String} {ce : Cell} {q : Addr} (hown : s.vm.findClass own = some m.cls) (pre : List ExceptionTableEntry) (x : ExceptionTableEntry) (suf : List ExceptionTableEntry) (hsplit : c.exceptionTable.toList = pre ++ x :: suf)
    (hpass : ∀ z ∈ pre, covers z pc = false ∨ (z.catchType ≠ 0 ∧ ∃ nm : String, (Cond.classLink own z.catchType nm).before args s = true ∧ va_Nc E nm s)) (hx : covers x pc = true) (h0 : x.catchType ≠ 0)
    (hlink : (Cond.classLink own x.catchType name).before args s = true) (hcast : (Cond.castable E name).before args s = true) (hcell : H[q]? = some ce) (hv : ce.vm = .none) (hcl : s.vm.findClass E = some ce.cls)
    (kk : W p l e R s m args below meth c H locs cells slots Q (F0 m x.handlerPc ls [.ref q])) : vx_W p l e R s m args below meth c H locs cells slots Q (F0 m pc ls rest) q := by
  intro T hT X
  have hpl : e.platform.magicAccessors = ({} : Platform).magicAccessors := by rw [X.admits.platform]
  obtain ⟨c3, c4, hc3, hc4, hasg⟩ := Cond.castable_spec hcast
  cases Option.some.inj (hc3.symm.trans hcl)
  obtain ⟨c5, hc5, hcl5⟩ := Cond.classLink_spec hown hlink e.platform hpl
  cases Option.some.inj (hc4.symm.trans hc5)
  obtain ⟨vm', X', st⟩ := X.thenCaughtThrough q (g := F0 m pc ls rest) rfl (Steps.refl _) (by rw [hT]; exact hcell) (by rw [hv]; rfl) (by obtain ⟨k9, h9, -⟩ := Vm.findClass_spec hcl; exact ⟨k9, h9⟩) pre x suf hsplit
    (fun z hz => by
      rcases hpass z hz with h | ⟨hz0, nm, hl1, hn1⟩
      · exact Or.inl h
      · obtain ⟨c6, hc6, hcl6⟩ := Cond.classLink_spec hown hl1 e.platform hpl
        obtain ⟨a8, b8, h1, h2, h3⟩ := hn1
        cases Option.some.inj (h1.symm.trans hcl)
        cases Option.some.inj (h2.symm.trans hc6)
        exact Or.inr ⟨hz0, _, hcl6, h3⟩) hx (Or.inr ⟨h0, c4, hcl5, hasg⟩)
  obtain ⟨t, a1, b1⟩ := kk (T.setVm vm') hT X'
  exact ⟨t, st.trans a1, b1⟩
end Rows
section Ends
variable {p : Program} {l : Launch} {e : Env} {R : Room} {s : State} {m : MethodId} {args : Array Value} {below : List Frame} {meth : Method} {c : Code} {H : Heap} {locs : List Loc} {cells slots : Nat} {Q : State → Prop}
variable {mc ms : Nat} {free : Addr → Prop} {A0 A1 : Nat → Prop} {H0 : Heap} {a : Array Value} {ls : Array Slot} {st0 rest : List Value}
variable {Qc : Array Value → State → Outcome → State → Prop} {XC : String → State → State → Prop}
/-- what a body that may throw owes at its end -/
def vx_MQ (below : List Frame) (Qc : Array Value → State → Outcome → State → Prop) (XC : String → State → State → Prop) (a : Array Value) (s : State) (mc ms : Nat) (free : Addr → Prop) : State → Prop := fun t =>
  ∃ o, t.status = .running ∧ Ended t below o ∧ vx_Q Qc XC mc ms free a s o t
theorem vx_ret {g : JFrame} {mc ms : Nat} (k : W p l e R s m args below meth c H locs cells slots (MQ below Qc args s mc ms free) g) : W p l e R s m args below meth c H locs cells slots (vx_MQ below Qc XC args s mc ms free) g := by
  intro T hT X
  obtain ⟨t, a1, o, b1, b2, b3, b4⟩ := k T hT X
  exact ⟨t, a1, o, b1, b2, Or.inl ⟨b3, b4⟩⟩
/-- not caught here: it goes on to the caller -/
theorem vx_widen {g : JFrame} {q : Addr} {k n : Nat} (h1 : cells ≤ k) (h2 : slots ≤ n) (kk : vx_W p l e R s m args below meth c H locs k n Q g q) : vx_W p l e R s m args below meth c H locs cells slots Q g q := fun T hT X => kk T hT (stand_widen X h1 h2)
theorem vx_out {pc : Nat} {E : String} {ce : Cell} {q : Addr} {mc ms : Nat} (hout : ∀ x ∈ c.exceptionTable.toList, covers x pc = false) (hlocks : meth.locks = false) (hcell : H[q]? = some ce) (hv : ce.vm = .none) (hcl : s.vm.findClass E = some ce.cls)
    (hx : ∀ t : State, t.heap = H → s.vm.Alike t.vm → XC E s t) (hf : ∀ z ∈ locs, free z.base) (hc : cells ≤ mc) (hs : slots ≤ ms) :
    vx_W p l e R s m args below meth c H locs cells slots (vx_MQ below Qc XC args s mc ms free) (F0 m pc ls rest) q := by
  intro T hT X
  obtain ⟨st1, hrun, hend, hW, hsm⟩ := X.leaveThrown q (g := F0 m pc ls rest) rfl rfl rfl hout hlocks
  have hcell9 : (T.setFrames (.throwing q :: below)).heap[q]? = some ce := by
    show T.heap[q]? = some ce
    rw [hT]; exact hcell
  exact ⟨_, st1, .threw q, hrun, hend, Or.inr ⟨q, rfl, E, ce, locs, hx _ hT hW.alike, hcell9, hv, hcl, hW, hsm.mono hc hs, hf⟩⟩
theorem vx_frame {U : State} {k n : Nat} (h : s.sameButNew ({ U with vm := s.vm } : State) locs k n) : s.heap.size ≤ U.heap.size ∧ ∀ q : Nat, q < s.heap.size → (∀ z ∈ locs, z.base ≠ q) → U.heap[q]? = s.heap[q]? := by
  obtain ⟨-, h2, -, -, -, h6⟩ := h
  refine ⟨h2, fun q hq hz => ?_⟩
  obtain ⟨c9, e1, e2, e3, e4⟩ := h6 q _ (Array.getElem?_eq_getElem hq)
  have hs : c9.slots = (s.heap[q]).slots := Array.ext_getElem? fun i => e4 i fun hm => hz _ hm rfl
  have h9 : c9 = s.heap[q] := by
    rw [hs] at e2
    exact e2
  have e5 : U.heap[q]? = some c9 := e1
  rw [e5, h9, Array.getElem?_eq_getElem hq]
/-- the words of a throw but the four that speak of the heap -/
def vx_no (w : Cond) : Bool := decide (w ≠ .isRef (.static Bundle.tN "UNASSIGNED_STACK" Bundle.steD)) && decide (w ≠ .isRef (.static Bundle.tN "SUPPRESSED_SENTINEL" Bundle.listD)) && decide (w ≠ .laysStatic Bundle.tN "UNASSIGNED_STACK" Bundle.steD) && decide (w ≠ .laysStatic Bundle.tN "SUPPRESSED_SENTINEL" Bundle.listD)
def vx_at0 (own : String) (ic : Nat) (X : String) (names : List String) : List Cond := (Bundle.ownAtoms0 own ic X names).filter vx_no
def vx_atS (own : String) (ic : Nat) (X : String) (names : List String) : List Cond := (Bundle.ownAtoms own ic X names).filter vx_no
/-- a word that the tables alone decide, or a good one -/
def vx_ot (w : Cond) : Bool := w.onTables || goodWord w
theorem vx_ot_at {args a' : Array Value} {s U : State} {w : Cond} (hW : s.WarmedH U.vm) (hvm : s.vm = U.vm) (hg : vx_ot w = true) (h : w.before args s = true) : w.before a' U = true := by
  simp only [vx_ot, Bool.or_eq_true] at hg
  rcases hg with hg | hg
  · exact va_tabs hg hvm h
  · exact word_at hW (good_of_word hg) h
/-- a list's words: the good ones out of the method's own list, the others by premises of their own -/
theorem vx_hat {args : Array Value} {s : State} {L B : List Cond} (h1 : ∀ w ∈ L.filter goodWord, w.before args s = true) (h2 : ∀ w ∈ L.filter (fun w => !goodWord w), w ∈ B) (h3 : ∀ w ∈ B, w.before args s = true) : ∀ w ∈ L, w.before args s = true := by
  intro w hw
  by_cases g : goodWord w = true
  · exact h1 w (List.mem_filter.mpr ⟨hw, g⟩)
  · refine h3 w (h2 w (List.mem_filter.mpr ⟨hw, ?_⟩))
    show (!goodWord w) = true
    cases hgw : goodWord w
    · rfl
    · exact absurd hgw g
theorem vx_c {args : Array Value} {s : State} {w : Cond} {B : List Cond} (h : w.before args s = true) (t : ∀ w ∈ B, w.before args s = true) : ∀ w' ∈ w :: B, w'.before args s = true := fun w' h' => (List.mem_cons.mp h').elim (fun e => by rw [e]; exact h) (t w')
theorem vx_n {args : Array Value} {s : State} : ∀ w ∈ ([] : List Cond), w.before args s = true := fun _ h => nomatch h
theorem vx_own {args : Array Value} {s : State} {L : List Cond} (h1 : ∀ w ∈ L.filter vx_no, w.before args s = true)
    (hU : (Cond.isRef (.static Bundle.tN "UNASSIGNED_STACK" Bundle.steD)).before args s = true) (hN : (Cond.isRef (.static Bundle.tN "SUPPRESSED_SENTINEL" Bundle.listD)).before args s = true)
    (lU : (Cond.laysStatic Bundle.tN "UNASSIGNED_STACK" Bundle.steD).before args s = true) (lN : (Cond.laysStatic Bundle.tN "SUPPRESSED_SENTINEL" Bundle.listD).before args s = true) : ∀ w ∈ L, w.before args s = true := by
  intro w hw
  by_cases e1 : w = .isRef (.static Bundle.tN "UNASSIGNED_STACK" Bundle.steD)
  · rw [e1]; exact hU
  · by_cases e2 : w = .isRef (.static Bundle.tN "SUPPRESSED_SENTINEL" Bundle.listD)
    · rw [e2]; exact hN
    · by_cases e3 : w = .laysStatic Bundle.tN "UNASSIGNED_STACK" Bundle.steD
      · rw [e3]; exact lU
      · by_cases e4 : w = .laysStatic Bundle.tN "SUPPRESSED_SENTINEL" Bundle.listD
        · rw [e4]; exact lN
        · exact h1 w (List.mem_filter.mpr ⟨hw, by unfold vx_no; rw [decide_eq_true e1, decide_eq_true e2, decide_eq_true e3, decide_eq_true e4]; rfl⟩)
/-- where a static field lies, its class's statics cell in H -/
def vx_L (C n d : String) (A : Nat → Prop) (U : State) (H : Heap) : Prop := ∃ (c : ClassId) (k : Class) (i : Nat) (f : Field) (a : Nat) (cell : Cell), U.vm.findClass C = some c ∧ U.fieldFound? C n d = some (c, k, i, f) ∧ f.isStatic = true ∧ k.statics = some a ∧ H[a]? = some cell ∧ cell.vm.isStatics = true ∧ cell.cls = c ∧ f.slot < cell.slots.size ∧ k.staticTypes[f.slot]? = some f.type ∧ ¬ A a
theorem vx_L.moved {C n d : String} {A : Nat → Prop} {u U : State} {H : Heap} (hvm : u.vm.Alike U.vm) (h : vx_L C n d A u H) : vx_L C n d A U H := by
  obtain ⟨c, k, i, f, a, cell, h1, h2, h3, h4, h5, h6, h7, h8, h9, h10⟩ := h
  obtain ⟨k', hi', he⟩ := State.fieldFound?_setVm hvm h2
  exact ⟨c, k', i, f, a, cell, by rw [hvm.findClass]; exact h1, hi', h3, by rw [he]; exact h4, h5, h6, h7, h8, by rw [he]; exact h9, h10⟩
theorem vx_L.kept {C n d : String} {A : Nat → Prop} {U : State} {H H1 : Heap} (h : vx_L C n d A U H) (hq : ∀ a : Nat, a < H.size → ¬ A a → H1[a]? = H[a]?) : vx_L C n d A U H1 := by
  obtain ⟨c, k, i, f, a, cell, h1, h2, h3, h4, h5, h6, h7, h8, h9, h10⟩ := h
  exact ⟨c, k, i, f, a, cell, h1, h2, h3, h4, by rw [hq a (Array.getElem?_eq_some_iff.mp h5).1 h10]; exact h5, h6, h7, h8, h9, h10⟩
theorem vx_L.narrow {C n d : String} {A B : Nat → Prop} {U : State} {H : Heap} (h : vx_L C n d A U H) (hAB : ∀ q, B q → A q) : vx_L C n d B U H := by
  obtain ⟨c, k, i, f, a, cell, h1, h2, h3, h4, h5, h6, h7, h8, h9, h10⟩ := h
  exact ⟨c, k, i, f, a, cell, h1, h2, h3, h4, h5, h6, h7, h8, h9, fun z => h10 (hAB _ z)⟩
theorem vx_L.word {C n d : String} {A : Nat → Prop} {s : State} {args : Array Value} (h : vx_L C n d A s s.heap) : (Cond.laysStatic C n d).before args s = true := by
  obtain ⟨c, k, i, f, a, cell, h1, h2, h3, h4, h5, h6, h7, h8, h9, -⟩ := h
  show (Cond.laysStatic C n d).holds args s none s [] = true
  exact Cond.laysStatic_of h1 h2 h3 h4 h5 h6 h7 h8 h9
/-- .. and what it holds: null or some reference -/
def vx_Zq (C n d : String) (A : Nat → Prop) (U : State) (H : Heap) : Prop := va_Zq C n d A U H ∧ vx_L C n d A U H
theorem vx_Zq.moved {C n d : String} {A : Nat → Prop} {u U : State} {H : Heap} (hvm : u.vm.Alike U.vm) (h : vx_Zq C n d A u H) : vx_Zq C n d A U H := ⟨va_Zq.moved hvm h.1, vx_L.moved hvm h.2⟩
theorem vx_Zq.kept {C n d : String} {A : Nat → Prop} {U : State} {H H1 : Heap} (h : vx_Zq C n d A U H) (hq : ∀ a : Nat, a < H.size → ¬ A a → H1[a]? = H[a]?) : vx_Zq C n d A U H1 := ⟨va_Zq.kept h.1 hq, vx_L.kept h.2 hq⟩
theorem vx_Zq.narrow {C n d : String} {A B : Nat → Prop} {U : State} {H : Heap} (h : vx_Zq C n d A U H) (hAB : ∀ q, B q → A q) : vx_Zq C n d B U H := ⟨va_Zq.narrow h.1 hAB, vx_L.narrow h.2 hAB⟩
theorem vx_Zqof {args : Array Value} {s : State} {C n d : String} {A : Nat → Prop} (hl : (Cond.laysStatic C n d).before args s = true) (hini : (Cond.initialized C).before args s = true) (h : (Cond.isRef (.static C n d)).before args s = true) (hA : ∀ a : Nat, a < s.heap.size → ¬ A a) : vx_Zq C n d A s s.heap := by
  refine ⟨va_Zqof hl hini h hA, ?_⟩
  obtain ⟨c, k, i, f, a, cell, h1, h2, h3, h4, h5, h6, h7, h8, h9⟩ := Cond.laysStatic_spec hl
  exact ⟨c, k, i, f, a, cell, h1, h2, h3, h4, h5, h6, h7, h8, h9, hA a (Array.getElem?_eq_some_iff.mp h5).1⟩
theorem vx_isRef {C n d : String} {v : Value} {A : Nat → Prop} {s : State} {args : Array Value} (h : va_Z C n d v A s s.heap) (hv : v.isRef = true) : (Cond.isRef (.static C n d)).before args s = true := by
  obtain ⟨cf, kf, fi, f, a, cell, h1, h2, h3, h4, h5, h6, h7, -⟩ := h
  have he : (Term.static C n d).eval args s none [] s = some v := by
    simp [Term.eval, State.fieldNamed?, h1, h2, h4, h5, h6, h7]
  simp only [Cond.before, Cond.holds, Cond.value, he]
  cases v <;> simp_all [Value.isRef]
theorem vx_isRefq {C n d : String} {A : Nat → Prop} {s : State} {args : Array Value} (h : va_Zq C n d A s s.heap) : (Cond.isRef (.static C n d)).before args s = true := by
  rcases h with h | ⟨t, h⟩
  · exact vx_isRef h rfl
  · exact vx_isRef h rfl
/-- the same frame, seen from here: as if the method were called anew in this heap -/
theorem vx_rebase {T : State} (X : Stand p l e R s m args below meth c T locs cells slots) {R' : Room} (hf : R'.frames ≤ R.frames) (hl : R'.locals ≤ R.locals) (hc : cells + R'.cells ≤ R.cells) (hs : slots + R'.slots ≤ R.slots) :
    Stand p l e R' ((T.setVm s.vm).setFrames (.invoking m args :: below)) m args below meth c T [] 0 0 := by
  have htop : (T.setVm s.vm).topJava?.isSome := X.here.top
  have hF : ((T.setVm s.vm).setFrames (.invoking m args :: below)).frames = .invoking m args :: below := State.frames_setFrames _ (State.cur_lt_of_top htop)
  obtain ⟨g₀, hg0⟩ := Option.isSome_iff_exists.mp htop
  obtain ⟨r, hr⟩ := State.topJava?_eq_some.mp hg0
  have hl9 : e.platform.stackLimits (T.setVm s.vm).me = e.platform.stackLimits s.me := X.limits
  have hb9 : (T.setVm s.vm).me.stackBytes = s.me.stackBytes := X.bytes
  refine ⟨X.admits, X.cas, X.clock, hF, ?_, X.hears, X.method, X.code, X.here, X.tail, X.warmed, ?_, ?_, ?_⟩
  · have h := X.room
    have hU : ((T.setVm s.vm).setFrames (.invoking m args :: below)).localsInUse = s.localsInUse := by
      rw [State.localsInUse_invoking hF (meth := meth) (c := c) X.method X.code, State.localsInUse_invoking X.frames X.method X.code]
    simp only [State.hasRoom, Bool.and_eq_true, decide_eq_true_eq] at h ⊢
    obtain ⟨⟨⟨⟨h1, h2, h3, h4, h5, h6⟩, h7⟩, h8⟩, h9⟩ := h
    rw [X.frames, List.length_cons] at h2 h3
    have q1 := X.heapSize
    have q2 := X.used
    simp only [hF, hU, List.length_cons, State.stackLimits_setFrames, State.stackBytes_setFrames, hl9, hb9]
    refine ⟨⟨⟨⟨by omega, by omega, by omega, by omega, by omega, h6⟩, ?_⟩, ?_⟩, X.book⟩
    · show T.heap.size + R'.cells ≤ e.platform.maxCells
      omega
    · show T.slotsUsed + R'.slots ≤ e.platform.maxSlots
      omega
  · rw [State.stackLimits_setFrames]; rfl
  · rw [State.stackBytes_setFrames]; rfl
  · refine ⟨?_, Nat.le_refl _, Nat.le_refl _, ?_, ?_, fun a c9 h9 => ⟨c9, h9, rfl, rfl, fun _ _ => rfl⟩⟩
    · obtain ⟨t, ht, -⟩ := State.frames_cons hr
      show T.setVm s.vm = { ((T.setVm s.vm).setFrames (.invoking m args :: below)).setFrames (T.setVm s.vm).frames with heap := T.heap, slotsUsed := T.slotsUsed }
      rw [State.setFrames_setFrames, State.setFrames_self ht]
      rfl
    · show T.slotsUsed = T.slotsUsed + ((T.heap.toList.drop T.heap.size).map (·.slots.size)).sum
      rw [List.drop_eq_nil_of_le (Nat.le_of_eq Array.length_toList)]
      rfl
    · show ((T.heap.toList.drop T.heap.size).map (·.slots.size)).sum ≤ 0
      rw [List.drop_eq_nil_of_le (Nat.le_of_eq Array.length_toList)]
      exact Nat.le_refl _
/-- 'throw new E()': new; dup; invokespecial; athrow -/
theorem vx_throw0 {cc : ByteArray} {pc : Nat} (hexec : p.tables.exec = Jvm.exec) (hb : c.code = cc) (hl : l.stackTraces = false) {own cls : String} {names : List String} {ik ic mc ms : Nat} {A : Nat → Prop}
    (hown : s.vm.findClass own = some m.cls) (hcls : Bundle.fit cls = true) (hnames : ∀ n ∈ names, Bundle.fit n = true)
    (hk : (Cond.classLink own ik cls).before args s = true) (hini : (Cond.initialized cls).before args s = true) (hat : ∀ w ∈ vx_at0 own ic cls names, w.before args s = true)
    (hgood : ∀ w ∈ Cond.classLink own ik cls :: Cond.initialized cls :: vx_at0 own ic cls names, vx_ot w = true)
    (hU : vx_Zq Bundle.tN "UNASSIGNED_STACK" Bundle.steD A s s.heap) (hN : vx_Zq Bundle.tN "SUPPRESSED_SENTINEL" Bundle.listD A s s.heap) (hS : va_S A s.heap H locs) (hsize : ls.size = c.maxLocals)
    (d0 : decode cc pc = .ok (.new ik, 3)) (d3 : decode cc (pc + 3) = .ok (.dup, 1)) (d4 : decode cc (pc + 4) = .ok (.invokespecial ic, 3)) (d7 : decode cc (pc + 7) = .ok (.athrow, 1))
    (hout : ∀ x ∈ c.exceptionTable.toList, covers x (pc + 7) = false)
    (hRframes : names.length + 3 < R.frames) (hRlocals : (rest.map fun v => v.category).sum + (13 * (names.length + 1) + 42) ≤ R.locals) (hRcells : cells + 1 ≤ R.cells) (hRslots : slots + 6 ≤ R.slots) (hlocks : meth.locks = false)
    (hx : ∀ t : State, s.vm.Alike t.vm → H.size ≤ t.heap.size → (∀ q : Nat, q < H.size → t.heap[q]? = H[q]?) → XC cls s t)
    (hf : ∀ z ∈ locs, free z.base) (hc : cells + 1 ≤ mc) (hs : slots + 6 ≤ ms) :
    W p l e R s m args below meth c H locs cells slots (vx_MQ below Qc XC args s mc ms free) (F0 m pc ls rest) := by
  intro T hT X
  have htr : e.platform.stackTraces = false := (show e.platform.stackTraces = l.stackTraces by rw [X.admits.platform]).trans hl
  have Y := vx_rebase X (R' := { frames := R.frames, locals := R.locals, cells := 1, slots := 6 }) (Nat.le_refl _) (Nat.le_refl _) hRcells hRslots
  obtain ⟨s', hA⟩ : ∃ z, z = (T.setVm s.vm).setFrames (.invoking m args :: below) := ⟨_, rfl⟩
  rw [← hA] at Y
  have hvm : s'.vm = s.vm := by rw [hA]; rfl
  have hhp : s'.heap = H := by rw [hA]; exact hT
  have hW0 : s.WarmedH s'.vm := by rw [hvm]; exact State.WarmedH.refl s
  have hat' : ∀ w ∈ vx_at0 own ic cls names, w.before args s' = true := fun w hw => vx_ot_at hW0 hvm.symm (hgood w (List.mem_cons_of_mem _ (List.mem_cons_of_mem _ hw))) (hat w hw)
  have hk' : (Cond.classLink own ik cls).before args s' = true := vx_ot_at hW0 hvm.symm (hgood _ List.mem_cons_self) hk
  have hini' : (Cond.initialized cls).before args s' = true := vx_ot_at hW0 hvm.symm (hgood _ (List.mem_cons_of_mem _ List.mem_cons_self)) hini
  have hU' : vx_Zq Bundle.tN "UNASSIGNED_STACK" Bundle.steD A s' s'.heap := by rw [hhp]; exact vx_Zq.moved hW0.alike (hU.kept hS.2.1)
  have hN' : vx_Zq Bundle.tN "SUPPRESSED_SENTINEL" Bundle.listD A s' s'.heap := by rw [hhp]; exact vx_Zq.moved hW0.alike (hN.kept hS.2.1)
  have h : ∀ w ∈ Bundle.ownAtoms0 own ic cls names, w.before args s' = true := vx_own hat' (vx_isRefq hU'.1) (vx_isRefq hN'.1) hU'.2.word hN'.2.word
  have hown' : s'.vm.findClass own = some m.cls := by rw [hvm]; exact hown
  have hins : (Cond.instantiable cls 6).before args s' = true := h _ (by simp [Bundle.ownAtoms0])
  obtain ⟨vm₁, cX, kX, hfX, hkX, -, -, X₁, st1⟩ := Y.newCold hexec (own := own) (C := cls) (index := ik) (n := 6) hown' hk' hins hini'
    (g := F0 m pc ls rest) rfl (by rw [hb]; exact d0) (Nat.le_refl _) (Nat.le_refl _)
  generalize hT1 : (T.setVm vm₁).pushCell { cls := cX, slots := kX.instanceTypes.map defaultValue, vm := .none } = T1 at X₁ st1
  have hcat : (Value.ref T.heap.size).category = 1 := rfl
  have hcellA : T1.heap[T.heap.size]? = some (freshCell cX kX) := by rw [← hT1]; exact State.heap_pushCell_size _ _
  have d3' : decode c.code (pc + 3) = .ok (.dup, 1) := by rw [hb]; exact d3
  obtain ⟨U, hsteps, hrun, hend, hW, hsame, ce, hce, hO⟩ := X₁.ctorThrow0 hexec htr (own := own) (cls := cls) (names := names) (ic := ic) hown' hcls hnames h (fun x hx => nomatch hx) hfX hkX hcellA (by rw [hhp, hT]; exact Nat.le_refl _)
    (g := { method := m, pc := pc + 4, locals := ls, stack := .ref T.heap.size :: .ref T.heap.size :: rest, locked := none }) rfl hsize rfl rfl (rest := rest) rfl
    (by rw [hb]; exact d4) (by rw [hb]; exact d7) hout hRframes (by simp only [List.map_cons, List.sum_cons, hcat]; omega) hlocks
  obtain ⟨f1, f2⟩ := vx_frame hsame
  rw [hhp] at f1 f2
  have hWs : s.WarmedH U.vm := State.WarmedH.trans hW0 hW
  have hcl : s.vm.findClass cls = some ce.cls := by
    have h9 := hO.cls
    rw [hvm] at h9
    exact h9
  have hall : s.sameButNew ({ U with vm := s.vm } : State) locs mc ms := by
    subst hA
    obtain ⟨e1, e2⟩ := hsame
    rw [State.setFrames_setFrames] at e1
    have h2 : (T.setVm s.vm).sameButNew ({ U with vm := s.vm } : State) [] (0 + 1) (0 + 6) := ⟨e1, e2⟩
    have h3 := X.same.trans h2
    rw [List.append_nil] at h3
    exact h3.mono hc hs
  refine ⟨U, ?_, .threw T.heap.size, hrun, hend, Or.inr ⟨T.heap.size, rfl, cls, ce, locs, hx U hWs.alike f1 (fun q hq => f2 q hq (fun z hz => nomatch hz)), hce, hO.vm, hcl, hWs, hall, hf⟩⟩
  refine st1 _ ?_
  show Steps p.tables e below (T1.setTop { method := m, pc := pc + 3, locals := ls, stack := .ref T.heap.size :: rest, locked := none }) _
  jvm_step X₁.here [X₁.here.top, hexec, d3', Value.category]
  exact hsteps
/-- 'throw new E("text")': new; dup; ldc; invokespecial; athrow -/
theorem vx_throwS {cc : ByteArray} {pc : Nat} (hexec : p.tables.exec = Jvm.exec) (hb : c.code = cc) (hl : l.stackTraces = false) {own cls text : String} {names : List String} {ik is ic mc ms sa : Nat} {A : Nat → Prop}
    (hown : s.vm.findClass own = some m.cls) (hcls : Bundle.fit cls = true) (hnames : ∀ n ∈ names, Bundle.fit n = true)
    (hk : (Cond.classLink own ik cls).before args s = true) (hini : (Cond.initialized cls).before args s = true) (hstr : vk_R own is text sa s) (hat : ∀ w ∈ vx_atS own ic cls names, w.before args s = true)
    (hgood : ∀ w ∈ Cond.classLink own ik cls :: Cond.initialized cls :: vx_atS own ic cls names, vx_ot w = true)
    (hU : vx_Zq Bundle.tN "UNASSIGNED_STACK" Bundle.steD A s s.heap) (hN : vx_Zq Bundle.tN "SUPPRESSED_SENTINEL" Bundle.listD A s s.heap) (hS : va_S A s.heap H locs) (hsize : ls.size = c.maxLocals)
    (d0 : decode cc pc = .ok (.new ik, 3)) (d3 : decode cc (pc + 3) = .ok (.dup, 1)) (d4 : decode cc (pc + 4) = .ok (.ldc is, 2)) (d6 : decode cc (pc + 6) = .ok (.invokespecial ic, 3)) (d9 : decode cc (pc + 9) = .ok (.athrow, 1))
    (hout : ∀ x ∈ c.exceptionTable.toList, covers x (pc + 9) = false)
    (hRframes : names.length + 3 < R.frames) (hRlocals : (rest.map fun v => v.category).sum + (13 * (names.length + 1) + 43) ≤ R.locals) (hRcells : cells + 1 ≤ R.cells) (hRslots : slots + 6 ≤ R.slots) (hlocks : meth.locks = false)
    (hx : ∀ t : State, s.vm.Alike t.vm → H.size ≤ t.heap.size → (∀ q : Nat, q < H.size → t.heap[q]? = H[q]?) → XC cls s t)
    (hf : ∀ z ∈ locs, free z.base) (hc : cells + 1 ≤ mc) (hs : slots + 6 ≤ ms) :
    W p l e R s m args below meth c H locs cells slots (vx_MQ below Qc XC args s mc ms free) (F0 m pc ls rest) := by
  intro T hT X
  have htr : e.platform.stackTraces = false := (show e.platform.stackTraces = l.stackTraces by rw [X.admits.platform]).trans hl
  have Y := vx_rebase X (R' := { frames := R.frames, locals := R.locals, cells := 1, slots := 6 }) (Nat.le_refl _) (Nat.le_refl _) hRcells hRslots
  obtain ⟨s', hA⟩ : ∃ z, z = (T.setVm s.vm).setFrames (.invoking m args :: below) := ⟨_, rfl⟩
  rw [← hA] at Y
  have hvm : s'.vm = s.vm := by rw [hA]; rfl
  have hhp : s'.heap = H := by rw [hA]; exact hT
  have hW0 : s.WarmedH s'.vm := by rw [hvm]; exact State.WarmedH.refl s
  have hat' : ∀ w ∈ vx_atS own ic cls names, w.before args s' = true := fun w hw => vx_ot_at hW0 hvm.symm (hgood w (List.mem_cons_of_mem _ (List.mem_cons_of_mem _ hw))) (hat w hw)
  have hk' : (Cond.classLink own ik cls).before args s' = true := vx_ot_at hW0 hvm.symm (hgood _ List.mem_cons_self) hk
  have hini' : (Cond.initialized cls).before args s' = true := vx_ot_at hW0 hvm.symm (hgood _ (List.mem_cons_of_mem _ List.mem_cons_self)) hini
  have hU' : vx_Zq Bundle.tN "UNASSIGNED_STACK" Bundle.steD A s' s'.heap := by rw [hhp]; exact vx_Zq.moved hW0.alike (hU.kept hS.2.1)
  have hN' : vx_Zq Bundle.tN "SUPPRESSED_SENTINEL" Bundle.listD A s' s'.heap := by rw [hhp]; exact vx_Zq.moved hW0.alike (hN.kept hS.2.1)
  have h : ∀ w ∈ Bundle.ownAtoms own ic cls names, w.before args s' = true := vx_own hat' (vx_isRefq hU'.1) (vx_isRefq hN'.1) hU'.2.word hN'.2.word
  have hown' : s'.vm.findClass own = some m.cls := by rw [hvm]; exact hown
  have hins : (Cond.instantiable cls 6).before args s' = true := h _ (by simp [Bundle.ownAtoms])
  obtain ⟨vm₁, cX, kX, hfX, hkX, -, -, X₁, st1⟩ := Y.newCold hexec (own := own) (C := cls) (index := ik) (n := 6) hown' hk' hins hini'
    (g := F0 m pc ls rest) rfl (by rw [hb]; exact d0) (Nat.le_refl _) (Nat.le_refl _)
  generalize hT1 : (T.setVm vm₁).pushCell { cls := cX, slots := kX.instanceTypes.map defaultValue, vm := .none } = T1 at X₁ st1
  have hcat : (Value.ref T.heap.size).category = 1 := rfl
  have hcellA : T1.heap[T.heap.size]? = some (freshCell cX kX) := by rw [← hT1]; exact State.heap_pushCell_size _ _
  have d3' : decode c.code (pc + 3) = .ok (.dup, 1) := by rw [hb]; exact d3
  have d4' : decode c.code (pc + 4) = .ok (.ldc is, 2) := by rw [hb]; exact d4
  have hstr' : vk_R own is text sa s' := vk_R.warm hW0 hstr
  obtain ⟨U, hsteps, hrun, hend, hW, hsame, ce, hce, hO⟩ := X₁.ctorThrowS hexec htr (own := own) (cls := cls) (names := names) (ic := ic) hown' hcls hnames h (fun x hx => nomatch hx) hfX hkX hcellA (by rw [hhp, hT]; exact Nat.le_refl _) (msg := .ref sa) rfl
    (g := { method := m, pc := pc + 6, locals := ls, stack := .ref sa :: .ref T.heap.size :: .ref T.heap.size :: rest, locked := none }) rfl hsize rfl rfl (rest := rest) rfl
    (by rw [hb]; exact d6) (by rw [hb]; exact d9) hout hRframes (by simp only [List.map_cons, List.sum_cons, hcat]; omega) hlocks
  obtain ⟨f1, f2⟩ := vx_frame hsame
  rw [hhp] at f1 f2
  have hWs : s.WarmedH U.vm := State.WarmedH.trans hW0 hW
  have hcl : s.vm.findClass cls = some ce.cls := by
    have h9 := hO.cls
    rw [hvm] at h9
    exact h9
  have hall : s.sameButNew ({ U with vm := s.vm } : State) locs mc ms := by
    subst hA
    obtain ⟨e1, e2⟩ := hsame
    rw [State.setFrames_setFrames] at e1
    have h2 : (T.setVm s.vm).sameButNew ({ U with vm := s.vm } : State) [] (0 + 1) (0 + 6) := ⟨e1, e2⟩
    have h3 := X.same.trans h2
    rw [List.append_nil] at h3
    exact h3.mono hc hs
  refine ⟨U, ?_, .threw T.heap.size, hrun, hend, Or.inr ⟨T.heap.size, rfl, cls, ce, locs, hx U hWs.alike f1 (fun q hq => f2 q hq (fun z hz => nomatch hz)), hce, hO.vm, hcl, hWs, hall, hf⟩⟩
  refine st1 _ ?_
  show Steps p.tables e below (T1.setTop { method := m, pc := pc + 3, locals := ls, stack := .ref T.heap.size :: rest, locked := none }) _
  jvm_step X₁.here [X₁.here.top, hexec, d3', Value.category]
  exact X₁.ldcString hexec (own := own) (text := text) (index := is) (a := sa) hown' hstr'.1 hstr'.2
    (g := { method := m, pc := pc + 4, locals := ls, stack := .ref T.heap.size :: .ref T.heap.size :: rest, locked := none }) rfl d4' _ hsteps
/-- 'throw new E("text")', the text by a wide index -/
theorem vx_throwSW {cc : ByteArray} {pc : Nat} (hexec : p.tables.exec = Jvm.exec) (hb : c.code = cc) (hl : l.stackTraces = false) {own cls text : String} {names : List String} {ik is ic mc ms sa : Nat} {A : Nat → Prop}
    (hown : s.vm.findClass own = some m.cls) (hcls : Bundle.fit cls = true) (hnames : ∀ n ∈ names, Bundle.fit n = true)
    (hk : (Cond.classLink own ik cls).before args s = true) (hini : (Cond.initialized cls).before args s = true) (hstr : vk_R own is text sa s) (hat : ∀ w ∈ vx_atS own ic cls names, w.before args s = true)
    (hgood : ∀ w ∈ Cond.classLink own ik cls :: Cond.initialized cls :: vx_atS own ic cls names, vx_ot w = true)
    (hU : vx_Zq Bundle.tN "UNASSIGNED_STACK" Bundle.steD A s s.heap) (hN : vx_Zq Bundle.tN "SUPPRESSED_SENTINEL" Bundle.listD A s s.heap) (hS : va_S A s.heap H locs) (hsize : ls.size = c.maxLocals)
    (d0 : decode cc pc = .ok (.new ik, 3)) (d3 : decode cc (pc + 3) = .ok (.dup, 1)) (d4 : decode cc (pc + 4) = .ok (.ldc_w is, 3)) (d7 : decode cc (pc + 7) = .ok (.invokespecial ic, 3)) (d10 : decode cc (pc + 10) = .ok (.athrow, 1))
    (hout : ∀ x ∈ c.exceptionTable.toList, covers x (pc + 10) = false)
    (hRframes : names.length + 3 < R.frames) (hRlocals : (rest.map fun v => v.category).sum + (13 * (names.length + 1) + 43) ≤ R.locals) (hRcells : cells + 1 ≤ R.cells) (hRslots : slots + 6 ≤ R.slots) (hlocks : meth.locks = false)
    (hx : ∀ t : State, s.vm.Alike t.vm → H.size ≤ t.heap.size → (∀ q : Nat, q < H.size → t.heap[q]? = H[q]?) → XC cls s t)
    (hf : ∀ z ∈ locs, free z.base) (hc : cells + 1 ≤ mc) (hs : slots + 6 ≤ ms) :
    W p l e R s m args below meth c H locs cells slots (vx_MQ below Qc XC args s mc ms free) (F0 m pc ls rest) := by
  intro T hT X
  have htr : e.platform.stackTraces = false := (show e.platform.stackTraces = l.stackTraces by rw [X.admits.platform]).trans hl
  have Y := vx_rebase X (R' := { frames := R.frames, locals := R.locals, cells := 1, slots := 6 }) (Nat.le_refl _) (Nat.le_refl _) hRcells hRslots
  obtain ⟨s', hA⟩ : ∃ z, z = (T.setVm s.vm).setFrames (.invoking m args :: below) := ⟨_, rfl⟩
  rw [← hA] at Y
  have hvm : s'.vm = s.vm := by rw [hA]; rfl
  have hhp : s'.heap = H := by rw [hA]; exact hT
  have hW0 : s.WarmedH s'.vm := by rw [hvm]; exact State.WarmedH.refl s
  have hat' : ∀ w ∈ vx_atS own ic cls names, w.before args s' = true := fun w hw => vx_ot_at hW0 hvm.symm (hgood w (List.mem_cons_of_mem _ (List.mem_cons_of_mem _ hw))) (hat w hw)
  have hk' : (Cond.classLink own ik cls).before args s' = true := vx_ot_at hW0 hvm.symm (hgood _ List.mem_cons_self) hk
  have hini' : (Cond.initialized cls).before args s' = true := vx_ot_at hW0 hvm.symm (hgood _ (List.mem_cons_of_mem _ List.mem_cons_self)) hini
  have hU' : vx_Zq Bundle.tN "UNASSIGNED_STACK" Bundle.steD A s' s'.heap := by rw [hhp]; exact vx_Zq.moved hW0.alike (hU.kept hS.2.1)
  have hN' : vx_Zq Bundle.tN "SUPPRESSED_SENTINEL" Bundle.listD A s' s'.heap := by rw [hhp]; exact vx_Zq.moved hW0.alike (hN.kept hS.2.1)
  have h : ∀ w ∈ Bundle.ownAtoms own ic cls names, w.before args s' = true := vx_own hat' (vx_isRefq hU'.1) (vx_isRefq hN'.1) hU'.2.word hN'.2.word
  have hown' : s'.vm.findClass own = some m.cls := by rw [hvm]; exact hown
  have hins : (Cond.instantiable cls 6).before args s' = true := h _ (by simp [Bundle.ownAtoms])
  obtain ⟨vm₁, cX, kX, hfX, hkX, -, -, X₁, st1⟩ := Y.newCold hexec (own := own) (C := cls) (index := ik) (n := 6) hown' hk' hins hini'
    (g := F0 m pc ls rest) rfl (by rw [hb]; exact d0) (Nat.le_refl _) (Nat.le_refl _)
  generalize hT1 : (T.setVm vm₁).pushCell { cls := cX, slots := kX.instanceTypes.map defaultValue, vm := .none } = T1 at X₁ st1
  have hcat : (Value.ref T.heap.size).category = 1 := rfl
  have hcellA : T1.heap[T.heap.size]? = some (freshCell cX kX) := by rw [← hT1]; exact State.heap_pushCell_size _ _
  have d3' : decode c.code (pc + 3) = .ok (.dup, 1) := by rw [hb]; exact d3
  have d4' : decode c.code (pc + 4) = .ok (.ldc_w is, 3) := by rw [hb]; exact d4
  have hstr' : vk_R own is text sa s' := vk_R.warm hW0 hstr
  obtain ⟨U, hsteps, hrun, hend, hW, hsame, ce, hce, hO⟩ := X₁.ctorThrowS hexec htr (own := own) (cls := cls) (names := names) (ic := ic) hown' hcls hnames h (fun x hx => nomatch hx) hfX hkX hcellA (by rw [hhp, hT]; exact Nat.le_refl _) (msg := .ref sa) rfl
    (g := { method := m, pc := pc + 7, locals := ls, stack := .ref sa :: .ref T.heap.size :: .ref T.heap.size :: rest, locked := none }) rfl hsize rfl rfl (rest := rest) rfl
    (by rw [hb]; exact d7) (by rw [hb]; exact d10) hout hRframes (by simp only [List.map_cons, List.sum_cons, hcat]; omega) hlocks
  obtain ⟨f1, f2⟩ := vx_frame hsame
  rw [hhp] at f1 f2
  have hWs : s.WarmedH U.vm := State.WarmedH.trans hW0 hW
  have hcl : s.vm.findClass cls = some ce.cls := by
    have h9 := hO.cls
    rw [hvm] at h9
    exact h9
  have hall : s.sameButNew ({ U with vm := s.vm } : State) locs mc ms := by
    subst hA
    obtain ⟨e1, e2⟩ := hsame
    rw [State.setFrames_setFrames] at e1
    have h2 : (T.setVm s.vm).sameButNew ({ U with vm := s.vm } : State) [] (0 + 1) (0 + 6) := ⟨e1, e2⟩
    have h3 := X.same.trans h2
    rw [List.append_nil] at h3
    exact h3.mono hc hs
  refine ⟨U, ?_, .threw T.heap.size, hrun, hend, Or.inr ⟨T.heap.size, rfl, cls, ce, locs, hx U hWs.alike f1 (fun q hq => f2 q hq (fun z hz => nomatch hz)), hce, hO.vm, hcl, hWs, hall, hf⟩⟩
  refine st1 _ ?_
  show Steps p.tables e below (T1.setTop { method := m, pc := pc + 3, locals := ls, stack := .ref T.heap.size :: rest, locked := none }) _
  jvm_step X₁.here [X₁.here.top, hexec, d3', Value.category]
  exact X₁.ldcStringW hexec (own := own) (text := text) (index := is) (a := sa) hown' hstr'.1 hstr'.2
    (g := { method := m, pc := pc + 4, locals := ls, stack := .ref T.heap.size :: .ref T.heap.size :: rest, locked := none }) rfl d4' _ hsteps
end Ends
section Bodies
variable {l : Launch}
theorem vx_ofW {y : MethodName} {ws ws' : List Cond} {rm : Room} {Pc : Array Value → State → Prop} {Qc : Array Value → State → Outcome → State → Prop} {XC : String → State → State → Prop} {mc ms : Nat} {free : Addr → Prop} {cc : ByteArray} {maxL : Nat} {ret : Option FieldType}
    (hy : plainName y.cls = true) (hw : ws = Cond.code y cc maxL ret :: ws')
    (body : ∀ p e s m args below meth c s₁, BodyLoose p l y (headSpec ws rm) cc maxL ret e s m args below meth c s₁ → c.maxLocals = maxL → (∀ x ∈ c.exceptionTable.toList, False) → Pc args s →
      W p l e (headSpec ws rm).room s m args below meth c s.heap [] 0 0 (vx_MQ below Qc XC args s mc ms free) (entryFrame m args maxL)) : vx_Met l y ws rm Pc Qc XC mc ms free := by
  refine MetFree.of_bodyS (code := cc) (maxLocals := maxL) (ret := ret) hy ?_ ?_
  · intro args s m h hn
    obtain ⟨meth, c, h1, h2, h3, h4, h5, h6, -, -⟩ := Cond.code_spec hn (atoms_spec (ws := ws) h _ (by rw [hw]; exact List.mem_cons_self))
    exact ⟨meth, c, h1, h2, h3, h4, h5, h6⟩
  · intro p e s m args below meth c s₁ B hml hP _
    have hh0 : s₁.heap = s.heap := by rw [B.state]; rfl
    have ht : ∀ x ∈ c.exceptionTable.toList, False := by
      obtain ⟨meth9, c9, h1, h2, -, -, -, -, h7, -⟩ := Cond.code_spec B.named (atoms_spec (ws := ws) B.pre _ (by rw [hw]; exact List.mem_cons_self))
      cases Option.some.inj (h1.symm.trans B.method)
      cases Option.some.inj (h2.symm.trans (Stand.of_body B).code)
      intro x hx
      rw [Array.isEmpty_iff.mp h7] at hx
      cases hx
    obtain ⟨t, a1, o, b1, b2, b3⟩ := body p e s m args below meth c s₁ B hml ht hP s₁ hh0 (Stand.of_body B)
    exact ⟨t, o, a1, b1, b2, b3⟩
/-- the table of a body with handlers -/
theorem vx_table {p : Program} {x y : MethodName} {S : Spec} {cc bytes : ByteArray} {maxL maxL' : Nat} {ret ret' : Option FieldType} {e : Env} {s s₁ : State} {m : MethodId} {args : Array Value} {below : List Frame} {meth : Method} {c : Code} {hh : List (Nat × Nat × Nat × Nat)}
    (B : BodyLoose p l y S cc maxL ret e s m args below meth c s₁) (h : (Cond.codeWith y bytes maxL' ret' hh).before args s = true) : c.exceptionTable.toList = tableOf hh := by
  obtain ⟨m9, meth9, c9, hn9, h1, h2, -, -, h6, -⟩ := Cond.codeWith_spec h
  cases Option.some.inj (hn9.symm.trans B.named)
  cases Option.some.inj (h1.symm.trans B.method)
  cases Option.some.inj (h2.symm.trans (Stand.of_body B).code)
  rw [← h6, table_eq]
end Bodies
end VXA
/-! ===== END ===== -/
/-! ===== BEGIN a static call of a method with an exception table ===== -/
section VXS
variable {p : Program} {l : Launch} {e : Env} {R : Room} {s : State} {m : MethodId} {args : Array Value} {below : List Frame} {meth : Method} {c : Code} {T : State} {H : Heap} {locs : List Loc} {cells slots : Nat}
abbrev vx_CSW (R : Room) (s : State) (args : Array Value) (own : String) (index : Nat) (y : MethodName) (bytes : ByteArray) (maxL : Nat) (ret : Option FieldType) (hh : List (Nat × Nat × Nat × Nat)) (ws : List Cond) (rm : Room) (mc ms n : Nat) : Prop :=
  (rm.cells = mc ∧ rm.slots = ms ∧ rm.frames + 1 ≤ R.frames ∧ 8 + (maxL + 11) + rm.locals ≤ R.locals ∧ (∀ w ∈ ws, ∀ (a' : Array Value) (U : State), s.WarmedH U.vm → w.before a' U = true) ∧ Cond.codeWith y bytes maxL ret hh ∈ ws) ∧
  (Cond.codeWith y bytes maxL ret hh).before args s = true ∧ (Cond.initialized y.cls).before args s = true ∧ (y.cls ≠ "java/lang/invoke/MethodHandle" ∧ y.cls ≠ "java/lang/invoke/VarHandle") ∧
  (∀ sig, parseMethodDescriptor y.desc = some sig → n = sig.parameters.length) ∧ (Cond.methodLink own index y).before args s = true ∧ (Cond.static y).before args s = true
theorem vx_cwSW {own : String} {index maxL mc ms : Nat} {y : MethodName} {bytes : ByteArray} {ret : Option FieldType} {hh : List (Nat × Nat × Nat × Nat)} {Ts ws ws' : List Cond} {rm : Room} (n : Nat) (ht : ∀ w ∈ Ts, w.before args s = true) (hT : GoodIn Ts (va_wsS own index y ws)) (hw : ws = Cond.codeWith y bytes maxL ret hh :: ws') (hrc : rm.cells = mc) (hrs : rm.slots = ms)
    (hd : y.cls ≠ "java/lang/invoke/MethodHandle" ∧ y.cls ≠ "java/lang/invoke/VarHandle" ∧ (parseMethodDescriptor y.desc).map (fun d => d.parameters.length) = some n) (hR : rm.frames + 1 ≤ R.frames ∧ 8 + (maxL + 11) + rm.locals ≤ R.locals) :
    vx_CSW R s args own index y bytes maxL ret hh ws rm mc ms n := by
  have ok : ∀ w ∈ va_wsS own index y ws, w.before args s = true := fun w h => ht w (hT w h).1
  have hG : GoodIn Ts ws := fun w h => hT w (by unfold va_wsS; exact List.mem_append_right _ h)
  have hc : Cond.codeWith y bytes maxL ret hh ∈ ws := by rw [hw]; exact List.mem_cons_self
  refine ⟨⟨hrc, hrs, hR.1, hR.2, pay_in ht hG, hc⟩, ht _ (hG _ hc).1, ok _ (by simp [va_wsS]), ⟨hd.1, hd.2.1⟩, fun sig h => ?_, ok _ (by simp [va_wsS]), ok _ (by simp [va_wsS])⟩
  have h2 := hd.2.2
  rw [h] at h2
  exact (Option.some.inj h2).symm
theorem vx_callSW (X : Stand p l e R s m args below meth c T locs cells slots) (hexec : p.tables.exec = Jvm.exec) {own : String} {index : Nat} {y : MethodName} {bytes : ByteArray} {maxL : Nat} {ret : Option FieldType} {hh : List (Nat × Nat × Nat × Nat)}
    (hown : s.vm.findClass own = some m.cls) (hlink : (Cond.methodLink own index y).before args s = true) (hstat : (Cond.static y).before args s = true) (hinit : (Cond.initialized y.cls).before args s = true)
    (hcode : (Cond.codeWith y bytes maxL ret hh).before args s = true) (hy : y.cls ≠ "java/lang/invoke/MethodHandle" ∧ y.cls ≠ "java/lang/invoke/VarHandle")
    {W9 : Nat} {Pre : Pt → Array Value → Prop} {Post : Pt → Array Value → Option Value → Pt → Prop} (hK : Back l R p e below s args y 3 W9 Pre Post)
    {g : JFrame} (hg : g.method = m) (hsize : g.locals.size = c.maxLocals) {argsL rest : List Value} (hlen : ∀ sig, parseMethodDescriptor y.desc = some sig → argsL.length = sig.parameters.length)
    (hstack : g.stack = argsL.reverse ++ rest) (hW : 2 * g.monitorRoom + (rest.map fun v => v.category).sum ≤ W9) (hdg : decode c.code g.pc = .ok (.invokestatic index, 3))
    (hpre : ∀ vm₁, s.WarmedH vm₁ → Pre ⟨T.setVm vm₁, locs, cells, slots⟩ argsL.toArray) :
    ∃ (v : Option Value) (vm₁ : Vm) (B : Pt), s.WarmedH vm₁ ∧ Stand p l e R s m args below meth c B.U B.locs B.cells B.slots ∧ Post ⟨T.setVm vm₁, locs, cells, slots⟩ argsL.toArray v B ∧
      ∀ target, Steps p.tables e below (B.U.setTop { g with pc := g.pc + 3, stack := v.toList ++ rest }) target → Steps p.tables e below (T.setTop g) target := by
  obtain ⟨mk, methM, cM, hnamed, hmethM, -, -, -, -, -, -, hsigM⟩ := Cond.codeWith_spec hcode
  have hstatic : methM.isStatic = true := Cond.static_spec hnamed hmethM hstat
  obtain ⟨kP, hkP, -⟩ := className_of_methodNamed hnamed
  have hinitP : kP.init = .initialized := Cond.initialized_spec (findClass_of_methodNamed hnamed) hkP hinit
  obtain ⟨vm₁, X₁, hstep₁⟩ := X.invokestatic hexec hown hlink hnamed hmethM hstatic hkP hinitP hy (g := g) hg (argsL := argsL) (rest := rest) (hlen _ hsigM) hstack hdg
  obtain ⟨v, B, X', hpost, hsteps⟩ := hK m meth c ⟨T.setVm vm₁, locs, cells, slots⟩ { g with stack := rest } (.invokestatic index) mk argsL.toArray X₁ hg hsize hdg hW (X₁.named hnamed) (hpre vm₁ X₁.warmed)
  exact ⟨v, vm₁, B, X₁.warmed, X', hpost, fun target h => hstep₁ _ fun acts => by rw [doInvoke_state]; exact hsteps.trans h⟩
theorem vx_runSW {y : MethodName} {bytes cc : ByteArray} {maxL nL mc ms n index : Nat} {ret : Option FieldType} {hh : List (Nat × Nat × Nat × Nat)} {ws : List Cond} {rm : Room} {Pc : Array Value → State → Prop} {Qc : Array Value → State → Outcome → State → Prop} {free : Addr → Prop} {Ts : List Cond} {own : String} {As rest : List Value} {g : JFrame}
    (S : CallFix p m c cc nL s args Ts own) (hM : Met l y ws rm Pc Qc mc ms free) (cw : vx_CSW R s args own index y bytes maxL ret hh ws rm mc ms n) (hp : PreS s H Pc As)
    (hg : g.method = m) (hn : As.length = n) (hsize : g.locals.size = nL) (hstack : g.stack = As.reverse ++ rest) (hW : 2 * g.monitorRoom + (rest.map fun v => v.category).sum ≤ 8) (hdg : decode cc g.pc = .ok (.invokestatic index, 3)) (hf : cells + mc ≤ R.cells ∧ slots + ms ≤ R.slots) :
    va_Run p l e R s m args below meth c H locs cells slots mc ms g rest (Qc As.toArray) (free) := by
  obtain ⟨⟨hrc, hrs, hfr, hlo, hws, hcw⟩, hcode, hini, hy, hlen, hl, hstt⟩ := cw
  have hK : Back l R p e below s args y 3 8 (PreOf R mc ms Pc) (PostOf Qc mc ms free) := va_backW (hh := hh) (bytes := bytes) (maxL := maxL) (ret := ret) hM hp.1 hrc hrs hfr hlo hws hcw (fun a' U hW => word_at hW (Or.inl (by first | rfl | simp [Cond.onTables, Cond.keeps, Cond.steady])) hini)
  obtain ⟨hx, hb, hml, ho, -⟩ := S
  intro T hT X
  obtain ⟨v, vm₁, ⟨U', l2, c2, s2⟩, hW₁, X', ⟨g', mk, t, L, e1, e2, hq, h1, hL, h2, h3⟩, st⟩ := vx_callSW X hx (hh := hh) (bytes := bytes) (maxL := maxL) (ret := ret) ho hl hstt hini hcode hy hK hg (hsize.trans hml.symm) (argsL := As) (rest := rest) (fun sig h => hn.trans (hlen sig h)) hstack hW (by rw [hb]; exact hdg)
    (fun vm₁ hW₁ => ⟨hf.1, hf.2, hp.2 (T.setVm vm₁) hT hW₁⟩)
  dsimp only [Pt.U, Pt.locs, Pt.cells, Pt.slots] at X' e1 e2 h1 h2 h3 st
  subst h1; subst h2; subst h3
  exact ⟨v, (T.setVm vm₁).calling g' mk As.toArray, t, U', L, hT, X', hL, e1, e2, hq, st⟩
/-- not caught here, past rows that name other classes: it goes on to the caller -/
theorem vx_outP {p : Program} {l : Launch} {e : Env} {R : Room} {s : State} {m : MethodId} {args : Array Value} {below : List Frame} {meth : Method} {c : Code} {H : Heap} {locs : List Loc} {cells slots : Nat} {free : Addr → Prop} {ls : Array Slot} {rest : List Value} {Qc : Array Value → State → Outcome → State → Prop} {XC : String → State → State → Prop}
    {pc : Nat} {own E : String} {ce : Cell} {q : Addr} {mc ms : Nat} (hown : s.vm.findClass own = some m.cls) (hlocks : meth.locks = false)
    (hpass : ∀ z ∈ c.exceptionTable.toList, covers z pc = false ∨ (z.catchType ≠ 0 ∧ ∃ nm : String, (Cond.classLink own z.catchType nm).before args s = true ∧ va_Nc E nm s)) (hcell : H[q]? = some ce) (hv : ce.vm = .none) (hcl : s.vm.findClass E = some ce.cls)
    (hx : ∀ t : State, t.heap = H → s.vm.Alike t.vm → XC E s t) (hf : ∀ z ∈ locs, free z.base) (hc : cells ≤ mc) (hs : slots ≤ ms) :
    vx_W p l e R s m args below meth c H locs cells slots (vx_MQ below Qc XC args s mc ms free) (F0 m pc ls rest) q := by
  intro T hT X
  have hpl : e.platform.magicAccessors = ({} : Platform).magicAccessors := by rw [X.admits.platform]
  obtain ⟨vm', hW', X', st⟩ := X.outThrough hlocks q (g := F0 m pc ls rest) rfl rfl rfl (cell := ce) (by rw [hT]; exact hcell) (by rw [hv]; rfl)
    (by obtain ⟨k9, h9, -⟩ := Vm.findClass_spec hcl; exact ⟨k9, h9⟩) (fun z hz => by
      rcases hpass z hz with h | ⟨hz0, nm, hl1, hn1⟩
      · exact Or.inl h
      · obtain ⟨c6, hc6, hcl6⟩ := Cond.classLink_spec hown hl1 e.platform hpl
        obtain ⟨a8, b8, h1, h2, h3⟩ := hn1
        cases Option.some.inj (h1.symm.trans hcl)
        cases Option.some.inj (h2.symm.trans hc6)
        exact Or.inr ⟨hz0, _, hcl6, h3⟩)
  obtain ⟨g₀, hfr⟩ := X'.frames_eq
  have hcell9 : ((T.setVm vm').setFrames (.throwing q :: below)).heap[q]? = some ce := by
    show T.heap[q]? = some ce
    rw [hT]; exact hcell
  have hend : Ended ((T.setVm vm').setFrames (.throwing q :: below)) below (.threw q) := State.frames_setFrames _ (State.cur_lt_of_frames hfr)
  refine ⟨(T.setVm vm').setFrames (.throwing q :: below), ?_, .threw q, X'.here.running, hend, Or.inr ⟨q, rfl, E, ce, locs, hx _ hT (X'.ends _).1.alike, hcell9, hv, hcl, (X'.ends _).1, (X'.ends _).2.mono hc hs, hf⟩⟩
  rw [X.pushThrowing_eq]
  exact st
/-- a thing of a world lies in the heap -/
theorem vx_lt {D : va_G} {cl : List vw_C} {ws : va_W} {H1 : Heap} (h : va_P D cl ws H1) {k : Nat} {q : Nat × va_E} (hk : ws[k]? = some q) : q.1 < H1.size := (h k q hk).lt
end VXS
/-! ===== END ===== -/
/-! ===== BEGIN methods with a table of their own: called by a name, returning or throwing ===== -/
section VXH
/-! vx_backW, vx_callVX, vx_callSX, vx_callVW, vx_runVW, vx_runVX, vx_runSX, vx_ofWH follow the same proofs as their sisters above (Free/Laws.lean, Shelf42/LK1.lean); vx_outP calls Shelf42/NT130.lean (outThrough). -/
section
variable {l : Launch} {R : Room} {p : Program} {e : Env} {below : List Frame} {s : State} {sargs : Array Value} {y : MethodName} {len W9 : Nat}
theorem vx_backW {ws : List Cond} {rm : Room} {Pc : Array Value → State → Prop} {Qc : Array Value → State → Outcome → State → Prop} {XC : String → State → State → Prop} {mc ms : Nat} {free : Addr → Prop} {bytes : ByteArray} {maxL : Nat} {ret : Option FieldType} {hh : List (Nat × Nat × Nat × Nat)}
    (hM : vx_Met l y ws rm Pc Qc XC mc ms free) (hblind : FrameBlind Pc) (hrc : rm.cells = mc) (hrs : rm.slots = ms)
    (hframes : rm.frames + 1 ≤ R.frames) (hlocals : W9 + (maxL + 11) + rm.locals ≤ R.locals)
    (hws : ∀ w ∈ ws, ∀ a' U, s.WarmedH U.vm → w.before a' U = true) (hcode : Cond.codeWith y bytes maxL ret hh ∈ ws) (hinit : ∀ a' U, s.WarmedH U.vm → (Cond.initialized y.cls).before a' U = true) :
    vx_Back l R p e below s sargs y len W9 (PreOf R mc ms Pc) (PostOf Qc mc ms free) (vx_Post XC mc ms free) := by
  intro m meth c A g ig mk a X hg hsize hdg hW hn hp
  have h1 : (headSpec ws rm).pre.before a A.U = true := atoms_intro fun w hw => hws w hw _ _ X.warmed
  have h2 : (Cond.codeWith y bytes maxL ret hh).before a A.U = true := hws _ hcode _ _ X.warmed
  have h3 : (Cond.initialized y.cls).before a A.U = true := hinit _ _ X.warmed
  have h4 : A.cells + (headSpec ws rm).room.cells ≤ R.cells := by rw [show (headSpec ws rm).room.cells = mc from hrc]; exact hp.1
  have h5 : A.slots + (headSpec ws rm).room.slots ≤ R.slots := by rw [show (headSpec ws rm).room.slots = ms from hrs]; exact hp.2.1
  have hPc : Pc a (A.U.calling g mk a) := hblind _ _ _ _ hp.2.2
  obtain ⟨U, Ls, c0, s0⟩ := A
  dsimp only [Pt.U, Pt.locs, Pt.cells, Pt.slots] at h1 h2 h3 h4 h5 X hn hPc ⊢
  obtain ⟨m9, methY, cY, hn9, hmY, hcY, -, hlY, -⟩ := Cond.codeWith_spec h2
  cases Option.some.inj (hn9.symm.trans hn)
  obtain ⟨kY, hkY, -⟩ := className_of_methodNamed hn
  have hinitY : kY.init = .initialized := Cond.initialized_spec (findClass_of_methodNamed hn) hkY h3
  have h : At U g.method c below := by rw [hg]; exact X.here
  have hlocals9 : W9 + (maxL + 11) + (headSpec ws rm).room.locals ≤ R.locals := hlocals
  have happ : (headSpec ws rm).appliesLoose y e.platform (U.calling g mk a) = true :=
    Spec.appliesLoose_calling (g := g) h hdg hn hkY hinitY
      (X.room_calling (g := g) (R' := (headSpec ws rm).room) hsize hmY hcY hframes (by rw [hlY]; omega) h4 h5) h1
  obtain ⟨mid, hmid⟩ := h.above
  have hfr : (U.setTop g).frames = (.java g :: mid) ++ below := by rw [State.frames_setTop' g h.top, hmid]; rfl
  obtain ⟨o, s₂, hsteps, -, hend, hq⟩ := Steps.callFree hM p X.admits X.cas X.clock (acts := []) hfr happ hPc trivial
  have hq' : vx_Q Qc XC mc ms free a (U.calling g mk a) o s₂ := hq
  rw [State.frames_setTop' g h.top] at hend
  obtain ⟨g₀, hg0⟩ := Option.isSome_iff_exists.mp h.top
  obtain ⟨r, hr⟩ := State.topJava?_eq_some.mp hg0
  have hr' : (({ U with heap := s₂.heap, slotsUsed := s₂.slotsUsed } : State).setVm s₂.vm).frames = .java g₀ :: r := hr
  rcases hq' with ⟨hqc, L, hfe, hL⟩ | ⟨q, rfl, E, ce, L, hx, hce, hcv, hcl, hW₂, hsm, hL⟩
  · obtain ⟨⟨v, rfl⟩, hW₂, e2, q2, q3, q4, q5, q6⟩ := id hfe
    have e3 : s₂ = ({ (U.calling g mk a).setFrames s₂.frames with heap := s₂.heap, slotsUsed := s₂.slotsUsed } : State).setVm s₂.vm := by
      have : s₂ = ({ s₂ with vm := (U.calling g mk a).vm } : State).setVm s₂.vm := rfl
      rw [e2] at this
      exact this
    obtain ⟨c₂, i₂, len₂, hc₂, hd₂, hf₂⟩ := hend
    have hW' : U.WarmedH s₂.vm := hW₂
    have hcc : c₂ = c := by
      have h1 : s₂.code? g.method = U.code? g.method := by
        rw [State.code?_eq, State.code?_eq, hW'.alike.method?]
      exact Option.some.inj (hc₂.symm.trans (h1.trans h.code))
    subst hcc
    have hlen : len₂ = len := by rw [hdg] at hd₂; cases hd₂; rfl
    subst hlen
    have hs₂ : s₂ = (({ U with heap := s₂.heap, slotsUsed := s₂.slotsUsed } : State).setVm s₂.vm).setTop { g with pc := g.pc + len₂, stack := v.toList ++ g.stack } := by
      refine e3.trans ?_
      rw [hf₂, State.calling_eq h.top, State.setFrames_setFrames, State.setTop_of_frames _ hr', hr]
      rfl
    have hsame : U.sameButNew ({ U with heap := s₂.heap, slotsUsed := s₂.slotsUsed } : State) L mc ms := by
      refine ⟨?_, q2, q3, q4, q5, q6⟩
      obtain ⟨t, ht, -⟩ := State.frames_cons hr
      show ({ U with heap := s₂.heap, slotsUsed := s₂.slotsUsed } : State) = { U.setFrames U.frames with heap := s₂.heap, slotsUsed := s₂.slotsUsed }
      rw [State.setFrames_self ht]
    subst hg
    refine Or.inl ⟨v, ⟨(({ U with heap := s₂.heap, slotsUsed := s₂.slotsUsed } : State).setVm s₂.vm), Ls ++ L, c0 + mc, s0 + ms⟩,
      ⟨X.admits, X.cas, X.clock, X.frames, X.room, X.hears, X.method, X.code, (X.here.setHeapUsed s₂.heap s₂.slotsUsed).setVm hW'.alike, X.tail, State.WarmedH.trans X.warmed hW', X.limits, X.bytes, X.same.trans (hsame.setVm s.vm)⟩,
      ⟨g, mk, s₂, L, rfl, rfl, hqc, rfl, hL, rfl, rfl⟩, ?_⟩
    show Steps p.tables e below _ ((({ U with heap := s₂.heap, slotsUsed := s₂.slotsUsed } : State).setVm s₂.vm).setTop { g with pc := g.pc + len₂, stack := v.toList ++ g.stack })
    rw [← hs₂]
    exact hsteps
  · obtain ⟨e2, q2, q3, q4, q5, q6⟩ := id hsm
    have e3 : s₂ = ({ (U.calling g mk a).setFrames s₂.frames with heap := s₂.heap, slotsUsed := s₂.slotsUsed } : State).setVm s₂.vm := by
      have : s₂ = ({ s₂ with vm := (U.calling g mk a).vm } : State).setVm s₂.vm := rfl
      rw [e2] at this
      exact this
    have hf₂ : s₂.frames = .throwing q :: .java g :: U.frames.tail := hend
    have hW' : U.WarmedH s₂.vm := hW₂
    have hs₂ : s₂ = ((({ U with heap := s₂.heap, slotsUsed := s₂.slotsUsed } : State).setVm s₂.vm).setTop g).pushFrame (.throwing q) := by
      refine e3.trans ?_
      rw [hf₂, State.calling_eq h.top, State.setFrames_setFrames, State.pushFrame, State.frames_setTop _ hr', State.setTop_of_frames _ hr', State.setFrames_setFrames, hr]
      rfl
    have hsame : U.sameButNew ({ U with heap := s₂.heap, slotsUsed := s₂.slotsUsed } : State) L mc ms := by
      refine ⟨?_, q2, q3, q4, q5, q6⟩
      obtain ⟨t, ht, -⟩ := State.frames_cons hr
      show ({ U with heap := s₂.heap, slotsUsed := s₂.slotsUsed } : State) = { U.setFrames U.frames with heap := s₂.heap, slotsUsed := s₂.slotsUsed }
      rw [State.setFrames_self ht]
    subst hg
    refine Or.inr ⟨q, ⟨(({ U with heap := s₂.heap, slotsUsed := s₂.slotsUsed } : State).setVm s₂.vm), Ls ++ L, c0 + mc, s0 + ms⟩,
      ⟨X.admits, X.cas, X.clock, X.frames, X.room, X.hears, X.method, X.code, (X.here.setHeapUsed s₂.heap s₂.slotsUsed).setVm hW'.alike, X.tail, State.WarmedH.trans X.warmed hW', X.limits, X.bytes, X.same.trans (hsame.setVm s.vm)⟩,
      ⟨g, mk, s₂, L, E, ce, rfl, rfl, hx, hce, hcv, hcl, rfl, hL, rfl, rfl⟩, ?_⟩
    show Steps p.tables e below _ (((({ U with heap := s₂.heap, slotsUsed := s₂.slotsUsed } : State).setVm s₂.vm).setTop g).pushFrame (.throwing q))
    rw [← hs₂]
    exact hsteps
end
variable {p : Program} {l : Launch} {e : Env} {R : Room} {s : State} {m : MethodId} {args : Array Value} {below : List Frame} {meth : Method} {c : Code} {T : State} {H : Heap} {locs : List Loc} {cells slots : Nat}
theorem vx_callVX (X : Stand p l e R s m args below meth c T locs cells slots) (hexec : p.tables.exec = Jvm.exec) {own C : String} {index : Nat} {y : MethodName} {bytes : ByteArray} {maxL : Nat} {ret : Option FieldType} {hh : List (Nat × Nat × Nat × Nat)}
    (hown : s.vm.findClass own = some m.cls) (hlink : (Cond.methodLink own index y).before args s = true) (hinst : (Cond.instanceMethod y).before args s = true) (hsel : (Cond.selects C y y).before args s = true)
    (hcode : (Cond.codeWith y bytes maxL ret hh).before args s = true) (hy : y.cls ≠ "java/lang/invoke/MethodHandle" ∧ y.cls ≠ "java/lang/invoke/VarHandle")
    {W9 : Nat} {Pre : Pt → Array Value → Prop} {Post : Pt → Array Value → Option Value → Pt → Prop} {PostX : Pt → Array Value → Addr → Pt → Prop} (hK : vx_Back l R p e below s args y 3 W9 Pre Post PostX)
    {b : Addr} {cellB : Cell} (hcell : T.heap[b]? = some cellB) (hobj : cellB.vm.isStatics = false) (hcls : s.vm.findClass C = some cellB.cls)
    {g : JFrame} (hg : g.method = m) (hsize : g.locals.size = c.maxLocals) {argsL rest : List Value} (hlen : ∀ sig, parseMethodDescriptor y.desc = some sig → argsL.length = sig.parameters.length)
    (hstack : g.stack = argsL.reverse ++ .ref b :: rest) (hW : 2 * g.monitorRoom + (rest.map fun v => v.category).sum ≤ W9) (hdg : decode c.code g.pc = .ok (.invokevirtual index, 3))
    (hpre : ∀ vm₁, s.WarmedH vm₁ → Pre ⟨T.setVm vm₁, locs, cells, slots⟩ (Value.ref b :: argsL).toArray) :
    (∃ (v : Option Value) (vm₁ : Vm) (B : Pt), s.WarmedH vm₁ ∧ Stand p l e R s m args below meth c B.U B.locs B.cells B.slots ∧ Post ⟨T.setVm vm₁, locs, cells, slots⟩ (Value.ref b :: argsL).toArray v B ∧
      ∀ target, Steps p.tables e below (B.U.setTop { g with pc := g.pc + 3, stack := v.toList ++ rest }) target → Steps p.tables e below (T.setTop g) target) ∨
    (∃ (q : Addr) (vm₁ : Vm) (B : Pt), s.WarmedH vm₁ ∧ Stand p l e R s m args below meth c B.U B.locs B.cells B.slots ∧ PostX ⟨T.setVm vm₁, locs, cells, slots⟩ (Value.ref b :: argsL).toArray q B ∧
      Steps p.tables e below (T.setTop g) ((B.U.setTop { g with stack := rest }).pushFrame (.throwing q))) := by
  obtain ⟨mk, methM, hnamed, hmethM, hstM, habM⟩ := Cond.instanceMethod_spec hinst
  obtain ⟨m8, methM', cM, hn8, hmethM', -, -, -, -, -, -, hsigM⟩ := Cond.codeWith_spec hcode
  cases Option.some.inj (hn8.symm.trans hnamed)
  cases hmethM.symm.trans hmethM'
  obtain ⟨c2, r2, m2, q1, q2, q3, q4, kP, hkP, hkPi⟩ := Cond.selects_spec hsel
  cases hcls.symm.trans q1
  cases (State.methodFound?_of_named hnamed hy).symm.trans q2
  cases hnamed.symm.trans q3
  have hselP : selectMethod e.platform s.vm cellB.cls mk = .method mk := by rw [Launch.admits_selectMethod X.admits]; exact q4
  obtain ⟨vm₁, X₁, hstep₁⟩ := X.invokevirtual hexec hown hlink hnamed hmethM hstM hkP hkPi hy (a := b) (cell := cellB) hcell
    (fun z h => by rw [h] at hobj; cases hobj) hselP hmethM habM hkP hkPi (g := g) hg (argsL := argsL) (rest := rest) (hlen _ hsigM) hstack hdg
  rcases hK m meth c ⟨T.setVm vm₁, locs, cells, slots⟩ { g with stack := rest } (.invokevirtual index) mk (Value.ref b :: argsL).toArray X₁ hg hsize hdg hW (X₁.named hnamed) (hpre vm₁ X₁.warmed) with ⟨v, B, X', hpost, hsteps⟩ | ⟨q, B, X', hpost, hsteps⟩
  · exact Or.inl ⟨v, vm₁, B, X₁.warmed, X', hpost, fun target h => hstep₁ _ fun acts => by rw [doInvoke_state]; exact hsteps.trans h⟩
  · exact Or.inr ⟨q, vm₁, B, X₁.warmed, X', hpost, hstep₁ _ fun acts => by rw [doInvoke_state]; exact hsteps⟩
theorem vx_callSX (X : Stand p l e R s m args below meth c T locs cells slots) (hexec : p.tables.exec = Jvm.exec) {own : String} {index : Nat} {y : MethodName} {bytes : ByteArray} {maxL : Nat} {ret : Option FieldType} {hh : List (Nat × Nat × Nat × Nat)}
    (hown : s.vm.findClass own = some m.cls) (hlink : (Cond.methodLink own index y).before args s = true) (hstat : (Cond.static y).before args s = true) (hinit : (Cond.initialized y.cls).before args s = true)
    (hcode : (Cond.codeWith y bytes maxL ret hh).before args s = true) (hy : y.cls ≠ "java/lang/invoke/MethodHandle" ∧ y.cls ≠ "java/lang/invoke/VarHandle")
    {W9 : Nat} {Pre : Pt → Array Value → Prop} {Post : Pt → Array Value → Option Value → Pt → Prop} {PostX : Pt → Array Value → Addr → Pt → Prop} (hK : vx_Back l R p e below s args y 3 W9 Pre Post PostX)
    {g : JFrame} (hg : g.method = m) (hsize : g.locals.size = c.maxLocals) {argsL rest : List Value} (hlen : ∀ sig, parseMethodDescriptor y.desc = some sig → argsL.length = sig.parameters.length)
    (hstack : g.stack = argsL.reverse ++ rest) (hW : 2 * g.monitorRoom + (rest.map fun v => v.category).sum ≤ W9) (hdg : decode c.code g.pc = .ok (.invokestatic index, 3))
    (hpre : ∀ vm₁, s.WarmedH vm₁ → Pre ⟨T.setVm vm₁, locs, cells, slots⟩ argsL.toArray) :
    (∃ (v : Option Value) (vm₁ : Vm) (B : Pt), s.WarmedH vm₁ ∧ Stand p l e R s m args below meth c B.U B.locs B.cells B.slots ∧ Post ⟨T.setVm vm₁, locs, cells, slots⟩ argsL.toArray v B ∧
      ∀ target, Steps p.tables e below (B.U.setTop { g with pc := g.pc + 3, stack := v.toList ++ rest }) target → Steps p.tables e below (T.setTop g) target) ∨
    (∃ (q : Addr) (vm₁ : Vm) (B : Pt), s.WarmedH vm₁ ∧ Stand p l e R s m args below meth c B.U B.locs B.cells B.slots ∧ PostX ⟨T.setVm vm₁, locs, cells, slots⟩ argsL.toArray q B ∧
      Steps p.tables e below (T.setTop g) ((B.U.setTop { g with stack := rest }).pushFrame (.throwing q))) := by
  obtain ⟨mk, methM, cM, hnamed, hmethM, -, -, -, -, -, -, hsigM⟩ := Cond.codeWith_spec hcode
  have hstatic : methM.isStatic = true := Cond.static_spec hnamed hmethM hstat
  obtain ⟨kP, hkP, -⟩ := className_of_methodNamed hnamed
  have hinitP : kP.init = .initialized := Cond.initialized_spec (findClass_of_methodNamed hnamed) hkP hinit
  obtain ⟨vm₁, X₁, hstep₁⟩ := X.invokestatic hexec hown hlink hnamed hmethM hstatic hkP hinitP hy (g := g) hg (argsL := argsL) (rest := rest) (hlen _ hsigM) hstack hdg
  rcases hK m meth c ⟨T.setVm vm₁, locs, cells, slots⟩ { g with stack := rest } (.invokestatic index) mk argsL.toArray X₁ hg hsize hdg hW (X₁.named hnamed) (hpre vm₁ X₁.warmed) with ⟨v, B, X', hpost, hsteps⟩ | ⟨q, B, X', hpost, hsteps⟩
  · exact Or.inl ⟨v, vm₁, B, X₁.warmed, X', hpost, fun target h => hstep₁ _ fun acts => by rw [doInvoke_state]; exact hsteps.trans h⟩
  · exact Or.inr ⟨q, vm₁, B, X₁.warmed, X', hpost, hstep₁ _ fun acts => by rw [doInvoke_state]; exact hsteps⟩
theorem vx_callVW (X : Stand p l e R s m args below meth c T locs cells slots) (hexec : p.tables.exec = Jvm.exec) {own C : String} {index : Nat} {y : MethodName} {bytes : ByteArray} {maxL : Nat} {ret : Option FieldType} {hh : List (Nat × Nat × Nat × Nat)}
    (hown : s.vm.findClass own = some m.cls) (hlink : (Cond.methodLink own index y).before args s = true) (hinst : (Cond.instanceMethod y).before args s = true) (hsel : (Cond.selects C y y).before args s = true)
    (hcode : (Cond.codeWith y bytes maxL ret hh).before args s = true) (hy : y.cls ≠ "java/lang/invoke/MethodHandle" ∧ y.cls ≠ "java/lang/invoke/VarHandle")
    {W9 : Nat} {Pre : Pt → Array Value → Prop} {Post : Pt → Array Value → Option Value → Pt → Prop} (hK : Back l R p e below s args y 3 W9 Pre Post)
    {b : Addr} {cellB : Cell} (hcell : T.heap[b]? = some cellB) (hobj : cellB.vm.isStatics = false) (hcls : s.vm.findClass C = some cellB.cls)
    {g : JFrame} (hg : g.method = m) (hsize : g.locals.size = c.maxLocals) {argsL rest : List Value} (hlen : ∀ sig, parseMethodDescriptor y.desc = some sig → argsL.length = sig.parameters.length)
    (hstack : g.stack = argsL.reverse ++ .ref b :: rest) (hW : 2 * g.monitorRoom + (rest.map fun v => v.category).sum ≤ W9) (hdg : decode c.code g.pc = .ok (.invokevirtual index, 3))
    (hpre : ∀ vm₁, s.WarmedH vm₁ → Pre ⟨T.setVm vm₁, locs, cells, slots⟩ (Value.ref b :: argsL).toArray) :
    ∃ (v : Option Value) (vm₁ : Vm) (B : Pt), s.WarmedH vm₁ ∧ Stand p l e R s m args below meth c B.U B.locs B.cells B.slots ∧ Post ⟨T.setVm vm₁, locs, cells, slots⟩ (Value.ref b :: argsL).toArray v B ∧
      ∀ target, Steps p.tables e below (B.U.setTop { g with pc := g.pc + 3, stack := v.toList ++ rest }) target → Steps p.tables e below (T.setTop g) target := by
  obtain ⟨mk, methM, hnamed, hmethM, hstM, habM⟩ := Cond.instanceMethod_spec hinst
  obtain ⟨m8, methM', cM, hn8, hmethM', -, -, -, -, -, -, hsigM⟩ := Cond.codeWith_spec hcode
  cases Option.some.inj (hn8.symm.trans hnamed)
  cases hmethM.symm.trans hmethM'
  obtain ⟨c2, r2, m2, q1, q2, q3, q4, kP, hkP, hkPi⟩ := Cond.selects_spec hsel
  cases hcls.symm.trans q1
  cases (State.methodFound?_of_named hnamed hy).symm.trans q2
  cases hnamed.symm.trans q3
  have hselP : selectMethod e.platform s.vm cellB.cls mk = .method mk := by rw [Launch.admits_selectMethod X.admits]; exact q4
  obtain ⟨vm₁, X₁, hstep₁⟩ := X.invokevirtual hexec hown hlink hnamed hmethM hstM hkP hkPi hy (a := b) (cell := cellB) hcell
    (fun z h => by rw [h] at hobj; cases hobj) hselP hmethM habM hkP hkPi (g := g) hg (argsL := argsL) (rest := rest) (hlen _ hsigM) hstack hdg
  obtain ⟨v, B, X', hpost, hsteps⟩ := hK m meth c ⟨T.setVm vm₁, locs, cells, slots⟩ { g with stack := rest } (.invokevirtual index) mk (Value.ref b :: argsL).toArray X₁ hg hsize hdg hW (X₁.named hnamed) (hpre vm₁ X₁.warmed)
  exact ⟨v, vm₁, B, X₁.warmed, X', hpost, fun target h => hstep₁ _ fun acts => by rw [doInvoke_state]; exact hsteps.trans h⟩
abbrev vx_CVW (R : Room) (s : State) (args : Array Value) (own C : String) (index : Nat) (y : MethodName) (bytes : ByteArray) (maxL : Nat) (ret : Option FieldType) (hh : List (Nat × Nat × Nat × Nat)) (ws : List Cond) (rm : Room) (mc ms n : Nat) : Prop :=
  (rm.cells = mc ∧ rm.slots = ms ∧ rm.frames + 1 ≤ R.frames ∧ 8 + (maxL + 11) + rm.locals ≤ R.locals ∧ (∀ w ∈ ws, ∀ (a' : Array Value) (U : State), s.WarmedH U.vm → w.before a' U = true) ∧ Cond.codeWith y bytes maxL ret hh ∈ ws) ∧
  (Cond.codeWith y bytes maxL ret hh).before args s = true ∧ (Cond.initialized y.cls).before args s = true ∧ (y.cls ≠ "java/lang/invoke/MethodHandle" ∧ y.cls ≠ "java/lang/invoke/VarHandle") ∧
  (∀ sig, parseMethodDescriptor y.desc = some sig → n = sig.parameters.length) ∧ (Cond.methodLink own index y).before args s = true ∧ (Cond.instanceMethod y).before args s = true ∧ (Cond.selects C y y).before args s = true
theorem vx_cwVW {own C : String} {index maxL mc ms : Nat} {y : MethodName} {bytes : ByteArray} {ret : Option FieldType} {hh : List (Nat × Nat × Nat × Nat)} {Ts ws ws' : List Cond} {rm : Room} (n : Nat) (ht : ∀ w ∈ Ts, w.before args s = true) (hT : GoodIn Ts (wsV own index C y ws)) (hw : ws = Cond.codeWith y bytes maxL ret hh :: ws') (hrc : rm.cells = mc) (hrs : rm.slots = ms)
    (hd : y.cls = C ∧ y.cls ≠ "java/lang/invoke/MethodHandle" ∧ y.cls ≠ "java/lang/invoke/VarHandle" ∧ (parseMethodDescriptor y.desc).map (fun d => d.parameters.length) = some n) (hR : rm.frames + 1 ≤ R.frames ∧ 8 + (maxL + 11) + rm.locals ≤ R.locals) :
    vx_CVW R s args own C index y bytes maxL ret hh ws rm mc ms n := by
  obtain ⟨hC, hd⟩ := hd
  subst hC
  have ok : ∀ w ∈ wsV own index y.cls y ws, w.before args s = true := fun w h => ht w (hT w h).1
  have hG : GoodIn Ts ws := fun w h => hT w (by unfold wsV; exact List.mem_append_right _ h)
  have hc : Cond.codeWith y bytes maxL ret hh ∈ ws := by rw [hw]; exact List.mem_cons_self
  refine ⟨⟨hrc, hrs, hR.1, hR.2, pay_in ht hG, hc⟩, ht _ (hG _ hc).1, ok _ (by simp [wsV]), ⟨hd.1, hd.2.1⟩, fun sig h => ?_, ok _ (by simp [wsV]), ok _ (by simp [wsV]), ok _ (by simp [wsV])⟩
  have h2 := hd.2.2
  rw [h] at h2
  exact (Option.some.inj h2).symm
theorem vx_runVW {y : MethodName} {bytes cc : ByteArray} {maxL nL mc ms n index : Nat} {ret : Option FieldType} {hh : List (Nat × Nat × Nat × Nat)} {ws : List Cond} {rm : Room} {Pc : Array Value → State → Prop} {Qc : Array Value → State → Outcome → State → Prop} {free : Addr → Prop} {Ts : List Cond} {own C : String} {b : Addr} {As rest : List Value} {g : JFrame}
    (S : CallFix p m c cc nL s args Ts own) (hM : Met l y ws rm Pc Qc mc ms free) (cw : vx_CVW R s args own C index y bytes maxL ret hh ws rm mc ms n) (hp : PreV s H C b Pc As)
    (hg : g.method = m) (hn : As.length = n) (hsize : g.locals.size = nL) (hstack : g.stack = As.reverse ++ .ref b :: rest) (hW : 2 * g.monitorRoom + (rest.map fun v => v.category).sum ≤ 8) (hdg : decode cc g.pc = .ok (.invokevirtual index, 3)) (hf : cells + mc ≤ R.cells ∧ slots + ms ≤ R.slots) :
    va_Run p l e R s m args below meth c H locs cells slots mc ms g rest (Qc (Value.ref b :: As).toArray) free := by
  obtain ⟨⟨hrc, hrs, hfr, hlo, hws, hcw⟩, hcode, hini, hy, hlen, hl, hin, hse⟩ := cw
  have hK : Back l R p e below s args y 3 8 (PreOf R mc ms Pc) (PostOf Qc mc ms free) := va_backW (hh := hh) (bytes := bytes) (maxL := maxL) (ret := ret) hM hp.1 hrc hrs hfr hlo hws hcw (fun a' U hW => word_at hW (Or.inl (by first | rfl | simp [Cond.onTables, Cond.keeps, Cond.steady])) hini)
  obtain ⟨hx, hb, hml, ho, -⟩ := S
  obtain ⟨-, ⟨cellB, hcB, hoB, hclB⟩, hPc⟩ := hp
  intro T hT X
  obtain ⟨v, vm₁, ⟨U', l2, c2, s2⟩, hW₁, X', ⟨g', mk, t, L, e1, e2, hq, h1, hL, h2, h3⟩, st⟩ := vx_callVW X hx (C := C) (hh := hh) (bytes := bytes) (maxL := maxL) (ret := ret) ho hl hin hse hcode hy hK (by rw [hT]; exact hcB) hoB hclB hg (hsize.trans hml.symm) (argsL := As) (rest := rest) (fun sig h => hn.trans (hlen sig h)) hstack hW (by rw [hb]; exact hdg)
    (fun vm₁ hW₁ => ⟨hf.1, hf.2, hPc (T.setVm vm₁) hT hW₁⟩)
  dsimp only [Pt.U, Pt.locs, Pt.cells, Pt.slots] at X' e1 e2 h1 h2 h3 st
  subst h1; subst h2; subst h3
  exact ⟨v, (T.setVm vm₁).calling g' mk (Value.ref b :: As).toArray, t, U', L, hT, X', hL, e1, e2, hq, st⟩
section
variable {y : MethodName} {bytes cc : ByteArray} {maxL nL mc ms n index : Nat} {ret : Option FieldType} {ws : List Cond} {rm : Room} {Pc : Array Value → State → Prop} {Qc : Array Value → State → Outcome → State → Prop} {XC : String → State → State → Prop} {free : Addr → Prop} {Ts : List Cond} {own C : String} {b : Addr} {As rest : List Value} {g : JFrame}
theorem vx_runVX {hh : List (Nat × Nat × Nat × Nat)} (S : CallFix p m c cc nL s args Ts own) (hM : vx_Met l y ws rm Pc Qc XC mc ms free) (cw : vx_CVW R s args own C index y bytes maxL ret hh ws rm mc ms n) (hp : PreV s H C b Pc As)
    (hg : g.method = m) (hn : As.length = n) (hsize : g.locals.size = nL) (hstack : g.stack = As.reverse ++ .ref b :: rest) (hW : 2 * g.monitorRoom + (rest.map fun v => v.category).sum ≤ 8) (hdg : decode cc g.pc = .ok (.invokevirtual index, 3)) (hf : cells + mc ≤ R.cells ∧ slots + ms ≤ R.slots) :
    vx_Run p l e R s m args below meth c H locs cells slots mc ms g rest (Qc (Value.ref b :: As).toArray) XC free := by
  obtain ⟨⟨hrc, hrs, hfr, hlo, hws, hcw⟩, hcode, hini, hy, hlen, hl, hin, hse⟩ := cw
  have hK : vx_Back l R p e below s args y 3 8 (PreOf R mc ms Pc) (PostOf Qc mc ms free) (vx_Post XC mc ms free) := vx_backW (hh := hh) (bytes := bytes) (maxL := maxL) (ret := ret) hM hp.1 hrc hrs hfr hlo hws hcw (fun a' U hW => word_at hW (Or.inl (by first | rfl | simp [Cond.onTables, Cond.keeps, Cond.steady])) hini)
  obtain ⟨hx, hb, hml, ho, -⟩ := S
  obtain ⟨-, ⟨cellB, hcB, hoB, hclB⟩, hPc⟩ := hp
  intro T hT X
  rcases vx_callVX X hx (C := C) (hh := hh) (bytes := bytes) (maxL := maxL) (ret := ret) ho hl hin hse hcode hy hK (by rw [hT]; exact hcB) hoB hclB hg (hsize.trans hml.symm) (argsL := As) (rest := rest) (fun sig h => hn.trans (hlen sig h)) hstack hW (by rw [hb]; exact hdg)
    (fun vm₁ hW₁ => ⟨hf.1, hf.2, hPc (T.setVm vm₁) hT hW₁⟩) with ⟨v, vm₁, ⟨U', l2, c2, s2⟩, hW₁, X', ⟨g', mk, t, L, e1, e2, hq, h1, hL, h2, h3⟩, st⟩ | ⟨q, vm₁, ⟨U', l2, c2, s2⟩, hW₁, X', ⟨g', mk, t, L, E, ce, e1, e2, hq, hce, hcv, hcl, h1, hL, h2, h3⟩, st⟩
  · dsimp only [Pt.U, Pt.locs, Pt.cells, Pt.slots] at X' e1 e2 h1 h2 h3 st
    subst h1; subst h2; subst h3
    exact Or.inl ⟨v, (T.setVm vm₁).calling g' mk (Value.ref b :: As).toArray, t, U', L, hT, X', hL, e1, e2, hq, st⟩
  · dsimp only [Pt.U, Pt.locs, Pt.cells, Pt.slots] at X' e1 e2 h1 h2 h3 st hcl
    subst h1; subst h2; subst h3
    exact Or.inr ⟨q, (T.setVm vm₁).calling g' mk (Value.ref b :: As).toArray, t, U', L, E, ce, hT, X', hL, e1, e2, hq, hce, hcv, vx_cls hW₁ hcl, st⟩
theorem vx_runSX {hh : List (Nat × Nat × Nat × Nat)} (S : CallFix p m c cc nL s args Ts own) (hM : vx_Met l y ws rm Pc Qc XC mc ms free) (cw : vx_CSW R s args own index y bytes maxL ret hh ws rm mc ms n) (hp : PreS s H Pc As)
    (hg : g.method = m) (hn : As.length = n) (hsize : g.locals.size = nL) (hstack : g.stack = As.reverse ++ rest) (hW : 2 * g.monitorRoom + (rest.map fun v => v.category).sum ≤ 8) (hdg : decode cc g.pc = .ok (.invokestatic index, 3)) (hf : cells + mc ≤ R.cells ∧ slots + ms ≤ R.slots) :
    vx_Run p l e R s m args below meth c H locs cells slots mc ms g rest (Qc As.toArray) XC free := by
  obtain ⟨⟨hrc, hrs, hfr, hlo, hws, hcw⟩, hcode, hini, hy, hlen, hl, hstt⟩ := cw
  have hK : vx_Back l R p e below s args y 3 8 (PreOf R mc ms Pc) (PostOf Qc mc ms free) (vx_Post XC mc ms free) := vx_backW (hh := hh) (bytes := bytes) (maxL := maxL) (ret := ret) hM hp.1 hrc hrs hfr hlo hws hcw (fun a' U hW => word_at hW (Or.inl (by first | rfl | simp [Cond.onTables, Cond.keeps, Cond.steady])) hini)
  obtain ⟨hx, hb, hml, ho, -⟩ := S
  intro T hT X
  rcases vx_callSX X hx (hh := hh) (bytes := bytes) (maxL := maxL) (ret := ret) ho hl hstt hini hcode hy hK hg (hsize.trans hml.symm) (argsL := As) (rest := rest) (fun sig h => hn.trans (hlen sig h)) hstack hW (by rw [hb]; exact hdg)
    (fun vm₁ hW₁ => ⟨hf.1, hf.2, hp.2 (T.setVm vm₁) hT hW₁⟩) with ⟨v, vm₁, ⟨U', l2, c2, s2⟩, hW₁, X', ⟨g', mk, t, L, e1, e2, hq, h1, hL, h2, h3⟩, st⟩ | ⟨q, vm₁, ⟨U', l2, c2, s2⟩, hW₁, X', ⟨g', mk, t, L, E, ce, e1, e2, hq, hce, hcv, hcl, h1, hL, h2, h3⟩, st⟩
  · dsimp only [Pt.U, Pt.locs, Pt.cells, Pt.slots] at X' e1 e2 h1 h2 h3 st
    subst h1; subst h2; subst h3
    exact Or.inl ⟨v, (T.setVm vm₁).calling g' mk As.toArray, t, U', L, hT, X', hL, e1, e2, hq, st⟩
  · dsimp only [Pt.U, Pt.locs, Pt.cells, Pt.slots] at X' e1 e2 h1 h2 h3 st hcl
    subst h1; subst h2; subst h3
    exact Or.inr ⟨q, (T.setVm vm₁).calling g' mk As.toArray, t, U', L, E, ce, hT, X', hL, e1, e2, hq, hce, hcv, vx_cls hW₁ hcl, st⟩
end
end VXH
theorem vx_ofWH {l : Launch} {y : MethodName} {ws ws' : List Cond} {rm : Room} {Pc : Array Value → State → Prop} {Qc : Array Value → State → Outcome → State → Prop} {XC : String → State → State → Prop} {mc ms : Nat} {free : Addr → Prop} {cc : ByteArray} {maxL : Nat} {ret : Option FieldType} {hh : List (Nat × Nat × Nat × Nat)}
    (hy : plainName y.cls = true) (hw : ws = Cond.codeWith y cc maxL ret hh :: ws')
    (body : ∀ p e s m args below meth c s₁, BodyLoose p l y (headSpec ws rm) cc maxL ret e s m args below meth c s₁ → c.maxLocals = maxL → Pc args s →
      W p l e (headSpec ws rm).room s m args below meth c s.heap [] 0 0 (vx_MQ below Qc XC args s mc ms free) (entryFrame m args maxL)) : vx_Met l y ws rm Pc Qc XC mc ms free := by
  refine MetFree.of_bodyS (code := cc) (maxLocals := maxL) (ret := ret) hy ?_ ?_
  · intro args s m h hn
    obtain ⟨m9, meth, c, hn9, h1, h2, h3, h4, -, h5, h6, -⟩ := Cond.codeWith_spec (atoms_spec (ws := ws) h _ (by rw [hw]; exact List.mem_cons_self))
    cases hn.symm.trans hn9
    exact ⟨meth, c, h1, h2, h3, h4, h5, h6⟩
  · intro p e s m args below meth c s₁ B hml hP _
    have hh0 : s₁.heap = s.heap := by rw [B.state]; rfl
    obtain ⟨t, a1, o, b1, b2, b3⟩ := body p e s m args below meth c s₁ B hml hP s₁ hh0 (Stand.of_body B)
    exact ⟨t, o, a1, b1, b2, b3⟩
/-! ===== END ===== -/
end
section
def RX0 : String := "HelpDesk$Agent"
def TX0 : u_T := fun k => match k with
  | 0 => ("HelpDesk$Agent", "number", "I", true)
  | 1 => ("HelpDesk$Agent", "days", "I", true)
  | 2 => ("HelpDesk$Agent", "begin", "I", true)
  | 3 => ("HelpDesk$Agent", "end", "I", true)
  | 4 => ("HelpDesk$Agent", "skills", "I", false)
  | 5 => ("HelpDesk$Agent", "held", "LHelpDesk$Ticket;", false)
  | 6 => ("HelpDesk$Agent", "minutesWorked", "I", false)
  | _ => ("HelpDesk$Agent", "timesSolved", "I", false)
def tyX0 : Nat → FieldType := fun k => match k with
  | 0 => .int
  | 1 => .int
  | 2 => .int
  | 3 => .int
  | 4 => .int
  | 5 => .object "HelpDesk$Ticket"
  | 6 => .int
  | _ => .int
abbrev wsX00 : List Cond := u_ws RX0 TX0 8
theorem nmX0 : ∀ a, a < 8 → ∀ b, b < 8 → a ≠ b → (TX0 a).2.1 ≠ (TX0 b).2.1 := by decide +kernel
theorem tyX0_ok : ∀ k, k < 8 → parseFieldDescriptor (TX0 k).2.2.1 = some (tyX0 k) := by decide +kernel
abbrev cX0_init : ByteArray := prog_2_method_1_code
def yX0_init : MethodName := ⟨RX0, "<init>", "(IIIII)V"⟩
abbrev cX0_hasSkill : ByteArray := prog_2_method_2_code
def yX0_hasSkill : MethodName := ⟨RX0, "hasSkill", "(I)Z"⟩
abbrev cX0_isThere : ByteArray := prog_2_method_3_code
def yX0_isThere : MethodName := ⟨RX0, "isThere", "(I)Z"⟩
def RX1 : String := "HelpDesk$Hours"
def TX1 : u_T := fun k => match k with
  | 0 => ("HelpDesk$Hours", "opening", "I", false)
  | _ => ("HelpDesk$Hours", "closing", "I", false)
def tyX1 : Nat → FieldType := fun k => match k with
  | 0 => .int
  | _ => .int
abbrev wsX10 : List Cond := u_ws RX1 TX1 2
theorem nmX1 : ∀ a, a < 2 → ∀ b, b < 2 → a ≠ b → (TX1 a).2.1 ≠ (TX1 b).2.1 := by decide +kernel
theorem tyX1_ok : ∀ k, k < 2 → parseFieldDescriptor (TX1 k).2.2.1 = some (tyX1 k) := by decide +kernel
abbrev cX1_init : ByteArray := prog_3_method_1_code
def yX1_init : MethodName := ⟨RX1, "<init>", "()V"⟩
abbrev cX1_isService : ByteArray := prog_3_method_2_code
def yX1_isService : MethodName := ⟨RX1, "isService", "(I)Z"⟩
abbrev cX1_minutesBetween : ByteArray := prog_3_method_3_code
def yX1_minutesBetween : MethodName := ⟨RX1, "minutesBetween", "(II)I"⟩
abbrev cX1_minutesOfDay : ByteArray := prog_3_method_5_code
def yX1_minutesOfDay : MethodName := ⟨RX1, "minutesOfDay", "(III)I"⟩
def RX2 : String := "HelpDesk$Ticket"
def TX2 : u_T := fun k => match k with
  | 0 => ("HelpDesk$Ticket", "number", "I", true)
  | 1 => ("HelpDesk$Ticket", "skill", "I", true)
  | 2 => ("HelpDesk$Ticket", "priority", "I", false)
  | 3 => ("HelpDesk$Ticket", "effort", "I", false)
  | 4 => ("HelpDesk$Ticket", "state", "I", false)
  | 5 => ("HelpDesk$Ticket", "age", "I", false)
  | 6 => ("HelpDesk$Ticket", "done", "I", false)
  | 7 => ("HelpDesk$Ticket", "answerAge", "I", false)
  | 8 => ("HelpDesk$Ticket", "timesReopened", "I", false)
  | 9 => ("HelpDesk$Ticket", "pausedAt", "I", false)
  | 10 => ("HelpDesk$Ticket", "solvedAt", "I", false)
  | 11 => ("HelpDesk$Ticket", "customerSet", "I", false)
  | 12 => ("HelpDesk$Ticket", "holder", "LHelpDesk$Agent;", false)
  | 13 => ("HelpDesk$Ticket", "latestHolder", "LHelpDesk$Agent;", false)
  | _ => ("HelpDesk$Ticket", "mergedInto", "LHelpDesk$Ticket;", false)
def tyX2 : Nat → FieldType := fun k => match k with
  | 0 => .int
  | 1 => .int
  | 2 => .int
  | 3 => .int
  | 4 => .int
  | 5 => .int
  | 6 => .int
  | 7 => .int
  | 8 => .int
  | 9 => .int
  | 10 => .int
  | 11 => .int
  | 12 => .object "HelpDesk$Agent"
  | 13 => .object "HelpDesk$Agent"
  | _ => .object "HelpDesk$Ticket"
abbrev wsX20 : List Cond := u_ws RX2 TX2 15
theorem nmX2 : ∀ a, a < 15 → ∀ b, b < 15 → a ≠ b → (TX2 a).2.1 ≠ (TX2 b).2.1 := by decide +kernel
theorem tyX2_ok : ∀ k, k < 15 → parseFieldDescriptor (TX2 k).2.2.1 = some (tyX2 k) := by decide +kernel
abbrev cX2_init : ByteArray := prog_4_method_1_code
def yX2_init : MethodName := ⟨RX2, "<init>", "(IIIII)V"⟩
abbrev cX2_isOpen : ByteArray := prog_4_method_2_code
def yX2_isOpen : MethodName := ⟨RX2, "isOpen", "()Z"⟩
def RX3 : String := "HelpDesk"
def TX3 : u_T := fun k => match k with
  | 0 => ("HelpDesk", "hours", "LHelpDesk$Hours;", true)
  | 1 => ("HelpDesk", "answerTargets", "[I", true)
  | 2 => ("HelpDesk", "solutionTargets", "[I", true)
  | 3 => ("HelpDesk", "agents", "Ljava/util/ArrayList;", true)
  | 4 => ("HelpDesk", "tickets", "Ljava/util/ArrayList;", true)
  | _ => ("HelpDesk", "minute", "I", false)
def tyX3 : Nat → FieldType := fun k => match k with
  | 0 => .object "HelpDesk$Hours"
  | 1 => .array .int
  | 2 => .array .int
  | 3 => .object "java/util/ArrayList"
  | 4 => .object "java/util/ArrayList"
  | _ => .int
abbrev wsX30 : List Cond := u_ws RX3 TX3 6
theorem nmX3 : ∀ a, a < 6 → ∀ b, b < 6 → a ≠ b → (TX3 a).2.1 ≠ (TX3 b).2.1 := by decide +kernel
theorem tyX3_ok : ∀ k, k < 6 → parseFieldDescriptor (TX3 k).2.2.1 = some (tyX3 k) := by decide +kernel
abbrev cX3_init : ByteArray := prog_1_method_1_code
def yX3_init : MethodName := ⟨RX3, "<init>", "()V"⟩
abbrev cX3_setHours : ByteArray := prog_1_method_2_code
def yX3_setHours : MethodName := ⟨RX3, "setHours", "(II)Z"⟩
abbrev cX3_setTargets : ByteArray := prog_1_method_3_code
def yX3_setTargets : MethodName := ⟨RX3, "setTargets", "(III)I"⟩
abbrev cX3_now : ByteArray := prog_1_method_4_code
def yX3_now : MethodName := ⟨RX3, "now", "()I"⟩
abbrev cX3_service : ByteArray := prog_1_method_5_code
def yX3_service : MethodName := ⟨RX3, "service", "(II)I"⟩
abbrev cX3_addAgent : ByteArray := prog_1_method_6_code
def yX3_addAgent : MethodName := ⟨RX3, "addAgent", "(IIII)I"⟩
abbrev cX3_agent : ByteArray := prog_1_method_8_code
def yX3_agent : MethodName := ⟨RX3, "agent", "(II)I"⟩
abbrev cX3_open : ByteArray := prog_1_method_10_code
def yX3_open : MethodName := ⟨RX3, "open", "(IIII)I"⟩
abbrev cX3_pause : ByteArray := prog_1_method_12_code
def yX3_pause : MethodName := ⟨RX3, "pause", "(I)I"⟩
abbrev cX3_resume : ByteArray := prog_1_method_13_code
def yX3_resume : MethodName := ⟨RX3, "resume", "(I)I"⟩
abbrev cX3_merge : ByteArray := prog_1_method_14_code
def yX3_merge : MethodName := ⟨RX3, "merge", "(II)I"⟩
abbrev cX3_reopen : ByteArray := prog_1_method_15_code
def yX3_reopen : MethodName := ⟨RX3, "reopen", "(II)I"⟩
abbrev cX3_ticket : ByteArray := prog_1_method_17_code
def yX3_ticket : MethodName := ⟨RX3, "ticket", "(II)I"⟩
abbrev cX3_pass : ByteArray := prog_1_method_21_code
def yX3_pass : MethodName := ⟨RX3, "pass", "(I)I"⟩
abbrev cX3_all : ByteArray := prog_1_method_22_code
def yX3_all : MethodName := ⟨RX3, "all", "(I)I"⟩
abbrev cX3_passMinute : ByteArray := prog_1_method_27_code
def yX3_passMinute : MethodName := ⟨RX3, "passMinute", "()I"⟩
abbrev cX3_sendHomeAgents : ByteArray := prog_1_method_28_code
def yX3_sendHomeAgents : MethodName := ⟨RX3, "sendHomeAgents", "()V"⟩
abbrev cX3_giveOutTickets : ByteArray := prog_1_method_29_code
def yX3_giveOutTickets : MethodName := ⟨RX3, "giveOutTickets", "()V"⟩
abbrev cX3_ageTickets : ByteArray := prog_1_method_30_code
def yX3_ageTickets : MethodName := ⟨RX3, "ageTickets", "()V"⟩
abbrev cX3_work : ByteArray := prog_1_method_31_code
def yX3_work : MethodName := ⟨RX3, "work", "()I"⟩
abbrev cX3_solve : ByteArray := prog_1_method_32_code
def yX3_solve : MethodName := ⟨RX3, "solve", "(LHelpDesk$Ticket;LHelpDesk$Agent;)V"⟩
abbrev cX3_give : ByteArray := prog_1_method_33_code
def yX3_give : MethodName := ⟨RX3, "give", "(LHelpDesk$Ticket;LHelpDesk$Agent;)V"⟩
abbrev cX3_handBack : ByteArray := prog_1_method_34_code
def yX3_handBack : MethodName := ⟨RX3, "handBack", "(LHelpDesk$Ticket;)V"⟩
abbrev cX3_takeFromHolder : ByteArray := prog_1_method_35_code
def yX3_takeFromHolder : MethodName := ⟨RX3, "takeFromHolder", "(LHelpDesk$Ticket;)V"⟩
abbrev cX3_firstByLiking : ByteArray := prog_1_method_36_code
def yX3_firstByLiking : MethodName := ⟨RX3, "firstByLiking", "(LHelpDesk$Agent;)LHelpDesk$Ticket;"⟩
abbrev cX3_isLikedMore : ByteArray := prog_1_method_37_code
def yX3_isLikedMore : MethodName := ⟨RX3, "isLikedMore", "(LHelpDesk$Agent;LHelpDesk$Ticket;LHelpDesk$Ticket;)Z"⟩
abbrev cX3_slackOf : ByteArray := prog_1_method_38_code
def yX3_slackOf : MethodName := ⟨RX3, "slackOf", "(LHelpDesk$Ticket;)I"⟩
abbrev cX3_toldOfAgent : ByteArray := prog_1_method_41_code
def yX3_toldOfAgent : MethodName := ⟨RX3, "toldOfAgent", "(LHelpDesk$Agent;I)I"⟩
abbrev cX3_toldOfTicket : ByteArray := prog_1_method_42_code
def yX3_toldOfTicket : MethodName := ⟨RX3, "toldOfTicket", "(LHelpDesk$Ticket;I)I"⟩
abbrev cX3_numberOfAgent : ByteArray := prog_1_method_43_code
def yX3_numberOfAgent : MethodName := ⟨RX3, "numberOfAgent", "(LHelpDesk$Agent;)I"⟩
abbrev cX3_numberOfTicket : ByteArray := prog_1_method_44_code
def yX3_numberOfTicket : MethodName := ⟨RX3, "numberOfTicket", "(LHelpDesk$Ticket;)I"⟩
abbrev cX3_agentAt : ByteArray := prog_1_method_49_code
def yX3_agentAt : MethodName := ⟨RX3, "agentAt", "(I)LHelpDesk$Agent;"⟩
abbrev cX3_ticketAt : ByteArray := prog_1_method_50_code
def yX3_ticketAt : MethodName := ⟨RX3, "ticketAt", "(I)LHelpDesk$Ticket;"⟩
abbrev cX3_isPriority : ByteArray := prog_1_method_51_code
def yX3_isPriority : MethodName := ⟨RX3, "isPriority", "(I)Z"⟩
abbrev cX3_isSetOfSkills : ByteArray := prog_1_method_52_code
def yX3_isSetOfSkills : MethodName := ⟨RX3, "isSetOfSkills", "(I)Z"⟩
abbrev cX3_isSpanOfDay : ByteArray := prog_1_method_53_code
def yX3_isSpanOfDay : MethodName := ⟨RX3, "isSpanOfDay", "(II)Z"⟩
abbrev cX3_dayOfWeek : ByteArray := prog_1_method_54_code
def yX3_dayOfWeek : MethodName := ⟨RX3, "dayOfWeek", "(I)I"⟩
def RX4 : String := "HelpDeskModel"
def TX4 : u_T := fun k => match k with
  | _ => ("", "", "", false)
def tyX4 : Nat → FieldType := fun k => match k with
  | _ => .int
abbrev wsX40 : List Cond := u_ws RX4 TX4 0
theorem nmX4 : ∀ a, a < 0 → ∀ b, b < 0 → a ≠ b → (TX4 a).2.1 ≠ (TX4 b).2.1 := by decide +kernel
theorem tyX4_ok : ∀ k, k < 0 → parseFieldDescriptor (TX4 k).2.2.1 = some (tyX4 k) := by decide +kernel
def RJx145de : String := "java/io/Serializable"
def TJx145de : u_T := fun k => match k with
  | _ => ("", "", "", false)
def tyJx145de : Nat → FieldType := fun k => match k with
  | _ => .int
abbrev wsJx145de0 : List Cond := u_ws RJx145de TJx145de 0
theorem nmJx145de : ∀ a, a < 0 → ∀ b, b < 0 → a ≠ b → (TJx145de a).2.1 ≠ (TJx145de b).2.1 := by decide +kernel
theorem tyJx145de_ok : ∀ k, k < 0 → parseFieldDescriptor (TJx145de k).2.2.1 = some (tyJx145de k) := by decide +kernel
def RJx8e188 : String := "java/lang/Cloneable"
def TJx8e188 : u_T := fun k => match k with
  | _ => ("", "", "", false)
def tyJx8e188 : Nat → FieldType := fun k => match k with
  | _ => .int
abbrev wsJx8e1880 : List Cond := u_ws RJx8e188 TJx8e188 0
theorem nmJx8e188 : ∀ a, a < 0 → ∀ b, b < 0 → a ≠ b → (TJx8e188 a).2.1 ≠ (TJx8e188 b).2.1 := by decide +kernel
theorem tyJx8e188_ok : ∀ k, k < 0 → parseFieldDescriptor (TJx8e188 k).2.2.1 = some (tyJx8e188 k) := by decide +kernel
def RJxab1ab : String := "java/lang/Iterable"
def TJxab1ab : u_T := fun k => match k with
  | _ => ("", "", "", false)
def tyJxab1ab : Nat → FieldType := fun k => match k with
  | _ => .int
abbrev wsJxab1ab0 : List Cond := u_ws RJxab1ab TJxab1ab 0
theorem nmJxab1ab : ∀ a, a < 0 → ∀ b, b < 0 → a ≠ b → (TJxab1ab a).2.1 ≠ (TJxab1ab b).2.1 := by decide +kernel
theorem tyJxab1ab_ok : ∀ k, k < 0 → parseFieldDescriptor (TJxab1ab k).2.2.1 = some (tyJxab1ab k) := by decide +kernel
def RJ9 : String := "java/lang/Math"
def TJ9 : u_T := fun k => match k with
  | _ => ("", "", "", false)
def tyJ9 : Nat → FieldType := fun k => match k with
  | _ => .int
abbrev wsJ90 : List Cond := u_ws RJ9 TJ9 0
theorem nmJ9 : ∀ a, a < 0 → ∀ b, b < 0 → a ≠ b → (TJ9 a).2.1 ≠ (TJ9 b).2.1 := by decide +kernel
theorem tyJ9_ok : ∀ k, k < 0 → parseFieldDescriptor (TJ9 k).2.2.1 = some (tyJ9 k) := by decide +kernel
abbrev cJ9_max_7cf53 : ByteArray := prog_14_method_65_code
def yJ9_max_7cf53 : MethodName := ⟨RJ9, "max", "(II)I"⟩
abbrev cJ9_min_7cf53 : ByteArray := prog_14_method_69_code
def yJ9_min_7cf53 : MethodName := ⟨RJ9, "min", "(II)I"⟩
def RJ0 : String := "java/lang/String"
def TJ0 : u_T := fun k => match k with
  | _ => ("", "", "", false)
def tyJ0 : Nat → FieldType := fun k => match k with
  | _ => .int
abbrev wsJ00 : List Cond := u_ws RJ0 TJ0 0
theorem nmJ0 : ∀ a, a < 0 → ∀ b, b < 0 → a ≠ b → (TJ0 a).2.1 ≠ (TJ0 b).2.1 := by decide +kernel
theorem tyJ0_ok : ∀ k, k < 0 → parseFieldDescriptor (TJ0 k).2.2.1 = some (tyJ0 k) := by decide +kernel
def RJ10 : String := "java/lang/System"
def TJ10 : u_T := fun k => match k with
  | _ => ("", "", "", false)
def tyJ10 : Nat → FieldType := fun k => match k with
  | _ => .int
abbrev wsJ100 : List Cond := u_ws RJ10 TJ10 0
theorem nmJ10 : ∀ a, a < 0 → ∀ b, b < 0 → a ≠ b → (TJ10 a).2.1 ≠ (TJ10 b).2.1 := by decide +kernel
theorem tyJ10_ok : ∀ k, k < 0 → parseFieldDescriptor (TJ10 k).2.2.1 = some (tyJ10 k) := by decide +kernel
def RJxa1e45 : String := "java/util/AbstractCollection"
def TJxa1e45 : u_T := fun k => match k with
  | _ => ("", "", "", false)
def tyJxa1e45 : Nat → FieldType := fun k => match k with
  | _ => .int
abbrev wsJxa1e450 : List Cond := u_ws RJxa1e45 TJxa1e45 0
theorem nmJxa1e45 : ∀ a, a < 0 → ∀ b, b < 0 → a ≠ b → (TJxa1e45 a).2.1 ≠ (TJxa1e45 b).2.1 := by decide +kernel
theorem tyJxa1e45_ok : ∀ k, k < 0 → parseFieldDescriptor (TJxa1e45 k).2.2.1 = some (tyJxa1e45 k) := by decide +kernel
abbrev cJxa1e45_init_da8c8 : ByteArray := prog_19_method_1_code
def yJxa1e45_init_da8c8 : MethodName := ⟨RJxa1e45, "<init>", "()V"⟩
def RJxc12de : String := "java/util/AbstractList"
def TJxc12de : u_T := fun k => match k with
  | _ => ("", "", "", false)
def tyJxc12de : Nat → FieldType := fun k => match k with
  | _ => .int
abbrev wsJxc12de0 : List Cond := u_ws RJxc12de TJxc12de 0
theorem nmJxc12de : ∀ a, a < 0 → ∀ b, b < 0 → a ≠ b → (TJxc12de a).2.1 ≠ (TJxc12de b).2.1 := by decide +kernel
theorem tyJxc12de_ok : ∀ k, k < 0 → parseFieldDescriptor (TJxc12de k).2.2.1 = some (tyJxc12de k) := by decide +kernel
abbrev cJxc12de_init_da8c8 : ByteArray := prog_20_method_1_code
def yJxc12de_init_da8c8 : MethodName := ⟨RJxc12de, "<init>", "()V"⟩
def RJx4a65c : String := "java/util/ArrayList"
def TJx4a65c : u_T := fun k => match k with
  | 0 => ("java/util/AbstractList", "modCount", "I", false)
  | 1 => ("java/util/ArrayList", "elementData", "[Ljava/lang/Object;", false)
  | _ => ("java/util/ArrayList", "size", "I", false)
def tyJx4a65c : Nat → FieldType := fun k => match k with
  | 0 => .int
  | 1 => .array (.object "java/lang/Object")
  | _ => .int
abbrev wsJx4a65c0 : List Cond := u_ws RJx4a65c TJx4a65c 3
theorem nmJx4a65c : ∀ a, a < 3 → ∀ b, b < 3 → a ≠ b → (TJx4a65c a).2.1 ≠ (TJx4a65c b).2.1 := by decide +kernel
theorem tyJx4a65c_ok : ∀ k, k < 3 → parseFieldDescriptor (TJx4a65c k).2.2.1 = some (tyJx4a65c k) := by decide +kernel
abbrev cJx4a65c_init_da8c8 : ByteArray := prog_21_method_2_code
def yJx4a65c_init_da8c8 : MethodName := ⟨RJx4a65c, "<init>", "()V"⟩
abbrev cJx4a65c_grow_92f84 : ByteArray := prog_21_method_6_code
def yJx4a65c_grow_92f84 : MethodName := ⟨RJx4a65c, "grow", "(I)[Ljava/lang/Object;"⟩
abbrev cJx4a65c_grow_d5877 : ByteArray := prog_21_method_7_code
def yJx4a65c_grow_d5877 : MethodName := ⟨RJx4a65c, "grow", "()[Ljava/lang/Object;"⟩
abbrev cJx4a65c_size_8abf5 : ByteArray := prog_21_method_8_code
def yJx4a65c_size_8abf5 : MethodName := ⟨RJx4a65c, "size", "()I"⟩
abbrev cJx4a65c_elementData_915e3 : ByteArray := prog_21_method_18_code
def yJx4a65c_elementData_915e3 : MethodName := ⟨RJx4a65c, "elementData", "(I)Ljava/lang/Object;"⟩
abbrev cJx4a65c_get_915e3 : ByteArray := prog_21_method_20_code
def yJx4a65c_get_915e3 : MethodName := ⟨RJx4a65c, "get", "(I)Ljava/lang/Object;"⟩
abbrev cJx4a65c_add_72be8 : ByteArray := prog_21_method_24_code
def yJx4a65c_add_72be8 : MethodName := ⟨RJx4a65c, "add", "(Ljava/lang/Object;[Ljava/lang/Object;I)V"⟩
abbrev cJx4a65c_add_9ea2d : ByteArray := prog_21_method_25_code
def yJx4a65c_add_9ea2d : MethodName := ⟨RJx4a65c, "add", "(Ljava/lang/Object;)Z"⟩
def RJ7 : String := "java/util/Arrays"
def TJ7 : u_T := fun k => match k with
  | _ => ("", "", "", false)
def tyJ7 : Nat → FieldType := fun k => match k with
  | _ => .int
abbrev wsJ70 : List Cond := u_ws RJ7 TJ7 0
theorem nmJ7 : ∀ a, a < 0 → ∀ b, b < 0 → a ≠ b → (TJ7 a).2.1 ≠ (TJ7 b).2.1 := by decide +kernel
theorem tyJ7_ok : ∀ k, k < 0 → parseFieldDescriptor (TJ7 k).2.2.1 = some (tyJ7 k) := by decide +kernel
abbrev cJ7_copyOf_1904c : ByteArray := prog_22_method_119_code
def yJ7_copyOf_1904c : MethodName := ⟨RJ7, "copyOf", "([Ljava/lang/Object;I)[Ljava/lang/Object;"⟩
abbrev cJ7_copyOf_6403c : ByteArray := prog_22_method_120_code
def yJ7_copyOf_6403c : MethodName := ⟨RJ7, "copyOf", "([Ljava/lang/Object;ILjava/lang/Class;)[Ljava/lang/Object;"⟩
def RJx5ef63 : String := "java/util/Collection"
def TJx5ef63 : u_T := fun k => match k with
  | _ => ("", "", "", false)
def tyJx5ef63 : Nat → FieldType := fun k => match k with
  | _ => .int
abbrev wsJx5ef630 : List Cond := u_ws RJx5ef63 TJx5ef63 0
theorem nmJx5ef63 : ∀ a, a < 0 → ∀ b, b < 0 → a ≠ b → (TJx5ef63 a).2.1 ≠ (TJx5ef63 b).2.1 := by decide +kernel
theorem tyJx5ef63_ok : ∀ k, k < 0 → parseFieldDescriptor (TJx5ef63 k).2.2.1 = some (tyJx5ef63 k) := by decide +kernel
def RJxbd725 : String := "java/util/List"
def TJxbd725 : u_T := fun k => match k with
  | _ => ("", "", "", false)
def tyJxbd725 : Nat → FieldType := fun k => match k with
  | _ => .int
abbrev wsJxbd7250 : List Cond := u_ws RJxbd725 TJxbd725 0
theorem nmJxbd725 : ∀ a, a < 0 → ∀ b, b < 0 → a ≠ b → (TJxbd725 a).2.1 ≠ (TJxbd725 b).2.1 := by decide +kernel
theorem tyJxbd725_ok : ∀ k, k < 0 → parseFieldDescriptor (TJxbd725 k).2.2.1 = some (tyJxbd725 k) := by decide +kernel
def RJ15 : String := "java/util/Objects"
def TJ15 : u_T := fun k => match k with
  | _ => ("", "", "", false)
def tyJ15 : Nat → FieldType := fun k => match k with
  | _ => .int
abbrev wsJ150 : List Cond := u_ws RJ15 TJ15 0
theorem nmJ15 : ∀ a, a < 0 → ∀ b, b < 0 → a ≠ b → (TJ15 a).2.1 ≠ (TJ15 b).2.1 := by decide +kernel
theorem tyJ15_ok : ∀ k, k < 0 → parseFieldDescriptor (TJ15 k).2.2.1 = some (tyJ15 k) := by decide +kernel
abbrev cJ15_checkIndex_7cf53 : ByteArray := prog_25_method_17_code
def yJ15_checkIndex_7cf53 : MethodName := ⟨RJ15, "checkIndex", "(II)I"⟩
def RJxf0a74 : String := "java/util/RandomAccess"
def TJxf0a74 : u_T := fun k => match k with
  | _ => ("", "", "", false)
def tyJxf0a74 : Nat → FieldType := fun k => match k with
  | _ => .int
abbrev wsJxf0a740 : List Cond := u_ws RJxf0a74 TJxf0a74 0
theorem nmJxf0a74 : ∀ a, a < 0 → ∀ b, b < 0 → a ≠ b → (TJxf0a74 a).2.1 ≠ (TJxf0a74 b).2.1 := by decide +kernel
theorem tyJxf0a74_ok : ∀ k, k < 0 → parseFieldDescriptor (TJxf0a74 k).2.2.1 = some (tyJxf0a74 k) := by decide +kernel
def RJxa66e6 : String := "java/util/SequencedCollection"
def TJxa66e6 : u_T := fun k => match k with
  | _ => ("", "", "", false)
def tyJxa66e6 : Nat → FieldType := fun k => match k with
  | _ => .int
abbrev wsJxa66e60 : List Cond := u_ws RJxa66e6 TJxa66e6 0
theorem nmJxa66e6 : ∀ a, a < 0 → ∀ b, b < 0 → a ≠ b → (TJxa66e6 a).2.1 ≠ (TJxa66e6 b).2.1 := by decide +kernel
theorem tyJxa66e6_ok : ∀ k, k < 0 → parseFieldDescriptor (TJxa66e6 k).2.2.1 = some (tyJxa66e6 k) := by decide +kernel
def RJ8 : String := "jdk/internal/util/ArraysSupport"
def TJ8 : u_T := fun k => match k with
  | _ => ("", "", "", false)
def tyJ8 : Nat → FieldType := fun k => match k with
  | _ => .int
abbrev wsJ80 : List Cond := u_ws RJ8 TJ8 0
theorem nmJ8 : ∀ a, a < 0 → ∀ b, b < 0 → a ≠ b → (TJ8 a).2.1 ≠ (TJ8 b).2.1 := by decide +kernel
theorem tyJ8_ok : ∀ k, k < 0 → parseFieldDescriptor (TJ8 k).2.2.1 = some (tyJ8 k) := by decide +kernel
abbrev cJ8_newLength_cabcc : ByteArray := prog_28_method_27_code
def yJ8_newLength_cabcc : MethodName := ⟨RJ8, "newLength", "(III)I"⟩
abbrev cJ8_hugeLength_7cf53 : ByteArray := prog_28_method_28_code
def yJ8_hugeLength_7cf53 : MethodName := ⟨RJ8, "hugeLength", "(II)I"⟩
def RJ3 : String := "jdk/internal/util/Preconditions"
def TJ3 : u_T := fun k => match k with
  | _ => ("", "", "", false)
def tyJ3 : Nat → FieldType := fun k => match k with
  | _ => .int
abbrev wsJ30 : List Cond := u_ws RJ3 TJ3 0
theorem nmJ3 : ∀ a, a < 0 → ∀ b, b < 0 → a ≠ b → (TJ3 a).2.1 ≠ (TJ3 b).2.1 := by decide +kernel
theorem tyJ3_ok : ∀ k, k < 0 → parseFieldDescriptor (TJ3 k).2.2.1 = some (tyJ3 k) := by decide +kernel
abbrev cJ3_checkIndex_8e157 : ByteArray := prog_29_method_11_code
def yJ3_checkIndex_8e157 : MethodName := ⟨RJ3, "checkIndex", "(IILjava/util/function/BiFunction;)I"⟩
def RL : String := "HelpDeskLaw"
abbrev cL_below : ByteArray := method_2_code
def yL_below : MethodName := ⟨RL, "below", "(II)I"⟩
abbrev cL_cell : ByteArray := method_3_code
def yL_cell : MethodName := ⟨RL, "cell", "([II)I"⟩
abbrev cL_build : ByteArray := method_4_code
def yL_build : MethodName := ⟨RL, "build", "(LHelpDesk;[III)[I"⟩
abbrev cL_open : ByteArray := method_5_code
def yL_open : MethodName := ⟨RL, "open", "(LHelpDesk;[II)Z"⟩
abbrev cL_law : ByteArray := code
def yL_law : MethodName := ⟨RL, "law", "([I)Z"⟩
abbrev vwCl : List vw_C := [(RJx4a65c, TJx4a65c, 3), (RX0, TX0, 8), (RX1, TX1, 2), (RX2, TX2, 15), (RX3, TX3, 6)]
end
section
theorem dX0_init_0 : decode cX0_init 0 = .ok (.aload_n 0, 1) := by decide +kernel
theorem dX0_init_1 : decode cX0_init 1 = .ok (.invokespecial 3, 3) := by decide +kernel
theorem dX0_init_4 : decode cX0_init 4 = .ok (.aload_n 0, 1) := by decide +kernel
theorem dX0_init_5 : decode cX0_init 5 = .ok (.iload_n 1, 1) := by decide +kernel
theorem dX0_init_6 : decode cX0_init 6 = .ok (.putfield 9, 3) := by decide +kernel
theorem dX0_init_9 : decode cX0_init 9 = .ok (.aload_n 0, 1) := by decide +kernel
theorem dX0_init_10 : decode cX0_init 10 = .ok (.iload_n 2, 1) := by decide +kernel
theorem dX0_init_11 : decode cX0_init 11 = .ok (.putfield 15, 3) := by decide +kernel
theorem dX0_init_14 : decode cX0_init 14 = .ok (.aload_n 0, 1) := by decide +kernel
theorem dX0_init_15 : decode cX0_init 15 = .ok (.iload_n 3, 1) := by decide +kernel
theorem dX0_init_16 : decode cX0_init 16 = .ok (.putfield 18, 3) := by decide +kernel
theorem dX0_init_19 : decode cX0_init 19 = .ok (.aload_n 0, 1) := by decide +kernel
theorem dX0_init_20 : decode cX0_init 20 = .ok (.iload 4, 2) := by decide +kernel
theorem dX0_init_22 : decode cX0_init 22 = .ok (.putfield 21, 3) := by decide +kernel
theorem dX0_init_25 : decode cX0_init 25 = .ok (.aload_n 0, 1) := by decide +kernel
theorem dX0_init_26 : decode cX0_init 26 = .ok (.iload 5, 2) := by decide +kernel
theorem dX0_init_28 : decode cX0_init 28 = .ok (.putfield 24, 3) := by decide +kernel
theorem dX0_init_31 : decode cX0_init 31 = .ok (.return_, 1) := by decide +kernel
theorem dX0_hasSkill_0 : decode cX0_hasSkill 0 = .ok (.aload_n 0, 1) := by decide +kernel
theorem dX0_hasSkill_1 : decode cX0_hasSkill 1 = .ok (.getfield 15, 3) := by decide +kernel
theorem dX0_hasSkill_4 : decode cX0_hasSkill 4 = .ok (.iconst 1, 1) := by decide +kernel
theorem dX0_hasSkill_5 : decode cX0_hasSkill 5 = .ok (.iload_n 1, 1) := by decide +kernel
theorem dX0_hasSkill_6 : decode cX0_hasSkill 6 = .ok (.ishl, 1) := by decide +kernel
theorem dX0_hasSkill_7 : decode cX0_hasSkill 7 = .ok (.iand, 1) := by decide +kernel
theorem dX0_hasSkill_8 : decode cX0_hasSkill 8 = .ok (.ifCond .eq 7, 3) := by decide +kernel
theorem dX0_hasSkill_11 : decode cX0_hasSkill 11 = .ok (.iconst 1, 1) := by decide +kernel
theorem dX0_hasSkill_12 : decode cX0_hasSkill 12 = .ok (.goto 4, 3) := by decide +kernel
theorem dX0_hasSkill_15 : decode cX0_hasSkill 15 = .ok (.iconst 0, 1) := by decide +kernel
theorem dX0_hasSkill_16 : decode cX0_hasSkill 16 = .ok (.ireturn, 1) := by decide +kernel
theorem dX0_isThere_0 : decode cX0_isThere 0 = .ok (.iload_n 1, 1) := by decide +kernel
theorem dX0_isThere_1 : decode cX0_isThere 1 = .ok (.sipush 1440, 3) := by decide +kernel
theorem dX0_isThere_4 : decode cX0_isThere 4 = .ok (.irem, 1) := by decide +kernel
theorem dX0_isThere_5 : decode cX0_isThere 5 = .ok (.istore_n 2, 1) := by decide +kernel
theorem dX0_isThere_6 : decode cX0_isThere 6 = .ok (.aload_n 0, 1) := by decide +kernel
theorem dX0_isThere_7 : decode cX0_isThere 7 = .ok (.getfield 18, 3) := by decide +kernel
theorem dX0_isThere_10 : decode cX0_isThere 10 = .ok (.iconst 1, 1) := by decide +kernel
theorem dX0_isThere_11 : decode cX0_isThere 11 = .ok (.iload_n 1, 1) := by decide +kernel
theorem dX0_isThere_12 : decode cX0_isThere 12 = .ok (.invokestatic 27, 3) := by decide +kernel
theorem dX0_isThere_15 : decode cX0_isThere 15 = .ok (.ishl, 1) := by decide +kernel
theorem dX0_isThere_16 : decode cX0_isThere 16 = .ok (.iand, 1) := by decide +kernel
theorem dX0_isThere_17 : decode cX0_isThere 17 = .ok (.ifCond .eq 23, 3) := by decide +kernel
theorem dX0_isThere_20 : decode cX0_isThere 20 = .ok (.iload_n 2, 1) := by decide +kernel
theorem dX0_isThere_21 : decode cX0_isThere 21 = .ok (.aload_n 0, 1) := by decide +kernel
theorem dX0_isThere_22 : decode cX0_isThere 22 = .ok (.getfield 21, 3) := by decide +kernel
theorem dX0_isThere_25 : decode cX0_isThere 25 = .ok (.if_icmp .lt 15, 3) := by decide +kernel
theorem dX0_isThere_28 : decode cX0_isThere 28 = .ok (.iload_n 2, 1) := by decide +kernel
theorem dX0_isThere_29 : decode cX0_isThere 29 = .ok (.aload_n 0, 1) := by decide +kernel
theorem dX0_isThere_30 : decode cX0_isThere 30 = .ok (.getfield 24, 3) := by decide +kernel
theorem dX0_isThere_33 : decode cX0_isThere 33 = .ok (.if_icmp .ge 7, 3) := by decide +kernel
theorem dX0_isThere_36 : decode cX0_isThere 36 = .ok (.iconst 1, 1) := by decide +kernel
theorem dX0_isThere_37 : decode cX0_isThere 37 = .ok (.goto 4, 3) := by decide +kernel
theorem dX0_isThere_40 : decode cX0_isThere 40 = .ok (.iconst 0, 1) := by decide +kernel
theorem dX0_isThere_41 : decode cX0_isThere 41 = .ok (.ireturn, 1) := by decide +kernel
theorem dX1_init_0 : decode cX1_init 0 = .ok (.aload_n 0, 1) := by decide +kernel
theorem dX1_init_1 : decode cX1_init 1 = .ok (.invokespecial 3, 3) := by decide +kernel
theorem dX1_init_4 : decode cX1_init 4 = .ok (.aload_n 0, 1) := by decide +kernel
theorem dX1_init_5 : decode cX1_init 5 = .ok (.sipush 540, 3) := by decide +kernel
theorem dX1_init_8 : decode cX1_init 8 = .ok (.putfield 9, 3) := by decide +kernel
theorem dX1_init_11 : decode cX1_init 11 = .ok (.aload_n 0, 1) := by decide +kernel
theorem dX1_init_12 : decode cX1_init 12 = .ok (.sipush 1020, 3) := by decide +kernel
theorem dX1_init_15 : decode cX1_init 15 = .ok (.putfield 15, 3) := by decide +kernel
theorem dX1_init_18 : decode cX1_init 18 = .ok (.return_, 1) := by decide +kernel
theorem dX1_isService_0 : decode cX1_isService 0 = .ok (.iload_n 1, 1) := by decide +kernel
theorem dX1_isService_1 : decode cX1_isService 1 = .ok (.sipush 1440, 3) := by decide +kernel
theorem dX1_isService_4 : decode cX1_isService 4 = .ok (.irem, 1) := by decide +kernel
theorem dX1_isService_5 : decode cX1_isService 5 = .ok (.istore_n 2, 1) := by decide +kernel
theorem dX1_isService_6 : decode cX1_isService 6 = .ok (.iload_n 1, 1) := by decide +kernel
theorem dX1_isService_7 : decode cX1_isService 7 = .ok (.invokestatic 18, 3) := by decide +kernel
theorem dX1_isService_10 : decode cX1_isService 10 = .ok (.iconst 5, 1) := by decide +kernel
theorem dX1_isService_11 : decode cX1_isService 11 = .ok (.if_icmp .ge 23, 3) := by decide +kernel
theorem dX1_isService_14 : decode cX1_isService 14 = .ok (.iload_n 2, 1) := by decide +kernel
theorem dX1_isService_15 : decode cX1_isService 15 = .ok (.aload_n 0, 1) := by decide +kernel
theorem dX1_isService_16 : decode cX1_isService 16 = .ok (.getfield 9, 3) := by decide +kernel
theorem dX1_isService_19 : decode cX1_isService 19 = .ok (.if_icmp .lt 15, 3) := by decide +kernel
theorem dX1_isService_22 : decode cX1_isService 22 = .ok (.iload_n 2, 1) := by decide +kernel
theorem dX1_isService_23 : decode cX1_isService 23 = .ok (.aload_n 0, 1) := by decide +kernel
theorem dX1_isService_24 : decode cX1_isService 24 = .ok (.getfield 15, 3) := by decide +kernel
theorem dX1_isService_27 : decode cX1_isService 27 = .ok (.if_icmp .ge 7, 3) := by decide +kernel
theorem dX1_isService_30 : decode cX1_isService 30 = .ok (.iconst 1, 1) := by decide +kernel
theorem dX1_isService_31 : decode cX1_isService 31 = .ok (.goto 4, 3) := by decide +kernel
theorem dX1_isService_34 : decode cX1_isService 34 = .ok (.iconst 0, 1) := by decide +kernel
theorem dX1_isService_35 : decode cX1_isService 35 = .ok (.ireturn, 1) := by decide +kernel
theorem dX1_minutesBetween_0 : decode cX1_minutesBetween 0 = .ok (.iconst 0, 1) := by decide +kernel
theorem dX1_minutesBetween_1 : decode cX1_minutesBetween 1 = .ok (.istore_n 3, 1) := by decide +kernel
theorem dX1_minutesBetween_2 : decode cX1_minutesBetween 2 = .ok (.iload_n 1, 1) := by decide +kernel
theorem dX1_minutesBetween_3 : decode cX1_minutesBetween 3 = .ok (.iload_n 1, 1) := by decide +kernel
theorem dX1_minutesBetween_4 : decode cX1_minutesBetween 4 = .ok (.sipush 1440, 3) := by decide +kernel
theorem dX1_minutesBetween_7 : decode cX1_minutesBetween 7 = .ok (.irem, 1) := by decide +kernel
theorem dX1_minutesBetween_8 : decode cX1_minutesBetween 8 = .ok (.isub, 1) := by decide +kernel
theorem dX1_minutesBetween_9 : decode cX1_minutesBetween 9 = .ok (.istore 4, 2) := by decide +kernel
theorem dX1_minutesBetween_11 : decode cX1_minutesBetween 11 = .ok (.iload 4, 2) := by decide +kernel
theorem dX1_minutesBetween_13 : decode cX1_minutesBetween 13 = .ok (.iload_n 2, 1) := by decide +kernel
theorem dX1_minutesBetween_14 : decode cX1_minutesBetween 14 = .ok (.if_icmp .ge 23, 3) := by decide +kernel
theorem dX1_minutesBetween_17 : decode cX1_minutesBetween 17 = .ok (.iload_n 3, 1) := by decide +kernel
theorem dX1_minutesBetween_18 : decode cX1_minutesBetween 18 = .ok (.aload_n 0, 1) := by decide +kernel
theorem dX1_minutesBetween_19 : decode cX1_minutesBetween 19 = .ok (.iload 4, 2) := by decide +kernel
theorem dX1_minutesBetween_21 : decode cX1_minutesBetween 21 = .ok (.iload_n 1, 1) := by decide +kernel
theorem dX1_minutesBetween_22 : decode cX1_minutesBetween 22 = .ok (.iload_n 2, 1) := by decide +kernel
theorem dX1_minutesBetween_23 : decode cX1_minutesBetween 23 = .ok (.invokevirtual 22, 3) := by decide +kernel
theorem dX1_minutesBetween_26 : decode cX1_minutesBetween 26 = .ok (.iadd, 1) := by decide +kernel
theorem dX1_minutesBetween_27 : decode cX1_minutesBetween 27 = .ok (.istore_n 3, 1) := by decide +kernel
theorem dX1_minutesBetween_28 : decode cX1_minutesBetween 28 = .ok (.iinc 4 1440, 6) := by decide +kernel
theorem dX1_minutesBetween_34 : decode cX1_minutesBetween 34 = .ok (.goto (-23), 3) := by decide +kernel
theorem dX1_minutesBetween_37 : decode cX1_minutesBetween 37 = .ok (.iload_n 3, 1) := by decide +kernel
theorem dX1_minutesBetween_38 : decode cX1_minutesBetween 38 = .ok (.ireturn, 1) := by decide +kernel
theorem dX1_minutesOfDay_0 : decode cX1_minutesOfDay 0 = .ok (.iload_n 1, 1) := by decide +kernel
theorem dX1_minutesOfDay_1 : decode cX1_minutesOfDay 1 = .ok (.invokestatic 18, 3) := by decide +kernel
theorem dX1_minutesOfDay_4 : decode cX1_minutesOfDay 4 = .ok (.iconst 5, 1) := by decide +kernel
theorem dX1_minutesOfDay_5 : decode cX1_minutesOfDay 5 = .ok (.if_icmp .lt 5, 3) := by decide +kernel
theorem dX1_minutesOfDay_8 : decode cX1_minutesOfDay 8 = .ok (.iconst 0, 1) := by decide +kernel
theorem dX1_minutesOfDay_9 : decode cX1_minutesOfDay 9 = .ok (.ireturn, 1) := by decide +kernel
theorem dX1_minutesOfDay_10 : decode cX1_minutesOfDay 10 = .ok (.iload_n 2, 1) := by decide +kernel
theorem dX1_minutesOfDay_11 : decode cX1_minutesOfDay 11 = .ok (.iload_n 1, 1) := by decide +kernel
theorem dX1_minutesOfDay_12 : decode cX1_minutesOfDay 12 = .ok (.aload_n 0, 1) := by decide +kernel
theorem dX1_minutesOfDay_13 : decode cX1_minutesOfDay 13 = .ok (.getfield 9, 3) := by decide +kernel
theorem dX1_minutesOfDay_16 : decode cX1_minutesOfDay 16 = .ok (.iadd, 1) := by decide +kernel
theorem dX1_minutesOfDay_17 : decode cX1_minutesOfDay 17 = .ok (.invokestatic 28, 3) := by decide +kernel
theorem dX1_minutesOfDay_20 : decode cX1_minutesOfDay 20 = .ok (.istore 4, 2) := by decide +kernel
theorem dX1_minutesOfDay_22 : decode cX1_minutesOfDay 22 = .ok (.iload_n 3, 1) := by decide +kernel
theorem dX1_minutesOfDay_23 : decode cX1_minutesOfDay 23 = .ok (.iload_n 1, 1) := by decide +kernel
theorem dX1_minutesOfDay_24 : decode cX1_minutesOfDay 24 = .ok (.aload_n 0, 1) := by decide +kernel
theorem dX1_minutesOfDay_25 : decode cX1_minutesOfDay 25 = .ok (.getfield 15, 3) := by decide +kernel
theorem dX1_minutesOfDay_28 : decode cX1_minutesOfDay 28 = .ok (.iadd, 1) := by decide +kernel
theorem dX1_minutesOfDay_29 : decode cX1_minutesOfDay 29 = .ok (.invokestatic 34, 3) := by decide +kernel
theorem dX1_minutesOfDay_32 : decode cX1_minutesOfDay 32 = .ok (.istore 5, 2) := by decide +kernel
theorem dX1_minutesOfDay_34 : decode cX1_minutesOfDay 34 = .ok (.iconst 0, 1) := by decide +kernel
theorem dX1_minutesOfDay_35 : decode cX1_minutesOfDay 35 = .ok (.iload 5, 2) := by decide +kernel
theorem dX1_minutesOfDay_37 : decode cX1_minutesOfDay 37 = .ok (.iload 4, 2) := by decide +kernel
theorem dX1_minutesOfDay_39 : decode cX1_minutesOfDay 39 = .ok (.isub, 1) := by decide +kernel
theorem dX1_minutesOfDay_40 : decode cX1_minutesOfDay 40 = .ok (.invokestatic 28, 3) := by decide +kernel
theorem dX1_minutesOfDay_43 : decode cX1_minutesOfDay 43 = .ok (.ireturn, 1) := by decide +kernel
theorem dX2_init_0 : decode cX2_init 0 = .ok (.aload_n 0, 1) := by decide +kernel
theorem dX2_init_1 : decode cX2_init 1 = .ok (.invokespecial 3, 3) := by decide +kernel
theorem dX2_init_4 : decode cX2_init 4 = .ok (.aload_n 0, 1) := by decide +kernel
theorem dX2_init_5 : decode cX2_init 5 = .ok (.iload_n 1, 1) := by decide +kernel
theorem dX2_init_6 : decode cX2_init 6 = .ok (.putfield 9, 3) := by decide +kernel
theorem dX2_init_9 : decode cX2_init 9 = .ok (.aload_n 0, 1) := by decide +kernel
theorem dX2_init_10 : decode cX2_init 10 = .ok (.iload_n 2, 1) := by decide +kernel
theorem dX2_init_11 : decode cX2_init 11 = .ok (.putfield 15, 3) := by decide +kernel
theorem dX2_init_14 : decode cX2_init 14 = .ok (.aload_n 0, 1) := by decide +kernel
theorem dX2_init_15 : decode cX2_init 15 = .ok (.iload_n 3, 1) := by decide +kernel
theorem dX2_init_16 : decode cX2_init 16 = .ok (.putfield 18, 3) := by decide +kernel
theorem dX2_init_19 : decode cX2_init 19 = .ok (.aload_n 0, 1) := by decide +kernel
theorem dX2_init_20 : decode cX2_init 20 = .ok (.iload 4, 2) := by decide +kernel
theorem dX2_init_22 : decode cX2_init 22 = .ok (.putfield 21, 3) := by decide +kernel
theorem dX2_init_25 : decode cX2_init 25 = .ok (.aload_n 0, 1) := by decide +kernel
theorem dX2_init_26 : decode cX2_init 26 = .ok (.iconst 0, 1) := by decide +kernel
theorem dX2_init_27 : decode cX2_init 27 = .ok (.putfield 24, 3) := by decide +kernel
theorem dX2_init_30 : decode cX2_init 30 = .ok (.aload_n 0, 1) := by decide +kernel
theorem dX2_init_31 : decode cX2_init 31 = .ok (.iconst (-1), 1) := by decide +kernel
theorem dX2_init_32 : decode cX2_init 32 = .ok (.putfield 27, 3) := by decide +kernel
theorem dX2_init_35 : decode cX2_init 35 = .ok (.aload_n 0, 1) := by decide +kernel
theorem dX2_init_36 : decode cX2_init 36 = .ok (.iconst 1, 1) := by decide +kernel
theorem dX2_init_37 : decode cX2_init 37 = .ok (.iload 5, 2) := by decide +kernel
theorem dX2_init_39 : decode cX2_init 39 = .ok (.ishl, 1) := by decide +kernel
theorem dX2_init_40 : decode cX2_init 40 = .ok (.putfield 30, 3) := by decide +kernel
theorem dX2_init_43 : decode cX2_init 43 = .ok (.return_, 1) := by decide +kernel
theorem dX2_isOpen_0 : decode cX2_isOpen 0 = .ok (.aload_n 0, 1) := by decide +kernel
theorem dX2_isOpen_1 : decode cX2_isOpen 1 = .ok (.getfield 24, 3) := by decide +kernel
theorem dX2_isOpen_4 : decode cX2_isOpen 4 = .ok (.ifCond .eq 19, 3) := by decide +kernel
theorem dX2_isOpen_7 : decode cX2_isOpen 7 = .ok (.aload_n 0, 1) := by decide +kernel
theorem dX2_isOpen_8 : decode cX2_isOpen 8 = .ok (.getfield 24, 3) := by decide +kernel
theorem dX2_isOpen_11 : decode cX2_isOpen 11 = .ok (.iconst 1, 1) := by decide +kernel
theorem dX2_isOpen_12 : decode cX2_isOpen 12 = .ok (.if_icmp .eq 11, 3) := by decide +kernel
theorem dX2_isOpen_15 : decode cX2_isOpen 15 = .ok (.aload_n 0, 1) := by decide +kernel
theorem dX2_isOpen_16 : decode cX2_isOpen 16 = .ok (.getfield 24, 3) := by decide +kernel
theorem dX2_isOpen_19 : decode cX2_isOpen 19 = .ok (.iconst 2, 1) := by decide +kernel
theorem dX2_isOpen_20 : decode cX2_isOpen 20 = .ok (.if_icmp .ne 7, 3) := by decide +kernel
theorem dX2_isOpen_23 : decode cX2_isOpen 23 = .ok (.iconst 1, 1) := by decide +kernel
theorem dX2_isOpen_24 : decode cX2_isOpen 24 = .ok (.goto 4, 3) := by decide +kernel
theorem dX2_isOpen_27 : decode cX2_isOpen 27 = .ok (.iconst 0, 1) := by decide +kernel
theorem dX2_isOpen_28 : decode cX2_isOpen 28 = .ok (.ireturn, 1) := by decide +kernel
theorem dX3_init_0 : decode cX3_init 0 = .ok (.aload_n 0, 1) := by decide +kernel
theorem dX3_init_1 : decode cX3_init 1 = .ok (.invokespecial 1, 3) := by decide +kernel
theorem dX3_init_4 : decode cX3_init 4 = .ok (.aload_n 0, 1) := by decide +kernel
theorem dX3_init_5 : decode cX3_init 5 = .ok (.new 7, 3) := by decide +kernel
theorem dX3_init_8 : decode cX3_init 8 = .ok (.dup, 1) := by decide +kernel
theorem dX3_init_9 : decode cX3_init 9 = .ok (.invokespecial 9, 3) := by decide +kernel
theorem dX3_init_12 : decode cX3_init 12 = .ok (.putfield 10, 3) := by decide +kernel
theorem dX3_init_15 : decode cX3_init 15 = .ok (.aload_n 0, 1) := by decide +kernel
theorem dX3_init_16 : decode cX3_init 16 = .ok (.iconst 4, 1) := by decide +kernel
theorem dX3_init_17 : decode cX3_init 17 = .ok (.newarray .int, 2) := by decide +kernel
theorem dX3_init_19 : decode cX3_init 19 = .ok (.dup, 1) := by decide +kernel
theorem dX3_init_20 : decode cX3_init 20 = .ok (.iconst 0, 1) := by decide +kernel
theorem dX3_init_21 : decode cX3_init 21 = .ok (.bipush 60, 2) := by decide +kernel
theorem dX3_init_23 : decode cX3_init 23 = .ok (.iastore, 1) := by decide +kernel
theorem dX3_init_24 : decode cX3_init 24 = .ok (.dup, 1) := by decide +kernel
theorem dX3_init_25 : decode cX3_init 25 = .ok (.iconst 1, 1) := by decide +kernel
theorem dX3_init_26 : decode cX3_init 26 = .ok (.bipush 120, 2) := by decide +kernel
theorem dX3_init_28 : decode cX3_init 28 = .ok (.iastore, 1) := by decide +kernel
theorem dX3_init_29 : decode cX3_init 29 = .ok (.dup, 1) := by decide +kernel
theorem dX3_init_30 : decode cX3_init 30 = .ok (.iconst 2, 1) := by decide +kernel
theorem dX3_init_31 : decode cX3_init 31 = .ok (.sipush 240, 3) := by decide +kernel
theorem dX3_init_34 : decode cX3_init 34 = .ok (.iastore, 1) := by decide +kernel
theorem dX3_init_35 : decode cX3_init 35 = .ok (.dup, 1) := by decide +kernel
theorem dX3_init_36 : decode cX3_init 36 = .ok (.iconst 3, 1) := by decide +kernel
theorem dX3_init_37 : decode cX3_init 37 = .ok (.sipush 480, 3) := by decide +kernel
theorem dX3_init_40 : decode cX3_init 40 = .ok (.iastore, 1) := by decide +kernel
theorem dX3_init_41 : decode cX3_init 41 = .ok (.putfield 16, 3) := by decide +kernel
theorem dX3_init_44 : decode cX3_init 44 = .ok (.aload_n 0, 1) := by decide +kernel
theorem dX3_init_45 : decode cX3_init 45 = .ok (.iconst 4, 1) := by decide +kernel
theorem dX3_init_46 : decode cX3_init 46 = .ok (.newarray .int, 2) := by decide +kernel
theorem dX3_init_48 : decode cX3_init 48 = .ok (.dup, 1) := by decide +kernel
theorem dX3_init_49 : decode cX3_init 49 = .ok (.iconst 0, 1) := by decide +kernel
theorem dX3_init_50 : decode cX3_init 50 = .ok (.sipush 240, 3) := by decide +kernel
theorem dX3_init_53 : decode cX3_init 53 = .ok (.iastore, 1) := by decide +kernel
theorem dX3_init_54 : decode cX3_init 54 = .ok (.dup, 1) := by decide +kernel
theorem dX3_init_55 : decode cX3_init 55 = .ok (.iconst 1, 1) := by decide +kernel
theorem dX3_init_56 : decode cX3_init 56 = .ok (.sipush 480, 3) := by decide +kernel
theorem dX3_init_59 : decode cX3_init 59 = .ok (.iastore, 1) := by decide +kernel
theorem dX3_init_60 : decode cX3_init 60 = .ok (.dup, 1) := by decide +kernel
theorem dX3_init_61 : decode cX3_init 61 = .ok (.iconst 2, 1) := by decide +kernel
theorem dX3_init_62 : decode cX3_init 62 = .ok (.sipush 960, 3) := by decide +kernel
theorem dX3_init_65 : decode cX3_init 65 = .ok (.iastore, 1) := by decide +kernel
theorem dX3_init_66 : decode cX3_init 66 = .ok (.dup, 1) := by decide +kernel
theorem dX3_init_67 : decode cX3_init 67 = .ok (.iconst 3, 1) := by decide +kernel
theorem dX3_init_68 : decode cX3_init 68 = .ok (.sipush 1920, 3) := by decide +kernel
theorem dX3_init_71 : decode cX3_init 71 = .ok (.iastore, 1) := by decide +kernel
theorem dX3_init_72 : decode cX3_init 72 = .ok (.putfield 20, 3) := by decide +kernel
theorem dX3_init_75 : decode cX3_init 75 = .ok (.aload_n 0, 1) := by decide +kernel
theorem dX3_init_76 : decode cX3_init 76 = .ok (.new 23, 3) := by decide +kernel
theorem dX3_init_79 : decode cX3_init 79 = .ok (.dup, 1) := by decide +kernel
theorem dX3_init_80 : decode cX3_init 80 = .ok (.invokespecial 25, 3) := by decide +kernel
theorem dX3_init_83 : decode cX3_init 83 = .ok (.putfield 26, 3) := by decide +kernel
theorem dX3_init_86 : decode cX3_init 86 = .ok (.aload_n 0, 1) := by decide +kernel
theorem dX3_init_87 : decode cX3_init 87 = .ok (.new 23, 3) := by decide +kernel
theorem dX3_init_90 : decode cX3_init 90 = .ok (.dup, 1) := by decide +kernel
theorem dX3_init_91 : decode cX3_init 91 = .ok (.invokespecial 25, 3) := by decide +kernel
theorem dX3_init_94 : decode cX3_init 94 = .ok (.putfield 30, 3) := by decide +kernel
theorem dX3_init_97 : decode cX3_init 97 = .ok (.aload_n 0, 1) := by decide +kernel
theorem dX3_init_98 : decode cX3_init 98 = .ok (.iconst 0, 1) := by decide +kernel
theorem dX3_init_99 : decode cX3_init 99 = .ok (.putfield 33, 3) := by decide +kernel
theorem dX3_init_102 : decode cX3_init 102 = .ok (.return_, 1) := by decide +kernel
theorem dX3_setHours_0 : decode cX3_setHours 0 = .ok (.iload_n 1, 1) := by decide +kernel
theorem dX3_setHours_1 : decode cX3_setHours 1 = .ok (.iload_n 2, 1) := by decide +kernel
theorem dX3_setHours_2 : decode cX3_setHours 2 = .ok (.invokestatic 37, 3) := by decide +kernel
theorem dX3_setHours_5 : decode cX3_setHours 5 = .ok (.ifCond .ne 13, 3) := by decide +kernel
theorem dX3_setHours_8 : decode cX3_setHours 8 = .ok (.new 41, 3) := by decide +kernel
theorem dX3_setHours_11 : decode cX3_setHours 11 = .ok (.dup, 1) := by decide +kernel
theorem dX3_setHours_12 : decode cX3_setHours 12 = .ok (.ldc 43, 2) := by decide +kernel
theorem dX3_setHours_14 : decode cX3_setHours 14 = .ok (.invokespecial 45, 3) := by decide +kernel
theorem dX3_setHours_17 : decode cX3_setHours 17 = .ok (.athrow, 1) := by decide +kernel
theorem dX3_setHours_18 : decode cX3_setHours 18 = .ok (.iload_n 1, 1) := by decide +kernel
theorem dX3_setHours_19 : decode cX3_setHours 19 = .ok (.aload_n 0, 1) := by decide +kernel
theorem dX3_setHours_20 : decode cX3_setHours 20 = .ok (.getfield 10, 3) := by decide +kernel
theorem dX3_setHours_23 : decode cX3_setHours 23 = .ok (.getfield 48, 3) := by decide +kernel
theorem dX3_setHours_26 : decode cX3_setHours 26 = .ok (.if_icmp .ne 14, 3) := by decide +kernel
theorem dX3_setHours_29 : decode cX3_setHours 29 = .ok (.iload_n 2, 1) := by decide +kernel
theorem dX3_setHours_30 : decode cX3_setHours 30 = .ok (.aload_n 0, 1) := by decide +kernel
theorem dX3_setHours_31 : decode cX3_setHours 31 = .ok (.getfield 10, 3) := by decide +kernel
theorem dX3_setHours_34 : decode cX3_setHours 34 = .ok (.getfield 51, 3) := by decide +kernel
theorem dX3_setHours_37 : decode cX3_setHours 37 = .ok (.if_icmp .eq 7, 3) := by decide +kernel
theorem dX3_setHours_40 : decode cX3_setHours 40 = .ok (.iconst 1, 1) := by decide +kernel
theorem dX3_setHours_41 : decode cX3_setHours 41 = .ok (.goto 4, 3) := by decide +kernel
theorem dX3_setHours_44 : decode cX3_setHours 44 = .ok (.iconst 0, 1) := by decide +kernel
theorem dX3_setHours_45 : decode cX3_setHours 45 = .ok (.istore_n 3, 1) := by decide +kernel
theorem dX3_setHours_46 : decode cX3_setHours 46 = .ok (.aload_n 0, 1) := by decide +kernel
theorem dX3_setHours_47 : decode cX3_setHours 47 = .ok (.getfield 10, 3) := by decide +kernel
theorem dX3_setHours_50 : decode cX3_setHours 50 = .ok (.iload_n 1, 1) := by decide +kernel
theorem dX3_setHours_51 : decode cX3_setHours 51 = .ok (.putfield 48, 3) := by decide +kernel
theorem dX3_setHours_54 : decode cX3_setHours 54 = .ok (.aload_n 0, 1) := by decide +kernel
theorem dX3_setHours_55 : decode cX3_setHours 55 = .ok (.getfield 10, 3) := by decide +kernel
theorem dX3_setHours_58 : decode cX3_setHours 58 = .ok (.iload_n 2, 1) := by decide +kernel
theorem dX3_setHours_59 : decode cX3_setHours 59 = .ok (.putfield 51, 3) := by decide +kernel
theorem dX3_setHours_62 : decode cX3_setHours 62 = .ok (.iload_n 3, 1) := by decide +kernel
theorem dX3_setHours_63 : decode cX3_setHours 63 = .ok (.ireturn, 1) := by decide +kernel
theorem dX3_setTargets_0 : decode cX3_setTargets 0 = .ok (.iload_n 1, 1) := by decide +kernel
theorem dX3_setTargets_1 : decode cX3_setTargets 1 = .ok (.invokestatic 54, 3) := by decide +kernel
theorem dX3_setTargets_4 : decode cX3_setTargets 4 = .ok (.ifCond .ne 13, 3) := by decide +kernel
theorem dX3_setTargets_7 : decode cX3_setTargets 7 = .ok (.new 58, 3) := by decide +kernel
theorem dX3_setTargets_10 : decode cX3_setTargets 10 = .ok (.dup, 1) := by decide +kernel
theorem dX3_setTargets_11 : decode cX3_setTargets 11 = .ok (.ldc 60, 2) := by decide +kernel
theorem dX3_setTargets_13 : decode cX3_setTargets 13 = .ok (.invokespecial 62, 3) := by decide +kernel
theorem dX3_setTargets_16 : decode cX3_setTargets 16 = .ok (.athrow, 1) := by decide +kernel
theorem dX3_setTargets_17 : decode cX3_setTargets 17 = .ok (.iload_n 2, 1) := by decide +kernel
theorem dX3_setTargets_18 : decode cX3_setTargets 18 = .ok (.iconst 1, 1) := by decide +kernel
theorem dX3_setTargets_19 : decode cX3_setTargets 19 = .ok (.if_icmp .lt 22, 3) := by decide +kernel
theorem dX3_setTargets_22 : decode cX3_setTargets 22 = .ok (.iload_n 2, 1) := by decide +kernel
theorem dX3_setTargets_23 : decode cX3_setTargets 23 = .ok (.sipush 9999, 3) := by decide +kernel
theorem dX3_setTargets_26 : decode cX3_setTargets 26 = .ok (.if_icmp .gt 15, 3) := by decide +kernel
theorem dX3_setTargets_29 : decode cX3_setTargets 29 = .ok (.iload_n 3, 1) := by decide +kernel
theorem dX3_setTargets_30 : decode cX3_setTargets 30 = .ok (.iload_n 2, 1) := by decide +kernel
theorem dX3_setTargets_31 : decode cX3_setTargets 31 = .ok (.if_icmp .lt 10, 3) := by decide +kernel
theorem dX3_setTargets_34 : decode cX3_setTargets 34 = .ok (.iload_n 3, 1) := by decide +kernel
theorem dX3_setTargets_35 : decode cX3_setTargets 35 = .ok (.sipush 9999, 3) := by decide +kernel
theorem dX3_setTargets_38 : decode cX3_setTargets 38 = .ok (.if_icmp .le 13, 3) := by decide +kernel
theorem dX3_setTargets_41 : decode cX3_setTargets 41 = .ok (.new 41, 3) := by decide +kernel
theorem dX3_setTargets_44 : decode cX3_setTargets 44 = .ok (.dup, 1) := by decide +kernel
theorem dX3_setTargets_45 : decode cX3_setTargets 45 = .ok (.ldc 63, 2) := by decide +kernel
theorem dX3_setTargets_47 : decode cX3_setTargets 47 = .ok (.invokespecial 45, 3) := by decide +kernel
theorem dX3_setTargets_50 : decode cX3_setTargets 50 = .ok (.athrow, 1) := by decide +kernel
theorem dX3_setTargets_51 : decode cX3_setTargets 51 = .ok (.aload_n 0, 1) := by decide +kernel
theorem dX3_setTargets_52 : decode cX3_setTargets 52 = .ok (.getfield 20, 3) := by decide +kernel
theorem dX3_setTargets_55 : decode cX3_setTargets 55 = .ok (.iload_n 1, 1) := by decide +kernel
theorem dX3_setTargets_56 : decode cX3_setTargets 56 = .ok (.iaload, 1) := by decide +kernel
theorem dX3_setTargets_57 : decode cX3_setTargets 57 = .ok (.istore 4, 2) := by decide +kernel
theorem dX3_setTargets_59 : decode cX3_setTargets 59 = .ok (.aload_n 0, 1) := by decide +kernel
theorem dX3_setTargets_60 : decode cX3_setTargets 60 = .ok (.getfield 16, 3) := by decide +kernel
theorem dX3_setTargets_63 : decode cX3_setTargets 63 = .ok (.iload_n 1, 1) := by decide +kernel
theorem dX3_setTargets_64 : decode cX3_setTargets 64 = .ok (.iload_n 2, 1) := by decide +kernel
theorem dX3_setTargets_65 : decode cX3_setTargets 65 = .ok (.iastore, 1) := by decide +kernel
theorem dX3_setTargets_66 : decode cX3_setTargets 66 = .ok (.aload_n 0, 1) := by decide +kernel
theorem dX3_setTargets_67 : decode cX3_setTargets 67 = .ok (.getfield 20, 3) := by decide +kernel
theorem dX3_setTargets_70 : decode cX3_setTargets 70 = .ok (.iload_n 1, 1) := by decide +kernel
theorem dX3_setTargets_71 : decode cX3_setTargets 71 = .ok (.iload_n 3, 1) := by decide +kernel
theorem dX3_setTargets_72 : decode cX3_setTargets 72 = .ok (.iastore, 1) := by decide +kernel
theorem dX3_setTargets_73 : decode cX3_setTargets 73 = .ok (.iload 4, 2) := by decide +kernel
theorem dX3_setTargets_75 : decode cX3_setTargets 75 = .ok (.ireturn, 1) := by decide +kernel
theorem dX3_now_0 : decode cX3_now 0 = .ok (.aload_n 0, 1) := by decide +kernel
theorem dX3_now_1 : decode cX3_now 1 = .ok (.getfield 33, 3) := by decide +kernel
theorem dX3_now_4 : decode cX3_now 4 = .ok (.ireturn, 1) := by decide +kernel
theorem dX3_service_0 : decode cX3_service 0 = .ok (.iload_n 1, 1) := by decide +kernel
theorem dX3_service_1 : decode cX3_service 1 = .ok (.ifCond .lt 14, 3) := by decide +kernel
theorem dX3_service_4 : decode cX3_service 4 = .ok (.iload_n 2, 1) := by decide +kernel
theorem dX3_service_5 : decode cX3_service 5 = .ok (.iload_n 1, 1) := by decide +kernel
theorem dX3_service_6 : decode cX3_service 6 = .ok (.if_icmp .lt 9, 3) := by decide +kernel
theorem dX3_service_9 : decode cX3_service 9 = .ok (.iload_n 2, 1) := by decide +kernel
theorem dX3_service_10 : decode cX3_service 10 = .ok (.ldc 65, 2) := by decide +kernel
theorem dX3_service_12 : decode cX3_service 12 = .ok (.if_icmp .le 13, 3) := by decide +kernel
theorem dX3_service_15 : decode cX3_service 15 = .ok (.new 41, 3) := by decide +kernel
theorem dX3_service_18 : decode cX3_service 18 = .ok (.dup, 1) := by decide +kernel
theorem dX3_service_19 : decode cX3_service 19 = .ok (.ldc 66, 2) := by decide +kernel
theorem dX3_service_21 : decode cX3_service 21 = .ok (.invokespecial 45, 3) := by decide +kernel
theorem dX3_service_24 : decode cX3_service 24 = .ok (.athrow, 1) := by decide +kernel
theorem dX3_service_25 : decode cX3_service 25 = .ok (.aload_n 0, 1) := by decide +kernel
theorem dX3_service_26 : decode cX3_service 26 = .ok (.getfield 10, 3) := by decide +kernel
theorem dX3_service_29 : decode cX3_service 29 = .ok (.iload_n 1, 1) := by decide +kernel
theorem dX3_service_30 : decode cX3_service 30 = .ok (.iload_n 2, 1) := by decide +kernel
theorem dX3_service_31 : decode cX3_service 31 = .ok (.invokevirtual 68, 3) := by decide +kernel
theorem dX3_service_34 : decode cX3_service 34 = .ok (.ireturn, 1) := by decide +kernel
theorem dX3_addAgent_0 : decode cX3_addAgent 0 = .ok (.iload_n 1, 1) := by decide +kernel
theorem dX3_addAgent_1 : decode cX3_addAgent 1 = .ok (.invokestatic 72, 3) := by decide +kernel
theorem dX3_addAgent_4 : decode cX3_addAgent 4 = .ok (.ifCond .eq 23, 3) := by decide +kernel
theorem dX3_addAgent_7 : decode cX3_addAgent 7 = .ok (.iload_n 2, 1) := by decide +kernel
theorem dX3_addAgent_8 : decode cX3_addAgent 8 = .ok (.iconst 1, 1) := by decide +kernel
theorem dX3_addAgent_9 : decode cX3_addAgent 9 = .ok (.if_icmp .lt 18, 3) := by decide +kernel
theorem dX3_addAgent_12 : decode cX3_addAgent 12 = .ok (.iload_n 2, 1) := by decide +kernel
theorem dX3_addAgent_13 : decode cX3_addAgent 13 = .ok (.bipush 127, 2) := by decide +kernel
theorem dX3_addAgent_15 : decode cX3_addAgent 15 = .ok (.if_icmp .gt 12, 3) := by decide +kernel
theorem dX3_addAgent_18 : decode cX3_addAgent 18 = .ok (.iload_n 3, 1) := by decide +kernel
theorem dX3_addAgent_19 : decode cX3_addAgent 19 = .ok (.iload 4, 2) := by decide +kernel
theorem dX3_addAgent_21 : decode cX3_addAgent 21 = .ok (.invokestatic 37, 3) := by decide +kernel
theorem dX3_addAgent_24 : decode cX3_addAgent 24 = .ok (.ifCond .ne 13, 3) := by decide +kernel
theorem dX3_addAgent_27 : decode cX3_addAgent 27 = .ok (.new 41, 3) := by decide +kernel
theorem dX3_addAgent_30 : decode cX3_addAgent 30 = .ok (.dup, 1) := by decide +kernel
theorem dX3_addAgent_31 : decode cX3_addAgent 31 = .ok (.ldc 75, 2) := by decide +kernel
theorem dX3_addAgent_33 : decode cX3_addAgent 33 = .ok (.invokespecial 45, 3) := by decide +kernel
theorem dX3_addAgent_36 : decode cX3_addAgent 36 = .ok (.athrow, 1) := by decide +kernel
theorem dX3_addAgent_37 : decode cX3_addAgent 37 = .ok (.aload_n 0, 1) := by decide +kernel
theorem dX3_addAgent_38 : decode cX3_addAgent 38 = .ok (.getfield 26, 3) := by decide +kernel
theorem dX3_addAgent_41 : decode cX3_addAgent 41 = .ok (.invokevirtual 77, 3) := by decide +kernel
theorem dX3_addAgent_44 : decode cX3_addAgent 44 = .ok (.bipush 6, 2) := by decide +kernel
theorem dX3_addAgent_46 : decode cX3_addAgent 46 = .ok (.if_icmp .lt 13, 3) := by decide +kernel
theorem dX3_addAgent_49 : decode cX3_addAgent 49 = .ok (.new 81, 3) := by decide +kernel
theorem dX3_addAgent_52 : decode cX3_addAgent 52 = .ok (.dup, 1) := by decide +kernel
theorem dX3_addAgent_53 : decode cX3_addAgent 53 = .ok (.ldc 83, 2) := by decide +kernel
theorem dX3_addAgent_55 : decode cX3_addAgent 55 = .ok (.invokespecial 85, 3) := by decide +kernel
theorem dX3_addAgent_58 : decode cX3_addAgent 58 = .ok (.athrow, 1) := by decide +kernel
theorem dX3_addAgent_59 : decode cX3_addAgent 59 = .ok (.new 86, 3) := by decide +kernel
theorem dX3_addAgent_62 : decode cX3_addAgent 62 = .ok (.dup, 1) := by decide +kernel
theorem dX3_addAgent_63 : decode cX3_addAgent 63 = .ok (.aload_n 0, 1) := by decide +kernel
theorem dX3_addAgent_64 : decode cX3_addAgent 64 = .ok (.getfield 26, 3) := by decide +kernel
theorem dX3_addAgent_67 : decode cX3_addAgent 67 = .ok (.invokevirtual 77, 3) := by decide +kernel
theorem dX3_addAgent_70 : decode cX3_addAgent 70 = .ok (.iload_n 1, 1) := by decide +kernel
theorem dX3_addAgent_71 : decode cX3_addAgent 71 = .ok (.iload_n 2, 1) := by decide +kernel
theorem dX3_addAgent_72 : decode cX3_addAgent 72 = .ok (.iload_n 3, 1) := by decide +kernel
theorem dX3_addAgent_73 : decode cX3_addAgent 73 = .ok (.iload 4, 2) := by decide +kernel
theorem dX3_addAgent_75 : decode cX3_addAgent 75 = .ok (.invokespecial 88, 3) := by decide +kernel
theorem dX3_addAgent_78 : decode cX3_addAgent 78 = .ok (.astore 5, 2) := by decide +kernel
theorem dX3_addAgent_80 : decode cX3_addAgent 80 = .ok (.aload_n 0, 1) := by decide +kernel
theorem dX3_addAgent_81 : decode cX3_addAgent 81 = .ok (.getfield 26, 3) := by decide +kernel
theorem dX3_addAgent_84 : decode cX3_addAgent 84 = .ok (.aload 5, 2) := by decide +kernel
theorem dX3_addAgent_86 : decode cX3_addAgent 86 = .ok (.invokevirtual 91, 3) := by decide +kernel
theorem dX3_addAgent_89 : decode cX3_addAgent 89 = .ok (.pop, 1) := by decide +kernel
theorem dX3_addAgent_90 : decode cX3_addAgent 90 = .ok (.aload 5, 2) := by decide +kernel
theorem dX3_addAgent_92 : decode cX3_addAgent 92 = .ok (.getfield 95, 3) := by decide +kernel
theorem dX3_addAgent_95 : decode cX3_addAgent 95 = .ok (.ireturn, 1) := by decide +kernel
theorem dX3_agent_0 : decode cX3_agent 0 = .ok (.aload_n 0, 1) := by decide +kernel
theorem dX3_agent_1 : decode cX3_agent 1 = .ok (.iload_n 1, 1) := by decide +kernel
theorem dX3_agent_2 : decode cX3_agent 2 = .ok (.invokevirtual 98, 3) := by decide +kernel
theorem dX3_agent_5 : decode cX3_agent 5 = .ok (.astore_n 3, 1) := by decide +kernel
theorem dX3_agent_6 : decode cX3_agent 6 = .ok (.iload_n 2, 1) := by decide +kernel
theorem dX3_agent_7 : decode cX3_agent 7 = .ok (.ifCond .lt 8, 3) := by decide +kernel
theorem dX3_agent_10 : decode cX3_agent 10 = .ok (.iload_n 2, 1) := by decide +kernel
theorem dX3_agent_11 : decode cX3_agent 11 = .ok (.iconst 4, 1) := by decide +kernel
theorem dX3_agent_12 : decode cX3_agent 12 = .ok (.if_icmp .lt 13, 3) := by decide +kernel
theorem dX3_agent_15 : decode cX3_agent 15 = .ok (.new 58, 3) := by decide +kernel
theorem dX3_agent_18 : decode cX3_agent 18 = .ok (.dup, 1) := by decide +kernel
theorem dX3_agent_19 : decode cX3_agent 19 = .ok (.ldc 123, 2) := by decide +kernel
theorem dX3_agent_21 : decode cX3_agent 21 = .ok (.invokespecial 62, 3) := by decide +kernel
theorem dX3_agent_24 : decode cX3_agent 24 = .ok (.athrow, 1) := by decide +kernel
theorem dX3_agent_25 : decode cX3_agent 25 = .ok (.aload_n 0, 1) := by decide +kernel
theorem dX3_agent_26 : decode cX3_agent 26 = .ok (.aload_n 3, 1) := by decide +kernel
theorem dX3_agent_27 : decode cX3_agent 27 = .ok (.iload_n 2, 1) := by decide +kernel
theorem dX3_agent_28 : decode cX3_agent 28 = .ok (.invokevirtual 125, 3) := by decide +kernel
theorem dX3_agent_31 : decode cX3_agent 31 = .ok (.ireturn, 1) := by decide +kernel
theorem dX3_open_0 : decode cX3_open 0 = .ok (.iload_n 1, 1) := by decide +kernel
theorem dX3_open_1 : decode cX3_open 1 = .ok (.ifCond .lt 40, 3) := by decide +kernel
theorem dX3_open_4 : decode cX3_open 4 = .ok (.iload_n 1, 1) := by decide +kernel
theorem dX3_open_5 : decode cX3_open 5 = .ok (.bipush 8, 2) := by decide +kernel
theorem dX3_open_7 : decode cX3_open 7 = .ok (.if_icmp .ge 34, 3) := by decide +kernel
theorem dX3_open_10 : decode cX3_open 10 = .ok (.iload_n 2, 1) := by decide +kernel
theorem dX3_open_11 : decode cX3_open 11 = .ok (.invokestatic 54, 3) := by decide +kernel
theorem dX3_open_14 : decode cX3_open 14 = .ok (.ifCond .eq 27, 3) := by decide +kernel
theorem dX3_open_17 : decode cX3_open 17 = .ok (.iload_n 3, 1) := by decide +kernel
theorem dX3_open_18 : decode cX3_open 18 = .ok (.iconst 1, 1) := by decide +kernel
theorem dX3_open_19 : decode cX3_open 19 = .ok (.if_icmp .lt 22, 3) := by decide +kernel
theorem dX3_open_22 : decode cX3_open 22 = .ok (.iload_n 3, 1) := by decide +kernel
theorem dX3_open_23 : decode cX3_open 23 = .ok (.sipush 600, 3) := by decide +kernel
theorem dX3_open_26 : decode cX3_open 26 = .ok (.if_icmp .gt 15, 3) := by decide +kernel
theorem dX3_open_29 : decode cX3_open 29 = .ok (.iload 4, 2) := by decide +kernel
theorem dX3_open_31 : decode cX3_open 31 = .ok (.ifCond .lt 10, 3) := by decide +kernel
theorem dX3_open_34 : decode cX3_open 34 = .ok (.iload 4, 2) := by decide +kernel
theorem dX3_open_36 : decode cX3_open 36 = .ok (.bipush 10, 2) := by decide +kernel
theorem dX3_open_38 : decode cX3_open 38 = .ok (.if_icmp .lt 13, 3) := by decide +kernel
theorem dX3_open_41 : decode cX3_open 41 = .ok (.new 41, 3) := by decide +kernel
theorem dX3_open_44 : decode cX3_open 44 = .ok (.dup, 1) := by decide +kernel
theorem dX3_open_45 : decode cX3_open 45 = .ok (.ldc 137, 2) := by decide +kernel
theorem dX3_open_47 : decode cX3_open 47 = .ok (.invokespecial 45, 3) := by decide +kernel
theorem dX3_open_50 : decode cX3_open 50 = .ok (.athrow, 1) := by decide +kernel
theorem dX3_open_51 : decode cX3_open 51 = .ok (.aload_n 0, 1) := by decide +kernel
theorem dX3_open_52 : decode cX3_open 52 = .ok (.getfield 30, 3) := by decide +kernel
theorem dX3_open_55 : decode cX3_open 55 = .ok (.invokevirtual 77, 3) := by decide +kernel
theorem dX3_open_58 : decode cX3_open 58 = .ok (.bipush 20, 2) := by decide +kernel
theorem dX3_open_60 : decode cX3_open 60 = .ok (.if_icmp .lt 13, 3) := by decide +kernel
theorem dX3_open_63 : decode cX3_open 63 = .ok (.new 81, 3) := by decide +kernel
theorem dX3_open_66 : decode cX3_open 66 = .ok (.dup, 1) := by decide +kernel
theorem dX3_open_67 : decode cX3_open 67 = .ok (.ldc 139, 2) := by decide +kernel
theorem dX3_open_69 : decode cX3_open 69 = .ok (.invokespecial 85, 3) := by decide +kernel
theorem dX3_open_72 : decode cX3_open 72 = .ok (.athrow, 1) := by decide +kernel
theorem dX3_open_73 : decode cX3_open 73 = .ok (.new 112, 3) := by decide +kernel
theorem dX3_open_76 : decode cX3_open 76 = .ok (.dup, 1) := by decide +kernel
theorem dX3_open_77 : decode cX3_open 77 = .ok (.aload_n 0, 1) := by decide +kernel
theorem dX3_open_78 : decode cX3_open 78 = .ok (.getfield 30, 3) := by decide +kernel
theorem dX3_open_81 : decode cX3_open 81 = .ok (.invokevirtual 77, 3) := by decide +kernel
theorem dX3_open_84 : decode cX3_open 84 = .ok (.iload_n 1, 1) := by decide +kernel
theorem dX3_open_85 : decode cX3_open 85 = .ok (.iload_n 2, 1) := by decide +kernel
theorem dX3_open_86 : decode cX3_open 86 = .ok (.iload_n 3, 1) := by decide +kernel
theorem dX3_open_87 : decode cX3_open 87 = .ok (.iload 4, 2) := by decide +kernel
theorem dX3_open_89 : decode cX3_open 89 = .ok (.invokespecial 141, 3) := by decide +kernel
theorem dX3_open_92 : decode cX3_open 92 = .ok (.astore 5, 2) := by decide +kernel
theorem dX3_open_94 : decode cX3_open 94 = .ok (.aload_n 0, 1) := by decide +kernel
theorem dX3_open_95 : decode cX3_open 95 = .ok (.getfield 30, 3) := by decide +kernel
theorem dX3_open_98 : decode cX3_open 98 = .ok (.aload 5, 2) := by decide +kernel
theorem dX3_open_100 : decode cX3_open 100 = .ok (.invokevirtual 91, 3) := by decide +kernel
theorem dX3_open_103 : decode cX3_open 103 = .ok (.pop, 1) := by decide +kernel
theorem dX3_open_104 : decode cX3_open 104 = .ok (.aload 5, 2) := by decide +kernel
theorem dX3_open_106 : decode cX3_open 106 = .ok (.getfield 142, 3) := by decide +kernel
theorem dX3_open_109 : decode cX3_open 109 = .ok (.ireturn, 1) := by decide +kernel
theorem dX3_pause_0 : decode cX3_pause 0 = .ok (.aload_n 0, 1) := by decide +kernel
theorem dX3_pause_1 : decode cX3_pause 1 = .ok (.iload_n 1, 1) := by decide +kernel
theorem dX3_pause_2 : decode cX3_pause 2 = .ok (.invokevirtual 143, 3) := by decide +kernel
theorem dX3_pause_5 : decode cX3_pause 5 = .ok (.astore_n 2, 1) := by decide +kernel
theorem dX3_pause_6 : decode cX3_pause 6 = .ok (.aload_n 2, 1) := by decide +kernel
theorem dX3_pause_7 : decode cX3_pause 7 = .ok (.getfield 147, 3) := by decide +kernel
theorem dX3_pause_10 : decode cX3_pause 10 = .ok (.ifCond .eq 21, 3) := by decide +kernel
theorem dX3_pause_13 : decode cX3_pause 13 = .ok (.aload_n 2, 1) := by decide +kernel
theorem dX3_pause_14 : decode cX3_pause 14 = .ok (.getfield 147, 3) := by decide +kernel
theorem dX3_pause_17 : decode cX3_pause 17 = .ok (.iconst 1, 1) := by decide +kernel
theorem dX3_pause_18 : decode cX3_pause 18 = .ok (.if_icmp .eq 13, 3) := by decide +kernel
theorem dX3_pause_21 : decode cX3_pause 21 = .ok (.new 81, 3) := by decide +kernel
theorem dX3_pause_24 : decode cX3_pause 24 = .ok (.dup, 1) := by decide +kernel
theorem dX3_pause_25 : decode cX3_pause 25 = .ok (.ldc 155, 2) := by decide +kernel
theorem dX3_pause_27 : decode cX3_pause 27 = .ok (.invokespecial 85, 3) := by decide +kernel
theorem dX3_pause_30 : decode cX3_pause 30 = .ok (.athrow, 1) := by decide +kernel
theorem dX3_pause_31 : decode cX3_pause 31 = .ok (.aload_n 2, 1) := by decide +kernel
theorem dX3_pause_32 : decode cX3_pause 32 = .ok (.invokestatic 157, 3) := by decide +kernel
theorem dX3_pause_35 : decode cX3_pause 35 = .ok (.aload_n 2, 1) := by decide +kernel
theorem dX3_pause_36 : decode cX3_pause 36 = .ok (.iconst 2, 1) := by decide +kernel
theorem dX3_pause_37 : decode cX3_pause 37 = .ok (.putfield 147, 3) := by decide +kernel
theorem dX3_pause_40 : decode cX3_pause 40 = .ok (.aload_n 2, 1) := by decide +kernel
theorem dX3_pause_41 : decode cX3_pause 41 = .ok (.aload_n 0, 1) := by decide +kernel
theorem dX3_pause_42 : decode cX3_pause 42 = .ok (.getfield 33, 3) := by decide +kernel
theorem dX3_pause_45 : decode cX3_pause 45 = .ok (.putfield 160, 3) := by decide +kernel
theorem dX3_pause_48 : decode cX3_pause 48 = .ok (.aload_n 2, 1) := by decide +kernel
theorem dX3_pause_49 : decode cX3_pause 49 = .ok (.getfield 163, 3) := by decide +kernel
theorem dX3_pause_52 : decode cX3_pause 52 = .ok (.aload_n 2, 1) := by decide +kernel
theorem dX3_pause_53 : decode cX3_pause 53 = .ok (.getfield 166, 3) := by decide +kernel
theorem dX3_pause_56 : decode cX3_pause 56 = .ok (.isub, 1) := by decide +kernel
theorem dX3_pause_57 : decode cX3_pause 57 = .ok (.ireturn, 1) := by decide +kernel
theorem dX3_resume_0 : decode cX3_resume 0 = .ok (.aload_n 0, 1) := by decide +kernel
theorem dX3_resume_1 : decode cX3_resume 1 = .ok (.iload_n 1, 1) := by decide +kernel
theorem dX3_resume_2 : decode cX3_resume 2 = .ok (.invokevirtual 143, 3) := by decide +kernel
theorem dX3_resume_5 : decode cX3_resume 5 = .ok (.astore_n 2, 1) := by decide +kernel
theorem dX3_resume_6 : decode cX3_resume 6 = .ok (.aload_n 2, 1) := by decide +kernel
theorem dX3_resume_7 : decode cX3_resume 7 = .ok (.getfield 147, 3) := by decide +kernel
theorem dX3_resume_10 : decode cX3_resume 10 = .ok (.iconst 2, 1) := by decide +kernel
theorem dX3_resume_11 : decode cX3_resume 11 = .ok (.if_icmp .eq 13, 3) := by decide +kernel
theorem dX3_resume_14 : decode cX3_resume 14 = .ok (.new 81, 3) := by decide +kernel
theorem dX3_resume_17 : decode cX3_resume 17 = .ok (.dup, 1) := by decide +kernel
theorem dX3_resume_18 : decode cX3_resume 18 = .ok (.ldc 169, 2) := by decide +kernel
theorem dX3_resume_20 : decode cX3_resume 20 = .ok (.invokespecial 85, 3) := by decide +kernel
theorem dX3_resume_23 : decode cX3_resume 23 = .ok (.athrow, 1) := by decide +kernel
theorem dX3_resume_24 : decode cX3_resume 24 = .ok (.aload_n 2, 1) := by decide +kernel
theorem dX3_resume_25 : decode cX3_resume 25 = .ok (.iconst 0, 1) := by decide +kernel
theorem dX3_resume_26 : decode cX3_resume 26 = .ok (.putfield 147, 3) := by decide +kernel
theorem dX3_resume_29 : decode cX3_resume 29 = .ok (.aload_n 0, 1) := by decide +kernel
theorem dX3_resume_30 : decode cX3_resume 30 = .ok (.getfield 33, 3) := by decide +kernel
theorem dX3_resume_33 : decode cX3_resume 33 = .ok (.aload_n 2, 1) := by decide +kernel
theorem dX3_resume_34 : decode cX3_resume 34 = .ok (.getfield 160, 3) := by decide +kernel
theorem dX3_resume_37 : decode cX3_resume 37 = .ok (.isub, 1) := by decide +kernel
theorem dX3_resume_38 : decode cX3_resume 38 = .ok (.ireturn, 1) := by decide +kernel
theorem dX3_merge_0 : decode cX3_merge 0 = .ok (.aload_n 0, 1) := by decide +kernel
theorem dX3_merge_1 : decode cX3_merge 1 = .ok (.iload_n 1, 1) := by decide +kernel
theorem dX3_merge_2 : decode cX3_merge 2 = .ok (.invokevirtual 143, 3) := by decide +kernel
theorem dX3_merge_5 : decode cX3_merge 5 = .ok (.astore_n 3, 1) := by decide +kernel
theorem dX3_merge_6 : decode cX3_merge 6 = .ok (.aload_n 0, 1) := by decide +kernel
theorem dX3_merge_7 : decode cX3_merge 7 = .ok (.iload_n 2, 1) := by decide +kernel
theorem dX3_merge_8 : decode cX3_merge 8 = .ok (.invokevirtual 143, 3) := by decide +kernel
theorem dX3_merge_11 : decode cX3_merge 11 = .ok (.astore 4, 2) := by decide +kernel
theorem dX3_merge_13 : decode cX3_merge 13 = .ok (.iload_n 1, 1) := by decide +kernel
theorem dX3_merge_14 : decode cX3_merge 14 = .ok (.iload_n 2, 1) := by decide +kernel
theorem dX3_merge_15 : decode cX3_merge 15 = .ok (.if_icmp .ne 13, 3) := by decide +kernel
theorem dX3_merge_18 : decode cX3_merge 18 = .ok (.new 41, 3) := by decide +kernel
theorem dX3_merge_21 : decode cX3_merge 21 = .ok (.dup, 1) := by decide +kernel
theorem dX3_merge_22 : decode cX3_merge 22 = .ok (.ldc 171, 2) := by decide +kernel
theorem dX3_merge_24 : decode cX3_merge 24 = .ok (.invokespecial 45, 3) := by decide +kernel
theorem dX3_merge_27 : decode cX3_merge 27 = .ok (.athrow, 1) := by decide +kernel
theorem dX3_merge_28 : decode cX3_merge 28 = .ok (.aload_n 3, 1) := by decide +kernel
theorem dX3_merge_29 : decode cX3_merge 29 = .ok (.invokevirtual 173, 3) := by decide +kernel
theorem dX3_merge_32 : decode cX3_merge 32 = .ok (.ifCond .eq 11, 3) := by decide +kernel
theorem dX3_merge_35 : decode cX3_merge 35 = .ok (.aload 4, 2) := by decide +kernel
theorem dX3_merge_37 : decode cX3_merge 37 = .ok (.invokevirtual 173, 3) := by decide +kernel
theorem dX3_merge_40 : decode cX3_merge 40 = .ok (.ifCond .ne 13, 3) := by decide +kernel
theorem dX3_merge_43 : decode cX3_merge 43 = .ok (.new 81, 3) := by decide +kernel
theorem dX3_merge_46 : decode cX3_merge 46 = .ok (.dup, 1) := by decide +kernel
theorem dX3_merge_47 : decode cX3_merge 47 = .ok (.ldc 177, 2) := by decide +kernel
theorem dX3_merge_49 : decode cX3_merge 49 = .ok (.invokespecial 85, 3) := by decide +kernel
theorem dX3_merge_52 : decode cX3_merge 52 = .ok (.athrow, 1) := by decide +kernel
theorem dX3_merge_53 : decode cX3_merge 53 = .ok (.aload_n 3, 1) := by decide +kernel
theorem dX3_merge_54 : decode cX3_merge 54 = .ok (.invokestatic 157, 3) := by decide +kernel
theorem dX3_merge_57 : decode cX3_merge 57 = .ok (.aload_n 3, 1) := by decide +kernel
theorem dX3_merge_58 : decode cX3_merge 58 = .ok (.iconst 4, 1) := by decide +kernel
theorem dX3_merge_59 : decode cX3_merge 59 = .ok (.putfield 147, 3) := by decide +kernel
theorem dX3_merge_62 : decode cX3_merge 62 = .ok (.aload_n 3, 1) := by decide +kernel
theorem dX3_merge_63 : decode cX3_merge 63 = .ok (.aload 4, 2) := by decide +kernel
theorem dX3_merge_65 : decode cX3_merge 65 = .ok (.putfield 179, 3) := by decide +kernel
theorem dX3_merge_68 : decode cX3_merge 68 = .ok (.aload 4, 2) := by decide +kernel
theorem dX3_merge_70 : decode cX3_merge 70 = .ok (.aload 4, 2) := by decide +kernel
theorem dX3_merge_72 : decode cX3_merge 72 = .ok (.getfield 152, 3) := by decide +kernel
theorem dX3_merge_75 : decode cX3_merge 75 = .ok (.aload_n 3, 1) := by decide +kernel
theorem dX3_merge_76 : decode cX3_merge 76 = .ok (.getfield 152, 3) := by decide +kernel
theorem dX3_merge_79 : decode cX3_merge 79 = .ok (.invokestatic 182, 3) := by decide +kernel
theorem dX3_merge_82 : decode cX3_merge 82 = .ok (.putfield 152, 3) := by decide +kernel
theorem dX3_merge_85 : decode cX3_merge 85 = .ok (.aload 4, 2) := by decide +kernel
theorem dX3_merge_87 : decode cX3_merge 87 = .ok (.aload 4, 2) := by decide +kernel
theorem dX3_merge_89 : decode cX3_merge 89 = .ok (.getfield 187, 3) := by decide +kernel
theorem dX3_merge_92 : decode cX3_merge 92 = .ok (.aload_n 3, 1) := by decide +kernel
theorem dX3_merge_93 : decode cX3_merge 93 = .ok (.getfield 187, 3) := by decide +kernel
theorem dX3_merge_96 : decode cX3_merge 96 = .ok (.invokestatic 190, 3) := by decide +kernel
theorem dX3_merge_99 : decode cX3_merge 99 = .ok (.putfield 187, 3) := by decide +kernel
theorem dX3_merge_102 : decode cX3_merge 102 = .ok (.aload 4, 2) := by decide +kernel
theorem dX3_merge_104 : decode cX3_merge 104 = .ok (.dup, 1) := by decide +kernel
theorem dX3_merge_105 : decode cX3_merge 105 = .ok (.getfield 193, 3) := by decide +kernel
theorem dX3_merge_108 : decode cX3_merge 108 = .ok (.aload_n 3, 1) := by decide +kernel
theorem dX3_merge_109 : decode cX3_merge 109 = .ok (.getfield 193, 3) := by decide +kernel
theorem dX3_merge_112 : decode cX3_merge 112 = .ok (.ior, 1) := by decide +kernel
theorem dX3_merge_113 : decode cX3_merge 113 = .ok (.putfield 193, 3) := by decide +kernel
theorem dX3_merge_116 : decode cX3_merge 116 = .ok (.aload 4, 2) := by decide +kernel
theorem dX3_merge_118 : decode cX3_merge 118 = .ok (.getfield 193, 3) := by decide +kernel
theorem dX3_merge_121 : decode cX3_merge 121 = .ok (.ireturn, 1) := by decide +kernel
theorem dX3_reopen_0 : decode cX3_reopen 0 = .ok (.aload_n 0, 1) := by decide +kernel
theorem dX3_reopen_1 : decode cX3_reopen 1 = .ok (.iload_n 1, 1) := by decide +kernel
theorem dX3_reopen_2 : decode cX3_reopen 2 = .ok (.invokevirtual 143, 3) := by decide +kernel
theorem dX3_reopen_5 : decode cX3_reopen 5 = .ok (.astore_n 3, 1) := by decide +kernel
theorem dX3_reopen_6 : decode cX3_reopen 6 = .ok (.iload_n 2, 1) := by decide +kernel
theorem dX3_reopen_7 : decode cX3_reopen 7 = .ok (.iconst 1, 1) := by decide +kernel
theorem dX3_reopen_8 : decode cX3_reopen 8 = .ok (.if_icmp .lt 10, 3) := by decide +kernel
theorem dX3_reopen_11 : decode cX3_reopen 11 = .ok (.iload_n 2, 1) := by decide +kernel
theorem dX3_reopen_12 : decode cX3_reopen 12 = .ok (.sipush 300, 3) := by decide +kernel
theorem dX3_reopen_15 : decode cX3_reopen 15 = .ok (.if_icmp .le 13, 3) := by decide +kernel
theorem dX3_reopen_18 : decode cX3_reopen 18 = .ok (.new 41, 3) := by decide +kernel
theorem dX3_reopen_21 : decode cX3_reopen 21 = .ok (.dup, 1) := by decide +kernel
theorem dX3_reopen_22 : decode cX3_reopen 22 = .ok (.ldc 196, 2) := by decide +kernel
theorem dX3_reopen_24 : decode cX3_reopen 24 = .ok (.invokespecial 45, 3) := by decide +kernel
theorem dX3_reopen_27 : decode cX3_reopen 27 = .ok (.athrow, 1) := by decide +kernel
theorem dX3_reopen_28 : decode cX3_reopen 28 = .ok (.aload_n 3, 1) := by decide +kernel
theorem dX3_reopen_29 : decode cX3_reopen 29 = .ok (.getfield 147, 3) := by decide +kernel
theorem dX3_reopen_32 : decode cX3_reopen 32 = .ok (.iconst 3, 1) := by decide +kernel
theorem dX3_reopen_33 : decode cX3_reopen 33 = .ok (.if_icmp .ne 18, 3) := by decide +kernel
theorem dX3_reopen_36 : decode cX3_reopen 36 = .ok (.aload_n 0, 1) := by decide +kernel
theorem dX3_reopen_37 : decode cX3_reopen 37 = .ok (.getfield 33, 3) := by decide +kernel
theorem dX3_reopen_40 : decode cX3_reopen 40 = .ok (.aload_n 3, 1) := by decide +kernel
theorem dX3_reopen_41 : decode cX3_reopen 41 = .ok (.getfield 198, 3) := by decide +kernel
theorem dX3_reopen_44 : decode cX3_reopen 44 = .ok (.isub, 1) := by decide +kernel
theorem dX3_reopen_45 : decode cX3_reopen 45 = .ok (.sipush 7200, 3) := by decide +kernel
theorem dX3_reopen_48 : decode cX3_reopen 48 = .ok (.if_icmp .lt 13, 3) := by decide +kernel
theorem dX3_reopen_51 : decode cX3_reopen 51 = .ok (.new 81, 3) := by decide +kernel
theorem dX3_reopen_54 : decode cX3_reopen 54 = .ok (.dup, 1) := by decide +kernel
theorem dX3_reopen_55 : decode cX3_reopen 55 = .ok (.ldc 201, 2) := by decide +kernel
theorem dX3_reopen_57 : decode cX3_reopen 57 = .ok (.invokespecial 85, 3) := by decide +kernel
theorem dX3_reopen_60 : decode cX3_reopen 60 = .ok (.athrow, 1) := by decide +kernel
theorem dX3_reopen_61 : decode cX3_reopen 61 = .ok (.aload_n 3, 1) := by decide +kernel
theorem dX3_reopen_62 : decode cX3_reopen 62 = .ok (.iconst 0, 1) := by decide +kernel
theorem dX3_reopen_63 : decode cX3_reopen 63 = .ok (.putfield 147, 3) := by decide +kernel
theorem dX3_reopen_66 : decode cX3_reopen 66 = .ok (.aload_n 3, 1) := by decide +kernel
theorem dX3_reopen_67 : decode cX3_reopen 67 = .ok (.dup, 1) := by decide +kernel
theorem dX3_reopen_68 : decode cX3_reopen 68 = .ok (.getfield 163, 3) := by decide +kernel
theorem dX3_reopen_71 : decode cX3_reopen 71 = .ok (.iload_n 2, 1) := by decide +kernel
theorem dX3_reopen_72 : decode cX3_reopen 72 = .ok (.iadd, 1) := by decide +kernel
theorem dX3_reopen_73 : decode cX3_reopen 73 = .ok (.putfield 163, 3) := by decide +kernel
theorem dX3_reopen_76 : decode cX3_reopen 76 = .ok (.aload_n 3, 1) := by decide +kernel
theorem dX3_reopen_77 : decode cX3_reopen 77 = .ok (.dup, 1) := by decide +kernel
theorem dX3_reopen_78 : decode cX3_reopen 78 = .ok (.getfield 203, 3) := by decide +kernel
theorem dX3_reopen_81 : decode cX3_reopen 81 = .ok (.iconst 1, 1) := by decide +kernel
theorem dX3_reopen_82 : decode cX3_reopen 82 = .ok (.iadd, 1) := by decide +kernel
theorem dX3_reopen_83 : decode cX3_reopen 83 = .ok (.putfield 203, 3) := by decide +kernel
theorem dX3_reopen_86 : decode cX3_reopen 86 = .ok (.aload_n 3, 1) := by decide +kernel
theorem dX3_reopen_87 : decode cX3_reopen 87 = .ok (.getfield 163, 3) := by decide +kernel
theorem dX3_reopen_90 : decode cX3_reopen 90 = .ok (.ireturn, 1) := by decide +kernel
theorem dX3_ticket_0 : decode cX3_ticket 0 = .ok (.aload_n 0, 1) := by decide +kernel
theorem dX3_ticket_1 : decode cX3_ticket 1 = .ok (.iload_n 1, 1) := by decide +kernel
theorem dX3_ticket_2 : decode cX3_ticket 2 = .ok (.invokevirtual 143, 3) := by decide +kernel
theorem dX3_ticket_5 : decode cX3_ticket 5 = .ok (.astore_n 3, 1) := by decide +kernel
theorem dX3_ticket_6 : decode cX3_ticket 6 = .ok (.iload_n 2, 1) := by decide +kernel
theorem dX3_ticket_7 : decode cX3_ticket 7 = .ok (.ifCond .lt 9, 3) := by decide +kernel
theorem dX3_ticket_10 : decode cX3_ticket 10 = .ok (.iload_n 2, 1) := by decide +kernel
theorem dX3_ticket_11 : decode cX3_ticket 11 = .ok (.bipush 8, 2) := by decide +kernel
theorem dX3_ticket_13 : decode cX3_ticket 13 = .ok (.if_icmp .lt 13, 3) := by decide +kernel
theorem dX3_ticket_16 : decode cX3_ticket 16 = .ok (.new 58, 3) := by decide +kernel
theorem dX3_ticket_19 : decode cX3_ticket 19 = .ok (.dup, 1) := by decide +kernel
theorem dX3_ticket_20 : decode cX3_ticket 20 = .ok (.ldc 206, 2) := by decide +kernel
theorem dX3_ticket_22 : decode cX3_ticket 22 = .ok (.invokespecial 62, 3) := by decide +kernel
theorem dX3_ticket_25 : decode cX3_ticket 25 = .ok (.athrow, 1) := by decide +kernel
theorem dX3_ticket_26 : decode cX3_ticket 26 = .ok (.aload_n 3, 1) := by decide +kernel
theorem dX3_ticket_27 : decode cX3_ticket 27 = .ok (.iload_n 2, 1) := by decide +kernel
theorem dX3_ticket_28 : decode cX3_ticket 28 = .ok (.invokestatic 208, 3) := by decide +kernel
theorem dX3_ticket_31 : decode cX3_ticket 31 = .ok (.ireturn, 1) := by decide +kernel
theorem dX3_pass_0 : decode cX3_pass 0 = .ok (.iload_n 1, 1) := by decide +kernel
theorem dX3_pass_1 : decode cX3_pass 1 = .ok (.iconst 1, 1) := by decide +kernel
theorem dX3_pass_2 : decode cX3_pass 2 = .ok (.if_icmp .lt 10, 3) := by decide +kernel
theorem dX3_pass_5 : decode cX3_pass 5 = .ok (.iload_n 1, 1) := by decide +kernel
theorem dX3_pass_6 : decode cX3_pass 6 = .ok (.sipush 600, 3) := by decide +kernel
theorem dX3_pass_9 : decode cX3_pass 9 = .ok (.if_icmp .le 13, 3) := by decide +kernel
theorem dX3_pass_12 : decode cX3_pass 12 = .ok (.new 41, 3) := by decide +kernel
theorem dX3_pass_15 : decode cX3_pass 15 = .ok (.dup, 1) := by decide +kernel
theorem dX3_pass_16 : decode cX3_pass 16 = .ok (.ldc 222, 2) := by decide +kernel
theorem dX3_pass_18 : decode cX3_pass 18 = .ok (.invokespecial 45, 3) := by decide +kernel
theorem dX3_pass_21 : decode cX3_pass 21 = .ok (.athrow, 1) := by decide +kernel
theorem dX3_pass_22 : decode cX3_pass 22 = .ok (.iload_n 1, 1) := by decide +kernel
theorem dX3_pass_23 : decode cX3_pass 23 = .ok (.ldc 65, 2) := by decide +kernel
theorem dX3_pass_25 : decode cX3_pass 25 = .ok (.aload_n 0, 1) := by decide +kernel
theorem dX3_pass_26 : decode cX3_pass 26 = .ok (.getfield 33, 3) := by decide +kernel
theorem dX3_pass_29 : decode cX3_pass 29 = .ok (.isub, 1) := by decide +kernel
theorem dX3_pass_30 : decode cX3_pass 30 = .ok (.if_icmp .le 13, 3) := by decide +kernel
theorem dX3_pass_33 : decode cX3_pass 33 = .ok (.new 81, 3) := by decide +kernel
theorem dX3_pass_36 : decode cX3_pass 36 = .ok (.dup, 1) := by decide +kernel
theorem dX3_pass_37 : decode cX3_pass 37 = .ok (.ldc 224, 2) := by decide +kernel
theorem dX3_pass_39 : decode cX3_pass 39 = .ok (.invokespecial 85, 3) := by decide +kernel
theorem dX3_pass_42 : decode cX3_pass 42 = .ok (.athrow, 1) := by decide +kernel
theorem dX3_pass_43 : decode cX3_pass 43 = .ok (.iconst 0, 1) := by decide +kernel
theorem dX3_pass_44 : decode cX3_pass 44 = .ok (.istore_n 2, 1) := by decide +kernel
theorem dX3_pass_45 : decode cX3_pass 45 = .ok (.iconst 0, 1) := by decide +kernel
theorem dX3_pass_46 : decode cX3_pass 46 = .ok (.istore_n 3, 1) := by decide +kernel
theorem dX3_pass_47 : decode cX3_pass 47 = .ok (.iload_n 3, 1) := by decide +kernel
theorem dX3_pass_48 : decode cX3_pass 48 = .ok (.iload_n 1, 1) := by decide +kernel
theorem dX3_pass_49 : decode cX3_pass 49 = .ok (.if_icmp .ge 16, 3) := by decide +kernel
theorem dX3_pass_52 : decode cX3_pass 52 = .ok (.iload_n 2, 1) := by decide +kernel
theorem dX3_pass_53 : decode cX3_pass 53 = .ok (.aload_n 0, 1) := by decide +kernel
theorem dX3_pass_54 : decode cX3_pass 54 = .ok (.invokevirtual 226, 3) := by decide +kernel
theorem dX3_pass_57 : decode cX3_pass 57 = .ok (.iadd, 1) := by decide +kernel
theorem dX3_pass_58 : decode cX3_pass 58 = .ok (.istore_n 2, 1) := by decide +kernel
theorem dX3_pass_59 : decode cX3_pass 59 = .ok (.iinc 3 1, 3) := by decide +kernel
theorem dX3_pass_62 : decode cX3_pass 62 = .ok (.goto (-15), 3) := by decide +kernel
theorem dX3_pass_65 : decode cX3_pass 65 = .ok (.iload_n 2, 1) := by decide +kernel
theorem dX3_pass_66 : decode cX3_pass 66 = .ok (.ireturn, 1) := by decide +kernel
theorem dX3_all_0 : decode cX3_all 0 = .ok (.iload_n 1, 1) := by decide +kernel
theorem dX3_all_1 : decode cX3_all 1 = .ok (.ifCond .lt 8, 3) := by decide +kernel
theorem dX3_all_4 : decode cX3_all 4 = .ok (.iload_n 1, 1) := by decide +kernel
theorem dX3_all_5 : decode cX3_all 5 = .ok (.iconst 4, 1) := by decide +kernel
theorem dX3_all_6 : decode cX3_all 6 = .ok (.if_icmp .le 13, 3) := by decide +kernel
theorem dX3_all_9 : decode cX3_all 9 = .ok (.new 58, 3) := by decide +kernel
theorem dX3_all_12 : decode cX3_all 12 = .ok (.dup, 1) := by decide +kernel
theorem dX3_all_13 : decode cX3_all 13 = .ok (.ldc 229, 2) := by decide +kernel
theorem dX3_all_15 : decode cX3_all 15 = .ok (.invokespecial 62, 3) := by decide +kernel
theorem dX3_all_18 : decode cX3_all 18 = .ok (.athrow, 1) := by decide +kernel
theorem dX3_all_19 : decode cX3_all 19 = .ok (.iconst 0, 1) := by decide +kernel
theorem dX3_all_20 : decode cX3_all 20 = .ok (.istore_n 2, 1) := by decide +kernel
theorem dX3_all_21 : decode cX3_all 21 = .ok (.iconst 0, 1) := by decide +kernel
theorem dX3_all_22 : decode cX3_all 22 = .ok (.istore_n 3, 1) := by decide +kernel
theorem dX3_all_23 : decode cX3_all 23 = .ok (.iload_n 3, 1) := by decide +kernel
theorem dX3_all_24 : decode cX3_all 24 = .ok (.aload_n 0, 1) := by decide +kernel
theorem dX3_all_25 : decode cX3_all 25 = .ok (.getfield 30, 3) := by decide +kernel
theorem dX3_all_28 : decode cX3_all 28 = .ok (.invokevirtual 77, 3) := by decide +kernel
theorem dX3_all_31 : decode cX3_all 31 = .ok (.if_icmp .ge 33, 3) := by decide +kernel
theorem dX3_all_34 : decode cX3_all 34 = .ok (.aload_n 0, 1) := by decide +kernel
theorem dX3_all_35 : decode cX3_all 35 = .ok (.getfield 30, 3) := by decide +kernel
theorem dX3_all_38 : decode cX3_all 38 = .ok (.iload_n 3, 1) := by decide +kernel
theorem dX3_all_39 : decode cX3_all 39 = .ok (.invokevirtual 231, 3) := by decide +kernel
theorem dX3_all_42 : decode cX3_all 42 = .ok (.checkcast 112, 3) := by decide +kernel
theorem dX3_all_45 : decode cX3_all 45 = .ok (.getfield 147, 3) := by decide +kernel
theorem dX3_all_48 : decode cX3_all 48 = .ok (.iload_n 1, 1) := by decide +kernel
theorem dX3_all_49 : decode cX3_all 49 = .ok (.if_icmp .ne 9, 3) := by decide +kernel
theorem dX3_all_52 : decode cX3_all 52 = .ok (.iload_n 2, 1) := by decide +kernel
theorem dX3_all_53 : decode cX3_all 53 = .ok (.iconst 1, 1) := by decide +kernel
theorem dX3_all_54 : decode cX3_all 54 = .ok (.iload_n 3, 1) := by decide +kernel
theorem dX3_all_55 : decode cX3_all 55 = .ok (.ishl, 1) := by decide +kernel
theorem dX3_all_56 : decode cX3_all 56 = .ok (.ior, 1) := by decide +kernel
theorem dX3_all_57 : decode cX3_all 57 = .ok (.istore_n 2, 1) := by decide +kernel
theorem dX3_all_58 : decode cX3_all 58 = .ok (.iinc 3 1, 3) := by decide +kernel
theorem dX3_all_61 : decode cX3_all 61 = .ok (.goto (-38), 3) := by decide +kernel
theorem dX3_all_64 : decode cX3_all 64 = .ok (.iload_n 2, 1) := by decide +kernel
theorem dX3_all_65 : decode cX3_all 65 = .ok (.ireturn, 1) := by decide +kernel
theorem dX3_passMinute_0 : decode cX3_passMinute 0 = .ok (.aload_n 0, 1) := by decide +kernel
theorem dX3_passMinute_1 : decode cX3_passMinute 1 = .ok (.invokevirtual 256, 3) := by decide +kernel
theorem dX3_passMinute_4 : decode cX3_passMinute 4 = .ok (.aload_n 0, 1) := by decide +kernel
theorem dX3_passMinute_5 : decode cX3_passMinute 5 = .ok (.invokevirtual 259, 3) := by decide +kernel
theorem dX3_passMinute_8 : decode cX3_passMinute 8 = .ok (.aload_n 0, 1) := by decide +kernel
theorem dX3_passMinute_9 : decode cX3_passMinute 9 = .ok (.getfield 10, 3) := by decide +kernel
theorem dX3_passMinute_12 : decode cX3_passMinute 12 = .ok (.aload_n 0, 1) := by decide +kernel
theorem dX3_passMinute_13 : decode cX3_passMinute 13 = .ok (.getfield 33, 3) := by decide +kernel
theorem dX3_passMinute_16 : decode cX3_passMinute 16 = .ok (.invokevirtual 262, 3) := by decide +kernel
theorem dX3_passMinute_19 : decode cX3_passMinute 19 = .ok (.ifCond .eq 7, 3) := by decide +kernel
theorem dX3_passMinute_22 : decode cX3_passMinute 22 = .ok (.aload_n 0, 1) := by decide +kernel
theorem dX3_passMinute_23 : decode cX3_passMinute 23 = .ok (.invokevirtual 265, 3) := by decide +kernel
theorem dX3_passMinute_26 : decode cX3_passMinute 26 = .ok (.aload_n 0, 1) := by decide +kernel
theorem dX3_passMinute_27 : decode cX3_passMinute 27 = .ok (.invokevirtual 268, 3) := by decide +kernel
theorem dX3_passMinute_30 : decode cX3_passMinute 30 = .ok (.istore_n 1, 1) := by decide +kernel
theorem dX3_passMinute_31 : decode cX3_passMinute 31 = .ok (.aload_n 0, 1) := by decide +kernel
theorem dX3_passMinute_32 : decode cX3_passMinute 32 = .ok (.dup, 1) := by decide +kernel
theorem dX3_passMinute_33 : decode cX3_passMinute 33 = .ok (.getfield 33, 3) := by decide +kernel
theorem dX3_passMinute_36 : decode cX3_passMinute 36 = .ok (.iconst 1, 1) := by decide +kernel
theorem dX3_passMinute_37 : decode cX3_passMinute 37 = .ok (.iadd, 1) := by decide +kernel
theorem dX3_passMinute_38 : decode cX3_passMinute 38 = .ok (.putfield 33, 3) := by decide +kernel
theorem dX3_passMinute_41 : decode cX3_passMinute 41 = .ok (.iload_n 1, 1) := by decide +kernel
theorem dX3_passMinute_42 : decode cX3_passMinute 42 = .ok (.ireturn, 1) := by decide +kernel
theorem dX3_sendHomeAgents_0 : decode cX3_sendHomeAgents 0 = .ok (.iconst 0, 1) := by decide +kernel
theorem dX3_sendHomeAgents_1 : decode cX3_sendHomeAgents 1 = .ok (.istore_n 1, 1) := by decide +kernel
theorem dX3_sendHomeAgents_2 : decode cX3_sendHomeAgents 2 = .ok (.iload_n 1, 1) := by decide +kernel
theorem dX3_sendHomeAgents_3 : decode cX3_sendHomeAgents 3 = .ok (.aload_n 0, 1) := by decide +kernel
theorem dX3_sendHomeAgents_4 : decode cX3_sendHomeAgents 4 = .ok (.getfield 26, 3) := by decide +kernel
theorem dX3_sendHomeAgents_7 : decode cX3_sendHomeAgents 7 = .ok (.invokevirtual 77, 3) := by decide +kernel
theorem dX3_sendHomeAgents_10 : decode cX3_sendHomeAgents 10 = .ok (.if_icmp .ge 45, 3) := by decide +kernel
theorem dX3_sendHomeAgents_13 : decode cX3_sendHomeAgents 13 = .ok (.aload_n 0, 1) := by decide +kernel
theorem dX3_sendHomeAgents_14 : decode cX3_sendHomeAgents 14 = .ok (.getfield 26, 3) := by decide +kernel
theorem dX3_sendHomeAgents_17 : decode cX3_sendHomeAgents 17 = .ok (.iload_n 1, 1) := by decide +kernel
theorem dX3_sendHomeAgents_18 : decode cX3_sendHomeAgents 18 = .ok (.invokevirtual 231, 3) := by decide +kernel
theorem dX3_sendHomeAgents_21 : decode cX3_sendHomeAgents 21 = .ok (.checkcast 86, 3) := by decide +kernel
theorem dX3_sendHomeAgents_24 : decode cX3_sendHomeAgents 24 = .ok (.astore_n 2, 1) := by decide +kernel
theorem dX3_sendHomeAgents_25 : decode cX3_sendHomeAgents 25 = .ok (.aload_n 2, 1) := by decide +kernel
theorem dX3_sendHomeAgents_26 : decode cX3_sendHomeAgents 26 = .ok (.getfield 107, 3) := by decide +kernel
theorem dX3_sendHomeAgents_29 : decode cX3_sendHomeAgents 29 = .ok (.astore_n 3, 1) := by decide +kernel
theorem dX3_sendHomeAgents_30 : decode cX3_sendHomeAgents 30 = .ok (.aload_n 3, 1) := by decide +kernel
theorem dX3_sendHomeAgents_31 : decode cX3_sendHomeAgents 31 = .ok (.ifnull 18, 3) := by decide +kernel
theorem dX3_sendHomeAgents_34 : decode cX3_sendHomeAgents 34 = .ok (.aload_n 2, 1) := by decide +kernel
theorem dX3_sendHomeAgents_35 : decode cX3_sendHomeAgents 35 = .ok (.aload_n 0, 1) := by decide +kernel
theorem dX3_sendHomeAgents_36 : decode cX3_sendHomeAgents 36 = .ok (.getfield 33, 3) := by decide +kernel
theorem dX3_sendHomeAgents_39 : decode cX3_sendHomeAgents 39 = .ok (.invokevirtual 271, 3) := by decide +kernel
theorem dX3_sendHomeAgents_42 : decode cX3_sendHomeAgents 42 = .ok (.ifCond .ne 7, 3) := by decide +kernel
theorem dX3_sendHomeAgents_45 : decode cX3_sendHomeAgents 45 = .ok (.aload_n 3, 1) := by decide +kernel
theorem dX3_sendHomeAgents_46 : decode cX3_sendHomeAgents 46 = .ok (.invokestatic 119, 3) := by decide +kernel
theorem dX3_sendHomeAgents_49 : decode cX3_sendHomeAgents 49 = .ok (.iinc 1 1, 3) := by decide +kernel
theorem dX3_sendHomeAgents_52 : decode cX3_sendHomeAgents 52 = .ok (.goto (-50), 3) := by decide +kernel
theorem dX3_sendHomeAgents_55 : decode cX3_sendHomeAgents 55 = .ok (.return_, 1) := by decide +kernel
theorem dX3_giveOutTickets_0 : decode cX3_giveOutTickets 0 = .ok (.iconst 0, 1) := by decide +kernel
theorem dX3_giveOutTickets_1 : decode cX3_giveOutTickets 1 = .ok (.istore_n 1, 1) := by decide +kernel
theorem dX3_giveOutTickets_2 : decode cX3_giveOutTickets 2 = .ok (.iload_n 1, 1) := by decide +kernel
theorem dX3_giveOutTickets_3 : decode cX3_giveOutTickets 3 = .ok (.aload_n 0, 1) := by decide +kernel
theorem dX3_giveOutTickets_4 : decode cX3_giveOutTickets 4 = .ok (.getfield 26, 3) := by decide +kernel
theorem dX3_giveOutTickets_7 : decode cX3_giveOutTickets 7 = .ok (.invokevirtual 77, 3) := by decide +kernel
theorem dX3_giveOutTickets_10 : decode cX3_giveOutTickets 10 = .ok (.if_icmp .ge 54, 3) := by decide +kernel
theorem dX3_giveOutTickets_13 : decode cX3_giveOutTickets 13 = .ok (.aload_n 0, 1) := by decide +kernel
theorem dX3_giveOutTickets_14 : decode cX3_giveOutTickets 14 = .ok (.getfield 26, 3) := by decide +kernel
theorem dX3_giveOutTickets_17 : decode cX3_giveOutTickets 17 = .ok (.iload_n 1, 1) := by decide +kernel
theorem dX3_giveOutTickets_18 : decode cX3_giveOutTickets 18 = .ok (.invokevirtual 231, 3) := by decide +kernel
theorem dX3_giveOutTickets_21 : decode cX3_giveOutTickets 21 = .ok (.checkcast 86, 3) := by decide +kernel
theorem dX3_giveOutTickets_24 : decode cX3_giveOutTickets 24 = .ok (.astore_n 2, 1) := by decide +kernel
theorem dX3_giveOutTickets_25 : decode cX3_giveOutTickets 25 = .ok (.aload_n 2, 1) := by decide +kernel
theorem dX3_giveOutTickets_26 : decode cX3_giveOutTickets 26 = .ok (.getfield 107, 3) := by decide +kernel
theorem dX3_giveOutTickets_29 : decode cX3_giveOutTickets 29 = .ok (.ifnonnull 29, 3) := by decide +kernel
theorem dX3_giveOutTickets_32 : decode cX3_giveOutTickets 32 = .ok (.aload_n 2, 1) := by decide +kernel
theorem dX3_giveOutTickets_33 : decode cX3_giveOutTickets 33 = .ok (.aload_n 0, 1) := by decide +kernel
theorem dX3_giveOutTickets_34 : decode cX3_giveOutTickets 34 = .ok (.getfield 33, 3) := by decide +kernel
theorem dX3_giveOutTickets_37 : decode cX3_giveOutTickets 37 = .ok (.invokevirtual 271, 3) := by decide +kernel
theorem dX3_giveOutTickets_40 : decode cX3_giveOutTickets 40 = .ok (.ifCond .eq 18, 3) := by decide +kernel
theorem dX3_giveOutTickets_43 : decode cX3_giveOutTickets 43 = .ok (.aload_n 0, 1) := by decide +kernel
theorem dX3_giveOutTickets_44 : decode cX3_giveOutTickets 44 = .ok (.aload_n 2, 1) := by decide +kernel
theorem dX3_giveOutTickets_45 : decode cX3_giveOutTickets 45 = .ok (.invokevirtual 129, 3) := by decide +kernel
theorem dX3_giveOutTickets_48 : decode cX3_giveOutTickets 48 = .ok (.astore_n 3, 1) := by decide +kernel
theorem dX3_giveOutTickets_49 : decode cX3_giveOutTickets 49 = .ok (.aload_n 3, 1) := by decide +kernel
theorem dX3_giveOutTickets_50 : decode cX3_giveOutTickets 50 = .ok (.ifnull 8, 3) := by decide +kernel
theorem dX3_giveOutTickets_53 : decode cX3_giveOutTickets 53 = .ok (.aload_n 3, 1) := by decide +kernel
theorem dX3_giveOutTickets_54 : decode cX3_giveOutTickets 54 = .ok (.aload_n 2, 1) := by decide +kernel
theorem dX3_giveOutTickets_55 : decode cX3_giveOutTickets 55 = .ok (.invokestatic 274, 3) := by decide +kernel
theorem dX3_giveOutTickets_58 : decode cX3_giveOutTickets 58 = .ok (.iinc 1 1, 3) := by decide +kernel
theorem dX3_giveOutTickets_61 : decode cX3_giveOutTickets 61 = .ok (.goto (-59), 3) := by decide +kernel
theorem dX3_giveOutTickets_64 : decode cX3_giveOutTickets 64 = .ok (.return_, 1) := by decide +kernel
theorem dX3_ageTickets_0 : decode cX3_ageTickets 0 = .ok (.iconst 0, 1) := by decide +kernel
theorem dX3_ageTickets_1 : decode cX3_ageTickets 1 = .ok (.istore_n 1, 1) := by decide +kernel
theorem dX3_ageTickets_2 : decode cX3_ageTickets 2 = .ok (.iload_n 1, 1) := by decide +kernel
theorem dX3_ageTickets_3 : decode cX3_ageTickets 3 = .ok (.aload_n 0, 1) := by decide +kernel
theorem dX3_ageTickets_4 : decode cX3_ageTickets 4 = .ok (.getfield 30, 3) := by decide +kernel
theorem dX3_ageTickets_7 : decode cX3_ageTickets 7 = .ok (.invokevirtual 77, 3) := by decide +kernel
theorem dX3_ageTickets_10 : decode cX3_ageTickets 10 = .ok (.if_icmp .ge 46, 3) := by decide +kernel
theorem dX3_ageTickets_13 : decode cX3_ageTickets 13 = .ok (.aload_n 0, 1) := by decide +kernel
theorem dX3_ageTickets_14 : decode cX3_ageTickets 14 = .ok (.getfield 30, 3) := by decide +kernel
theorem dX3_ageTickets_17 : decode cX3_ageTickets 17 = .ok (.iload_n 1, 1) := by decide +kernel
theorem dX3_ageTickets_18 : decode cX3_ageTickets 18 = .ok (.invokevirtual 231, 3) := by decide +kernel
theorem dX3_ageTickets_21 : decode cX3_ageTickets 21 = .ok (.checkcast 112, 3) := by decide +kernel
theorem dX3_ageTickets_24 : decode cX3_ageTickets 24 = .ok (.astore_n 2, 1) := by decide +kernel
theorem dX3_ageTickets_25 : decode cX3_ageTickets 25 = .ok (.aload_n 2, 1) := by decide +kernel
theorem dX3_ageTickets_26 : decode cX3_ageTickets 26 = .ok (.getfield 147, 3) := by decide +kernel
theorem dX3_ageTickets_29 : decode cX3_ageTickets 29 = .ok (.ifCond .eq 11, 3) := by decide +kernel
theorem dX3_ageTickets_32 : decode cX3_ageTickets 32 = .ok (.aload_n 2, 1) := by decide +kernel
theorem dX3_ageTickets_33 : decode cX3_ageTickets 33 = .ok (.getfield 147, 3) := by decide +kernel
theorem dX3_ageTickets_36 : decode cX3_ageTickets 36 = .ok (.iconst 1, 1) := by decide +kernel
theorem dX3_ageTickets_37 : decode cX3_ageTickets 37 = .ok (.if_icmp .ne 13, 3) := by decide +kernel
theorem dX3_ageTickets_40 : decode cX3_ageTickets 40 = .ok (.aload_n 2, 1) := by decide +kernel
theorem dX3_ageTickets_41 : decode cX3_ageTickets 41 = .ok (.dup, 1) := by decide +kernel
theorem dX3_ageTickets_42 : decode cX3_ageTickets 42 = .ok (.getfield 187, 3) := by decide +kernel
theorem dX3_ageTickets_45 : decode cX3_ageTickets 45 = .ok (.iconst 1, 1) := by decide +kernel
theorem dX3_ageTickets_46 : decode cX3_ageTickets 46 = .ok (.iadd, 1) := by decide +kernel
theorem dX3_ageTickets_47 : decode cX3_ageTickets 47 = .ok (.putfield 187, 3) := by decide +kernel
theorem dX3_ageTickets_50 : decode cX3_ageTickets 50 = .ok (.iinc 1 1, 3) := by decide +kernel
theorem dX3_ageTickets_53 : decode cX3_ageTickets 53 = .ok (.goto (-51), 3) := by decide +kernel
theorem dX3_ageTickets_56 : decode cX3_ageTickets 56 = .ok (.return_, 1) := by decide +kernel
theorem dX3_work_0 : decode cX3_work 0 = .ok (.iconst 0, 1) := by decide +kernel
theorem dX3_work_1 : decode cX3_work 1 = .ok (.istore_n 1, 1) := by decide +kernel
theorem dX3_work_2 : decode cX3_work 2 = .ok (.iconst 0, 1) := by decide +kernel
theorem dX3_work_3 : decode cX3_work 3 = .ok (.istore_n 2, 1) := by decide +kernel
theorem dX3_work_4 : decode cX3_work 4 = .ok (.iload_n 2, 1) := by decide +kernel
theorem dX3_work_5 : decode cX3_work 5 = .ok (.aload_n 0, 1) := by decide +kernel
theorem dX3_work_6 : decode cX3_work 6 = .ok (.getfield 26, 3) := by decide +kernel
theorem dX3_work_9 : decode cX3_work 9 = .ok (.invokevirtual 77, 3) := by decide +kernel
theorem dX3_work_12 : decode cX3_work 12 = .ok (.if_icmp .ge 76, 3) := by decide +kernel
theorem dX3_work_15 : decode cX3_work 15 = .ok (.aload_n 0, 1) := by decide +kernel
theorem dX3_work_16 : decode cX3_work 16 = .ok (.getfield 26, 3) := by decide +kernel
theorem dX3_work_19 : decode cX3_work 19 = .ok (.iload_n 2, 1) := by decide +kernel
theorem dX3_work_20 : decode cX3_work 20 = .ok (.invokevirtual 231, 3) := by decide +kernel
theorem dX3_work_23 : decode cX3_work 23 = .ok (.checkcast 86, 3) := by decide +kernel
theorem dX3_work_26 : decode cX3_work 26 = .ok (.astore_n 3, 1) := by decide +kernel
theorem dX3_work_27 : decode cX3_work 27 = .ok (.aload_n 3, 1) := by decide +kernel
theorem dX3_work_28 : decode cX3_work 28 = .ok (.getfield 107, 3) := by decide +kernel
theorem dX3_work_31 : decode cX3_work 31 = .ok (.astore 4, 2) := by decide +kernel
theorem dX3_work_33 : decode cX3_work 33 = .ok (.aload 4, 2) := by decide +kernel
theorem dX3_work_35 : decode cX3_work 35 = .ok (.ifnull 47, 3) := by decide +kernel
theorem dX3_work_38 : decode cX3_work 38 = .ok (.aload_n 3, 1) := by decide +kernel
theorem dX3_work_39 : decode cX3_work 39 = .ok (.dup, 1) := by decide +kernel
theorem dX3_work_40 : decode cX3_work 40 = .ok (.getfield 278, 3) := by decide +kernel
theorem dX3_work_43 : decode cX3_work 43 = .ok (.iconst 1, 1) := by decide +kernel
theorem dX3_work_44 : decode cX3_work 44 = .ok (.iadd, 1) := by decide +kernel
theorem dX3_work_45 : decode cX3_work 45 = .ok (.putfield 278, 3) := by decide +kernel
theorem dX3_work_48 : decode cX3_work 48 = .ok (.aload 4, 2) := by decide +kernel
theorem dX3_work_50 : decode cX3_work 50 = .ok (.dup, 1) := by decide +kernel
theorem dX3_work_51 : decode cX3_work 51 = .ok (.getfield 166, 3) := by decide +kernel
theorem dX3_work_54 : decode cX3_work 54 = .ok (.iconst 1, 1) := by decide +kernel
theorem dX3_work_55 : decode cX3_work 55 = .ok (.iadd, 1) := by decide +kernel
theorem dX3_work_56 : decode cX3_work 56 = .ok (.putfield 166, 3) := by decide +kernel
theorem dX3_work_59 : decode cX3_work 59 = .ok (.aload 4, 2) := by decide +kernel
theorem dX3_work_61 : decode cX3_work 61 = .ok (.getfield 166, 3) := by decide +kernel
theorem dX3_work_64 : decode cX3_work 64 = .ok (.aload 4, 2) := by decide +kernel
theorem dX3_work_66 : decode cX3_work 66 = .ok (.getfield 163, 3) := by decide +kernel
theorem dX3_work_69 : decode cX3_work 69 = .ok (.if_icmp .ne 13, 3) := by decide +kernel
theorem dX3_work_72 : decode cX3_work 72 = .ok (.aload_n 0, 1) := by decide +kernel
theorem dX3_work_73 : decode cX3_work 73 = .ok (.aload 4, 2) := by decide +kernel
theorem dX3_work_75 : decode cX3_work 75 = .ok (.aload_n 3, 1) := by decide +kernel
theorem dX3_work_76 : decode cX3_work 76 = .ok (.invokevirtual 281, 3) := by decide +kernel
theorem dX3_work_79 : decode cX3_work 79 = .ok (.iinc 1 1, 3) := by decide +kernel
theorem dX3_work_82 : decode cX3_work 82 = .ok (.iinc 2 1, 3) := by decide +kernel
theorem dX3_work_85 : decode cX3_work 85 = .ok (.goto (-81), 3) := by decide +kernel
theorem dX3_work_88 : decode cX3_work 88 = .ok (.iload_n 1, 1) := by decide +kernel
theorem dX3_work_89 : decode cX3_work 89 = .ok (.ireturn, 1) := by decide +kernel
theorem dX3_solve_0 : decode cX3_solve 0 = .ok (.aload_n 1, 1) := by decide +kernel
theorem dX3_solve_1 : decode cX3_solve 1 = .ok (.invokestatic 157, 3) := by decide +kernel
theorem dX3_solve_4 : decode cX3_solve 4 = .ok (.aload_n 1, 1) := by decide +kernel
theorem dX3_solve_5 : decode cX3_solve 5 = .ok (.iconst 3, 1) := by decide +kernel
theorem dX3_solve_6 : decode cX3_solve 6 = .ok (.putfield 147, 3) := by decide +kernel
theorem dX3_solve_9 : decode cX3_solve 9 = .ok (.aload_n 1, 1) := by decide +kernel
theorem dX3_solve_10 : decode cX3_solve 10 = .ok (.aload_n 0, 1) := by decide +kernel
theorem dX3_solve_11 : decode cX3_solve 11 = .ok (.getfield 33, 3) := by decide +kernel
theorem dX3_solve_14 : decode cX3_solve 14 = .ok (.iconst 1, 1) := by decide +kernel
theorem dX3_solve_15 : decode cX3_solve 15 = .ok (.iadd, 1) := by decide +kernel
theorem dX3_solve_16 : decode cX3_solve 16 = .ok (.putfield 198, 3) := by decide +kernel
theorem dX3_solve_19 : decode cX3_solve 19 = .ok (.aload_n 2, 1) := by decide +kernel
theorem dX3_solve_20 : decode cX3_solve 20 = .ok (.dup, 1) := by decide +kernel
theorem dX3_solve_21 : decode cX3_solve 21 = .ok (.getfield 284, 3) := by decide +kernel
theorem dX3_solve_24 : decode cX3_solve 24 = .ok (.iconst 1, 1) := by decide +kernel
theorem dX3_solve_25 : decode cX3_solve 25 = .ok (.iadd, 1) := by decide +kernel
theorem dX3_solve_26 : decode cX3_solve 26 = .ok (.putfield 284, 3) := by decide +kernel
theorem dX3_solve_29 : decode cX3_solve 29 = .ok (.return_, 1) := by decide +kernel
theorem dX3_give_0 : decode cX3_give 0 = .ok (.aload_n 1, 1) := by decide +kernel
theorem dX3_give_1 : decode cX3_give 1 = .ok (.aload_n 0, 1) := by decide +kernel
theorem dX3_give_2 : decode cX3_give 2 = .ok (.putfield 107, 3) := by decide +kernel
theorem dX3_give_5 : decode cX3_give 5 = .ok (.aload_n 0, 1) := by decide +kernel
theorem dX3_give_6 : decode cX3_give 6 = .ok (.aload_n 1, 1) := by decide +kernel
theorem dX3_give_7 : decode cX3_give 7 = .ok (.putfield 287, 3) := by decide +kernel
theorem dX3_give_10 : decode cX3_give 10 = .ok (.aload_n 0, 1) := by decide +kernel
theorem dX3_give_11 : decode cX3_give 11 = .ok (.aload_n 1, 1) := by decide +kernel
theorem dX3_give_12 : decode cX3_give 12 = .ok (.putfield 291, 3) := by decide +kernel
theorem dX3_give_15 : decode cX3_give 15 = .ok (.aload_n 0, 1) := by decide +kernel
theorem dX3_give_16 : decode cX3_give 16 = .ok (.iconst 1, 1) := by decide +kernel
theorem dX3_give_17 : decode cX3_give 17 = .ok (.putfield 147, 3) := by decide +kernel
theorem dX3_give_20 : decode cX3_give 20 = .ok (.aload_n 0, 1) := by decide +kernel
theorem dX3_give_21 : decode cX3_give 21 = .ok (.getfield 294, 3) := by decide +kernel
theorem dX3_give_24 : decode cX3_give 24 = .ok (.ifCond .ge 11, 3) := by decide +kernel
theorem dX3_give_27 : decode cX3_give 27 = .ok (.aload_n 0, 1) := by decide +kernel
theorem dX3_give_28 : decode cX3_give 28 = .ok (.aload_n 0, 1) := by decide +kernel
theorem dX3_give_29 : decode cX3_give 29 = .ok (.getfield 187, 3) := by decide +kernel
theorem dX3_give_32 : decode cX3_give 32 = .ok (.putfield 294, 3) := by decide +kernel
theorem dX3_give_35 : decode cX3_give 35 = .ok (.return_, 1) := by decide +kernel
theorem dX3_handBack_0 : decode cX3_handBack 0 = .ok (.aload_n 0, 1) := by decide +kernel
theorem dX3_handBack_1 : decode cX3_handBack 1 = .ok (.invokestatic 157, 3) := by decide +kernel
theorem dX3_handBack_4 : decode cX3_handBack 4 = .ok (.aload_n 0, 1) := by decide +kernel
theorem dX3_handBack_5 : decode cX3_handBack 5 = .ok (.iconst 0, 1) := by decide +kernel
theorem dX3_handBack_6 : decode cX3_handBack 6 = .ok (.putfield 147, 3) := by decide +kernel
theorem dX3_handBack_9 : decode cX3_handBack 9 = .ok (.return_, 1) := by decide +kernel
theorem dX3_takeFromHolder_0 : decode cX3_takeFromHolder 0 = .ok (.aload_n 0, 1) := by decide +kernel
theorem dX3_takeFromHolder_1 : decode cX3_takeFromHolder 1 = .ok (.getfield 287, 3) := by decide +kernel
theorem dX3_takeFromHolder_4 : decode cX3_takeFromHolder 4 = .ok (.astore_n 1, 1) := by decide +kernel
theorem dX3_takeFromHolder_5 : decode cX3_takeFromHolder 5 = .ok (.aload_n 1, 1) := by decide +kernel
theorem dX3_takeFromHolder_6 : decode cX3_takeFromHolder 6 = .ok (.ifnull 13, 3) := by decide +kernel
theorem dX3_takeFromHolder_9 : decode cX3_takeFromHolder 9 = .ok (.aload_n 1, 1) := by decide +kernel
theorem dX3_takeFromHolder_10 : decode cX3_takeFromHolder 10 = .ok (.aconst_null, 1) := by decide +kernel
theorem dX3_takeFromHolder_11 : decode cX3_takeFromHolder 11 = .ok (.putfield 107, 3) := by decide +kernel
theorem dX3_takeFromHolder_14 : decode cX3_takeFromHolder 14 = .ok (.aload_n 0, 1) := by decide +kernel
theorem dX3_takeFromHolder_15 : decode cX3_takeFromHolder 15 = .ok (.aconst_null, 1) := by decide +kernel
theorem dX3_takeFromHolder_16 : decode cX3_takeFromHolder 16 = .ok (.putfield 287, 3) := by decide +kernel
theorem dX3_takeFromHolder_19 : decode cX3_takeFromHolder 19 = .ok (.return_, 1) := by decide +kernel
theorem dX3_firstByLiking_0 : decode cX3_firstByLiking 0 = .ok (.aconst_null, 1) := by decide +kernel
theorem dX3_firstByLiking_1 : decode cX3_firstByLiking 1 = .ok (.astore_n 2, 1) := by decide +kernel
theorem dX3_firstByLiking_2 : decode cX3_firstByLiking 2 = .ok (.iconst 0, 1) := by decide +kernel
theorem dX3_firstByLiking_3 : decode cX3_firstByLiking 3 = .ok (.istore_n 3, 1) := by decide +kernel
theorem dX3_firstByLiking_4 : decode cX3_firstByLiking 4 = .ok (.iload_n 3, 1) := by decide +kernel
theorem dX3_firstByLiking_5 : decode cX3_firstByLiking 5 = .ok (.aload_n 0, 1) := by decide +kernel
theorem dX3_firstByLiking_6 : decode cX3_firstByLiking 6 = .ok (.getfield 30, 3) := by decide +kernel
theorem dX3_firstByLiking_9 : decode cX3_firstByLiking 9 = .ok (.invokevirtual 77, 3) := by decide +kernel
theorem dX3_firstByLiking_12 : decode cX3_firstByLiking 12 = .ok (.if_icmp .ge 60, 3) := by decide +kernel
theorem dX3_firstByLiking_15 : decode cX3_firstByLiking 15 = .ok (.aload_n 0, 1) := by decide +kernel
theorem dX3_firstByLiking_16 : decode cX3_firstByLiking 16 = .ok (.getfield 30, 3) := by decide +kernel
theorem dX3_firstByLiking_19 : decode cX3_firstByLiking 19 = .ok (.iload_n 3, 1) := by decide +kernel
theorem dX3_firstByLiking_20 : decode cX3_firstByLiking 20 = .ok (.invokevirtual 231, 3) := by decide +kernel
theorem dX3_firstByLiking_23 : decode cX3_firstByLiking 23 = .ok (.checkcast 112, 3) := by decide +kernel
theorem dX3_firstByLiking_26 : decode cX3_firstByLiking 26 = .ok (.astore 4, 2) := by decide +kernel
theorem dX3_firstByLiking_28 : decode cX3_firstByLiking 28 = .ok (.aload 4, 2) := by decide +kernel
theorem dX3_firstByLiking_30 : decode cX3_firstByLiking 30 = .ok (.getfield 147, 3) := by decide +kernel
theorem dX3_firstByLiking_33 : decode cX3_firstByLiking 33 = .ok (.ifCond .ne 33, 3) := by decide +kernel
theorem dX3_firstByLiking_36 : decode cX3_firstByLiking 36 = .ok (.aload_n 1, 1) := by decide +kernel
theorem dX3_firstByLiking_37 : decode cX3_firstByLiking 37 = .ok (.aload 4, 2) := by decide +kernel
theorem dX3_firstByLiking_39 : decode cX3_firstByLiking 39 = .ok (.getfield 111, 3) := by decide +kernel
theorem dX3_firstByLiking_42 : decode cX3_firstByLiking 42 = .ok (.invokevirtual 116, 3) := by decide +kernel
theorem dX3_firstByLiking_45 : decode cX3_firstByLiking 45 = .ok (.ifCond .eq 21, 3) := by decide +kernel
theorem dX3_firstByLiking_48 : decode cX3_firstByLiking 48 = .ok (.aload_n 2, 1) := by decide +kernel
theorem dX3_firstByLiking_49 : decode cX3_firstByLiking 49 = .ok (.ifnull 14, 3) := by decide +kernel
theorem dX3_firstByLiking_52 : decode cX3_firstByLiking 52 = .ok (.aload_n 0, 1) := by decide +kernel
theorem dX3_firstByLiking_53 : decode cX3_firstByLiking 53 = .ok (.aload_n 1, 1) := by decide +kernel
theorem dX3_firstByLiking_54 : decode cX3_firstByLiking 54 = .ok (.aload 4, 2) := by decide +kernel
theorem dX3_firstByLiking_56 : decode cX3_firstByLiking 56 = .ok (.aload_n 2, 1) := by decide +kernel
theorem dX3_firstByLiking_57 : decode cX3_firstByLiking 57 = .ok (.invokevirtual 297, 3) := by decide +kernel
theorem dX3_firstByLiking_60 : decode cX3_firstByLiking 60 = .ok (.ifCond .eq 6, 3) := by decide +kernel
theorem dX3_firstByLiking_63 : decode cX3_firstByLiking 63 = .ok (.aload 4, 2) := by decide +kernel
theorem dX3_firstByLiking_65 : decode cX3_firstByLiking 65 = .ok (.astore_n 2, 1) := by decide +kernel
theorem dX3_firstByLiking_66 : decode cX3_firstByLiking 66 = .ok (.iinc 3 1, 3) := by decide +kernel
theorem dX3_firstByLiking_69 : decode cX3_firstByLiking 69 = .ok (.goto (-65), 3) := by decide +kernel
theorem dX3_firstByLiking_72 : decode cX3_firstByLiking 72 = .ok (.aload_n 2, 1) := by decide +kernel
theorem dX3_firstByLiking_73 : decode cX3_firstByLiking 73 = .ok (.areturn, 1) := by decide +kernel
theorem dX3_isLikedMore_0 : decode cX3_isLikedMore 0 = .ok (.aload_n 2, 1) := by decide +kernel
theorem dX3_isLikedMore_1 : decode cX3_isLikedMore 1 = .ok (.getfield 291, 3) := by decide +kernel
theorem dX3_isLikedMore_4 : decode cX3_isLikedMore 4 = .ok (.aload_n 1, 1) := by decide +kernel
theorem dX3_isLikedMore_5 : decode cX3_isLikedMore 5 = .ok (.if_acmp .ne 7, 3) := by decide +kernel
theorem dX3_isLikedMore_8 : decode cX3_isLikedMore 8 = .ok (.iconst 1, 1) := by decide +kernel
theorem dX3_isLikedMore_9 : decode cX3_isLikedMore 9 = .ok (.goto 4, 3) := by decide +kernel
theorem dX3_isLikedMore_12 : decode cX3_isLikedMore 12 = .ok (.iconst 0, 1) := by decide +kernel
theorem dX3_isLikedMore_13 : decode cX3_isLikedMore 13 = .ok (.istore 4, 2) := by decide +kernel
theorem dX3_isLikedMore_15 : decode cX3_isLikedMore 15 = .ok (.aload_n 3, 1) := by decide +kernel
theorem dX3_isLikedMore_16 : decode cX3_isLikedMore 16 = .ok (.getfield 291, 3) := by decide +kernel
theorem dX3_isLikedMore_19 : decode cX3_isLikedMore 19 = .ok (.aload_n 1, 1) := by decide +kernel
theorem dX3_isLikedMore_20 : decode cX3_isLikedMore 20 = .ok (.if_acmp .ne 7, 3) := by decide +kernel
theorem dX3_isLikedMore_23 : decode cX3_isLikedMore 23 = .ok (.iconst 1, 1) := by decide +kernel
theorem dX3_isLikedMore_24 : decode cX3_isLikedMore 24 = .ok (.goto 4, 3) := by decide +kernel
theorem dX3_isLikedMore_27 : decode cX3_isLikedMore 27 = .ok (.iconst 0, 1) := by decide +kernel
theorem dX3_isLikedMore_28 : decode cX3_isLikedMore 28 = .ok (.istore 5, 2) := by decide +kernel
theorem dX3_isLikedMore_30 : decode cX3_isLikedMore 30 = .ok (.iload 4, 2) := by decide +kernel
theorem dX3_isLikedMore_32 : decode cX3_isLikedMore 32 = .ok (.iload 5, 2) := by decide +kernel
theorem dX3_isLikedMore_34 : decode cX3_isLikedMore 34 = .ok (.if_icmp .eq 6, 3) := by decide +kernel
theorem dX3_isLikedMore_37 : decode cX3_isLikedMore 37 = .ok (.iload 4, 2) := by decide +kernel
theorem dX3_isLikedMore_39 : decode cX3_isLikedMore 39 = .ok (.ireturn, 1) := by decide +kernel
theorem dX3_isLikedMore_40 : decode cX3_isLikedMore 40 = .ok (.aload_n 0, 1) := by decide +kernel
theorem dX3_isLikedMore_41 : decode cX3_isLikedMore 41 = .ok (.aload_n 2, 1) := by decide +kernel
theorem dX3_isLikedMore_42 : decode cX3_isLikedMore 42 = .ok (.invokevirtual 216, 3) := by decide +kernel
theorem dX3_isLikedMore_45 : decode cX3_isLikedMore 45 = .ok (.aload_n 0, 1) := by decide +kernel
theorem dX3_isLikedMore_46 : decode cX3_isLikedMore 46 = .ok (.aload_n 3, 1) := by decide +kernel
theorem dX3_isLikedMore_47 : decode cX3_isLikedMore 47 = .ok (.invokevirtual 216, 3) := by decide +kernel
theorem dX3_isLikedMore_50 : decode cX3_isLikedMore 50 = .ok (.if_icmp .ge 7, 3) := by decide +kernel
theorem dX3_isLikedMore_53 : decode cX3_isLikedMore 53 = .ok (.iconst 1, 1) := by decide +kernel
theorem dX3_isLikedMore_54 : decode cX3_isLikedMore 54 = .ok (.goto 4, 3) := by decide +kernel
theorem dX3_isLikedMore_57 : decode cX3_isLikedMore 57 = .ok (.iconst 0, 1) := by decide +kernel
theorem dX3_isLikedMore_58 : decode cX3_isLikedMore 58 = .ok (.ireturn, 1) := by decide +kernel
theorem dX3_slackOf_0 : decode cX3_slackOf 0 = .ok (.aload_n 0, 1) := by decide +kernel
theorem dX3_slackOf_1 : decode cX3_slackOf 1 = .ok (.getfield 20, 3) := by decide +kernel
theorem dX3_slackOf_4 : decode cX3_slackOf 4 = .ok (.aload_n 1, 1) := by decide +kernel
theorem dX3_slackOf_5 : decode cX3_slackOf 5 = .ok (.getfield 152, 3) := by decide +kernel
theorem dX3_slackOf_8 : decode cX3_slackOf 8 = .ok (.iaload, 1) := by decide +kernel
theorem dX3_slackOf_9 : decode cX3_slackOf 9 = .ok (.aload_n 1, 1) := by decide +kernel
theorem dX3_slackOf_10 : decode cX3_slackOf 10 = .ok (.getfield 187, 3) := by decide +kernel
theorem dX3_slackOf_13 : decode cX3_slackOf 13 = .ok (.isub, 1) := by decide +kernel
theorem dX3_slackOf_14 : decode cX3_slackOf 14 = .ok (.ireturn, 1) := by decide +kernel
theorem dX3_toldOfAgent_0 : decode cX3_toldOfAgent 0 = .ok (.iload_n 2, 1) := by decide +kernel
theorem dX3_toldOfAgent_1 : decode cX3_toldOfAgent 1 = .ok (.tableswitch 45 0 2 #[27, 35, 40], 27) := by decide +kernel
theorem dX3_toldOfAgent_28 : decode cX3_toldOfAgent 28 = .ok (.aload_n 1, 1) := by decide +kernel
theorem dX3_toldOfAgent_29 : decode cX3_toldOfAgent 29 = .ok (.getfield 107, 3) := by decide +kernel
theorem dX3_toldOfAgent_32 : decode cX3_toldOfAgent 32 = .ok (.invokestatic 133, 3) := by decide +kernel
theorem dX3_toldOfAgent_35 : decode cX3_toldOfAgent 35 = .ok (.ireturn, 1) := by decide +kernel
theorem dX3_toldOfAgent_36 : decode cX3_toldOfAgent 36 = .ok (.aload_n 1, 1) := by decide +kernel
theorem dX3_toldOfAgent_37 : decode cX3_toldOfAgent 37 = .ok (.getfield 278, 3) := by decide +kernel
theorem dX3_toldOfAgent_40 : decode cX3_toldOfAgent 40 = .ok (.ireturn, 1) := by decide +kernel
theorem dX3_toldOfAgent_41 : decode cX3_toldOfAgent 41 = .ok (.aload_n 1, 1) := by decide +kernel
theorem dX3_toldOfAgent_42 : decode cX3_toldOfAgent 42 = .ok (.getfield 284, 3) := by decide +kernel
theorem dX3_toldOfAgent_45 : decode cX3_toldOfAgent 45 = .ok (.ireturn, 1) := by decide +kernel
theorem dX3_toldOfAgent_46 : decode cX3_toldOfAgent 46 = .ok (.aload_n 1, 1) := by decide +kernel
theorem dX3_toldOfAgent_47 : decode cX3_toldOfAgent 47 = .ok (.aload_n 0, 1) := by decide +kernel
theorem dX3_toldOfAgent_48 : decode cX3_toldOfAgent 48 = .ok (.getfield 33, 3) := by decide +kernel
theorem dX3_toldOfAgent_51 : decode cX3_toldOfAgent 51 = .ok (.invokevirtual 271, 3) := by decide +kernel
theorem dX3_toldOfAgent_54 : decode cX3_toldOfAgent 54 = .ok (.ifCond .eq 7, 3) := by decide +kernel
theorem dX3_toldOfAgent_57 : decode cX3_toldOfAgent 57 = .ok (.iconst 1, 1) := by decide +kernel
theorem dX3_toldOfAgent_58 : decode cX3_toldOfAgent 58 = .ok (.goto 4, 3) := by decide +kernel
theorem dX3_toldOfAgent_61 : decode cX3_toldOfAgent 61 = .ok (.iconst 0, 1) := by decide +kernel
theorem dX3_toldOfAgent_62 : decode cX3_toldOfAgent 62 = .ok (.ireturn, 1) := by decide +kernel
theorem dX3_toldOfTicket_0 : decode cX3_toldOfTicket 0 = .ok (.iload_n 1, 1) := by decide +kernel
theorem dX3_toldOfTicket_1 : decode cX3_toldOfTicket 1 = .ok (.tableswitch 81 0 6 #[43, 48, 56, 61, 66, 71, 76], 43) := by decide +kernel
theorem dX3_toldOfTicket_44 : decode cX3_toldOfTicket 44 = .ok (.aload_n 0, 1) := by decide +kernel
theorem dX3_toldOfTicket_45 : decode cX3_toldOfTicket 45 = .ok (.getfield 147, 3) := by decide +kernel
theorem dX3_toldOfTicket_48 : decode cX3_toldOfTicket 48 = .ok (.ireturn, 1) := by decide +kernel
theorem dX3_toldOfTicket_49 : decode cX3_toldOfTicket 49 = .ok (.aload_n 0, 1) := by decide +kernel
theorem dX3_toldOfTicket_50 : decode cX3_toldOfTicket 50 = .ok (.getfield 287, 3) := by decide +kernel
theorem dX3_toldOfTicket_53 : decode cX3_toldOfTicket 53 = .ok (.invokestatic 301, 3) := by decide +kernel
theorem dX3_toldOfTicket_56 : decode cX3_toldOfTicket 56 = .ok (.ireturn, 1) := by decide +kernel
theorem dX3_toldOfTicket_57 : decode cX3_toldOfTicket 57 = .ok (.aload_n 0, 1) := by decide +kernel
theorem dX3_toldOfTicket_58 : decode cX3_toldOfTicket 58 = .ok (.getfield 152, 3) := by decide +kernel
theorem dX3_toldOfTicket_61 : decode cX3_toldOfTicket 61 = .ok (.ireturn, 1) := by decide +kernel
theorem dX3_toldOfTicket_62 : decode cX3_toldOfTicket 62 = .ok (.aload_n 0, 1) := by decide +kernel
theorem dX3_toldOfTicket_63 : decode cX3_toldOfTicket 63 = .ok (.getfield 187, 3) := by decide +kernel
theorem dX3_toldOfTicket_66 : decode cX3_toldOfTicket 66 = .ok (.ireturn, 1) := by decide +kernel
theorem dX3_toldOfTicket_67 : decode cX3_toldOfTicket 67 = .ok (.aload_n 0, 1) := by decide +kernel
theorem dX3_toldOfTicket_68 : decode cX3_toldOfTicket 68 = .ok (.getfield 166, 3) := by decide +kernel
theorem dX3_toldOfTicket_71 : decode cX3_toldOfTicket 71 = .ok (.ireturn, 1) := by decide +kernel
theorem dX3_toldOfTicket_72 : decode cX3_toldOfTicket 72 = .ok (.aload_n 0, 1) := by decide +kernel
theorem dX3_toldOfTicket_73 : decode cX3_toldOfTicket 73 = .ok (.getfield 163, 3) := by decide +kernel
theorem dX3_toldOfTicket_76 : decode cX3_toldOfTicket 76 = .ok (.ireturn, 1) := by decide +kernel
theorem dX3_toldOfTicket_77 : decode cX3_toldOfTicket 77 = .ok (.aload_n 0, 1) := by decide +kernel
theorem dX3_toldOfTicket_78 : decode cX3_toldOfTicket 78 = .ok (.getfield 294, 3) := by decide +kernel
theorem dX3_toldOfTicket_81 : decode cX3_toldOfTicket 81 = .ok (.ireturn, 1) := by decide +kernel
theorem dX3_toldOfTicket_82 : decode cX3_toldOfTicket 82 = .ok (.aload_n 0, 1) := by decide +kernel
theorem dX3_toldOfTicket_83 : decode cX3_toldOfTicket 83 = .ok (.getfield 203, 3) := by decide +kernel
theorem dX3_toldOfTicket_86 : decode cX3_toldOfTicket 86 = .ok (.ireturn, 1) := by decide +kernel
theorem dX3_numberOfAgent_0 : decode cX3_numberOfAgent 0 = .ok (.aload_n 0, 1) := by decide +kernel
theorem dX3_numberOfAgent_1 : decode cX3_numberOfAgent 1 = .ok (.ifnonnull 7, 3) := by decide +kernel
theorem dX3_numberOfAgent_4 : decode cX3_numberOfAgent 4 = .ok (.iconst (-1), 1) := by decide +kernel
theorem dX3_numberOfAgent_5 : decode cX3_numberOfAgent 5 = .ok (.goto 7, 3) := by decide +kernel
theorem dX3_numberOfAgent_8 : decode cX3_numberOfAgent 8 = .ok (.aload_n 0, 1) := by decide +kernel
theorem dX3_numberOfAgent_9 : decode cX3_numberOfAgent 9 = .ok (.getfield 95, 3) := by decide +kernel
theorem dX3_numberOfAgent_12 : decode cX3_numberOfAgent 12 = .ok (.ireturn, 1) := by decide +kernel
theorem dX3_numberOfTicket_0 : decode cX3_numberOfTicket 0 = .ok (.aload_n 0, 1) := by decide +kernel
theorem dX3_numberOfTicket_1 : decode cX3_numberOfTicket 1 = .ok (.ifnonnull 7, 3) := by decide +kernel
theorem dX3_numberOfTicket_4 : decode cX3_numberOfTicket 4 = .ok (.iconst (-1), 1) := by decide +kernel
theorem dX3_numberOfTicket_5 : decode cX3_numberOfTicket 5 = .ok (.goto 7, 3) := by decide +kernel
theorem dX3_numberOfTicket_8 : decode cX3_numberOfTicket 8 = .ok (.aload_n 0, 1) := by decide +kernel
theorem dX3_numberOfTicket_9 : decode cX3_numberOfTicket 9 = .ok (.getfield 142, 3) := by decide +kernel
theorem dX3_numberOfTicket_12 : decode cX3_numberOfTicket 12 = .ok (.ireturn, 1) := by decide +kernel
theorem dX3_agentAt_0 : decode cX3_agentAt 0 = .ok (.iload_n 1, 1) := by decide +kernel
theorem dX3_agentAt_1 : decode cX3_agentAt 1 = .ok (.ifCond .lt 14, 3) := by decide +kernel
theorem dX3_agentAt_4 : decode cX3_agentAt 4 = .ok (.iload_n 1, 1) := by decide +kernel
theorem dX3_agentAt_5 : decode cX3_agentAt 5 = .ok (.aload_n 0, 1) := by decide +kernel
theorem dX3_agentAt_6 : decode cX3_agentAt 6 = .ok (.getfield 26, 3) := by decide +kernel
theorem dX3_agentAt_9 : decode cX3_agentAt 9 = .ok (.invokevirtual 77, 3) := by decide +kernel
theorem dX3_agentAt_12 : decode cX3_agentAt 12 = .ok (.if_icmp .lt 14, 3) := by decide +kernel
theorem dX3_agentAt_15 : decode cX3_agentAt 15 = .ok (.new 58, 3) := by decide +kernel
theorem dX3_agentAt_18 : decode cX3_agentAt 18 = .ok (.dup, 1) := by decide +kernel
theorem dX3_agentAt_19 : decode cX3_agentAt 19 = .ok (.ldc_w 307, 3) := by decide +kernel
theorem dX3_agentAt_22 : decode cX3_agentAt 22 = .ok (.invokespecial 62, 3) := by decide +kernel
theorem dX3_agentAt_25 : decode cX3_agentAt 25 = .ok (.athrow, 1) := by decide +kernel
theorem dX3_agentAt_26 : decode cX3_agentAt 26 = .ok (.aload_n 0, 1) := by decide +kernel
theorem dX3_agentAt_27 : decode cX3_agentAt 27 = .ok (.getfield 26, 3) := by decide +kernel
theorem dX3_agentAt_30 : decode cX3_agentAt 30 = .ok (.iload_n 1, 1) := by decide +kernel
theorem dX3_agentAt_31 : decode cX3_agentAt 31 = .ok (.invokevirtual 231, 3) := by decide +kernel
theorem dX3_agentAt_34 : decode cX3_agentAt 34 = .ok (.checkcast 86, 3) := by decide +kernel
theorem dX3_agentAt_37 : decode cX3_agentAt 37 = .ok (.areturn, 1) := by decide +kernel
theorem dX3_ticketAt_0 : decode cX3_ticketAt 0 = .ok (.iload_n 1, 1) := by decide +kernel
theorem dX3_ticketAt_1 : decode cX3_ticketAt 1 = .ok (.ifCond .lt 14, 3) := by decide +kernel
theorem dX3_ticketAt_4 : decode cX3_ticketAt 4 = .ok (.iload_n 1, 1) := by decide +kernel
theorem dX3_ticketAt_5 : decode cX3_ticketAt 5 = .ok (.aload_n 0, 1) := by decide +kernel
theorem dX3_ticketAt_6 : decode cX3_ticketAt 6 = .ok (.getfield 30, 3) := by decide +kernel
theorem dX3_ticketAt_9 : decode cX3_ticketAt 9 = .ok (.invokevirtual 77, 3) := by decide +kernel
theorem dX3_ticketAt_12 : decode cX3_ticketAt 12 = .ok (.if_icmp .lt 14, 3) := by decide +kernel
theorem dX3_ticketAt_15 : decode cX3_ticketAt 15 = .ok (.new 58, 3) := by decide +kernel
theorem dX3_ticketAt_18 : decode cX3_ticketAt 18 = .ok (.dup, 1) := by decide +kernel
theorem dX3_ticketAt_19 : decode cX3_ticketAt 19 = .ok (.ldc_w 309, 3) := by decide +kernel
theorem dX3_ticketAt_22 : decode cX3_ticketAt 22 = .ok (.invokespecial 62, 3) := by decide +kernel
theorem dX3_ticketAt_25 : decode cX3_ticketAt 25 = .ok (.athrow, 1) := by decide +kernel
theorem dX3_ticketAt_26 : decode cX3_ticketAt 26 = .ok (.aload_n 0, 1) := by decide +kernel
theorem dX3_ticketAt_27 : decode cX3_ticketAt 27 = .ok (.getfield 30, 3) := by decide +kernel
theorem dX3_ticketAt_30 : decode cX3_ticketAt 30 = .ok (.iload_n 1, 1) := by decide +kernel
theorem dX3_ticketAt_31 : decode cX3_ticketAt 31 = .ok (.invokevirtual 231, 3) := by decide +kernel
theorem dX3_ticketAt_34 : decode cX3_ticketAt 34 = .ok (.checkcast 112, 3) := by decide +kernel
theorem dX3_ticketAt_37 : decode cX3_ticketAt 37 = .ok (.areturn, 1) := by decide +kernel
theorem dX3_isPriority_0 : decode cX3_isPriority 0 = .ok (.iload_n 0, 1) := by decide +kernel
theorem dX3_isPriority_1 : decode cX3_isPriority 1 = .ok (.ifCond .lt 12, 3) := by decide +kernel
theorem dX3_isPriority_4 : decode cX3_isPriority 4 = .ok (.iload_n 0, 1) := by decide +kernel
theorem dX3_isPriority_5 : decode cX3_isPriority 5 = .ok (.iconst 4, 1) := by decide +kernel
theorem dX3_isPriority_6 : decode cX3_isPriority 6 = .ok (.if_icmp .ge 7, 3) := by decide +kernel
theorem dX3_isPriority_9 : decode cX3_isPriority 9 = .ok (.iconst 1, 1) := by decide +kernel
theorem dX3_isPriority_10 : decode cX3_isPriority 10 = .ok (.goto 4, 3) := by decide +kernel
theorem dX3_isPriority_13 : decode cX3_isPriority 13 = .ok (.iconst 0, 1) := by decide +kernel
theorem dX3_isPriority_14 : decode cX3_isPriority 14 = .ok (.ireturn, 1) := by decide +kernel
theorem dX3_isSetOfSkills_0 : decode cX3_isSetOfSkills 0 = .ok (.iload_n 0, 1) := by decide +kernel
theorem dX3_isSetOfSkills_1 : decode cX3_isSetOfSkills 1 = .ok (.ifCond .lt 14, 3) := by decide +kernel
theorem dX3_isSetOfSkills_4 : decode cX3_isSetOfSkills 4 = .ok (.iload_n 0, 1) := by decide +kernel
theorem dX3_isSetOfSkills_5 : decode cX3_isSetOfSkills 5 = .ok (.sipush 255, 3) := by decide +kernel
theorem dX3_isSetOfSkills_8 : decode cX3_isSetOfSkills 8 = .ok (.if_icmp .gt 7, 3) := by decide +kernel
theorem dX3_isSetOfSkills_11 : decode cX3_isSetOfSkills 11 = .ok (.iconst 1, 1) := by decide +kernel
theorem dX3_isSetOfSkills_12 : decode cX3_isSetOfSkills 12 = .ok (.goto 4, 3) := by decide +kernel
theorem dX3_isSetOfSkills_15 : decode cX3_isSetOfSkills 15 = .ok (.iconst 0, 1) := by decide +kernel
theorem dX3_isSetOfSkills_16 : decode cX3_isSetOfSkills 16 = .ok (.ireturn, 1) := by decide +kernel
theorem dX3_isSpanOfDay_0 : decode cX3_isSpanOfDay 0 = .ok (.iload_n 0, 1) := by decide +kernel
theorem dX3_isSpanOfDay_1 : decode cX3_isSpanOfDay 1 = .ok (.ifCond .lt 26, 3) := by decide +kernel
theorem dX3_isSpanOfDay_4 : decode cX3_isSpanOfDay 4 = .ok (.iload_n 0, 1) := by decide +kernel
theorem dX3_isSpanOfDay_5 : decode cX3_isSpanOfDay 5 = .ok (.sipush 1440, 3) := by decide +kernel
theorem dX3_isSpanOfDay_8 : decode cX3_isSpanOfDay 8 = .ok (.if_icmp .ge 19, 3) := by decide +kernel
theorem dX3_isSpanOfDay_11 : decode cX3_isSpanOfDay 11 = .ok (.iload_n 1, 1) := by decide +kernel
theorem dX3_isSpanOfDay_12 : decode cX3_isSpanOfDay 12 = .ok (.iload_n 0, 1) := by decide +kernel
theorem dX3_isSpanOfDay_13 : decode cX3_isSpanOfDay 13 = .ok (.if_icmp .le 14, 3) := by decide +kernel
theorem dX3_isSpanOfDay_16 : decode cX3_isSpanOfDay 16 = .ok (.iload_n 1, 1) := by decide +kernel
theorem dX3_isSpanOfDay_17 : decode cX3_isSpanOfDay 17 = .ok (.sipush 1440, 3) := by decide +kernel
theorem dX3_isSpanOfDay_20 : decode cX3_isSpanOfDay 20 = .ok (.if_icmp .gt 7, 3) := by decide +kernel
theorem dX3_isSpanOfDay_23 : decode cX3_isSpanOfDay 23 = .ok (.iconst 1, 1) := by decide +kernel
theorem dX3_isSpanOfDay_24 : decode cX3_isSpanOfDay 24 = .ok (.goto 4, 3) := by decide +kernel
theorem dX3_isSpanOfDay_27 : decode cX3_isSpanOfDay 27 = .ok (.iconst 0, 1) := by decide +kernel
theorem dX3_isSpanOfDay_28 : decode cX3_isSpanOfDay 28 = .ok (.ireturn, 1) := by decide +kernel
theorem dX3_dayOfWeek_0 : decode cX3_dayOfWeek 0 = .ok (.iload_n 0, 1) := by decide +kernel
theorem dX3_dayOfWeek_1 : decode cX3_dayOfWeek 1 = .ok (.sipush 1440, 3) := by decide +kernel
theorem dX3_dayOfWeek_4 : decode cX3_dayOfWeek 4 = .ok (.idiv, 1) := by decide +kernel
theorem dX3_dayOfWeek_5 : decode cX3_dayOfWeek 5 = .ok (.bipush 7, 2) := by decide +kernel
theorem dX3_dayOfWeek_7 : decode cX3_dayOfWeek 7 = .ok (.irem, 1) := by decide +kernel
theorem dX3_dayOfWeek_8 : decode cX3_dayOfWeek 8 = .ok (.ireturn, 1) := by decide +kernel
theorem dJ9_max_7cf53_0 : decode cJ9_max_7cf53 0 = .ok (.iload_n 0, 1) := by decide +kernel
theorem dJ9_max_7cf53_1 : decode cJ9_max_7cf53 1 = .ok (.iload_n 1, 1) := by decide +kernel
theorem dJ9_max_7cf53_2 : decode cJ9_max_7cf53 2 = .ok (.if_icmp .lt 7, 3) := by decide +kernel
theorem dJ9_max_7cf53_5 : decode cJ9_max_7cf53 5 = .ok (.iload_n 0, 1) := by decide +kernel
theorem dJ9_max_7cf53_6 : decode cJ9_max_7cf53 6 = .ok (.goto 4, 3) := by decide +kernel
theorem dJ9_max_7cf53_9 : decode cJ9_max_7cf53 9 = .ok (.iload_n 1, 1) := by decide +kernel
theorem dJ9_max_7cf53_10 : decode cJ9_max_7cf53 10 = .ok (.ireturn, 1) := by decide +kernel
theorem dJ9_min_7cf53_0 : decode cJ9_min_7cf53 0 = .ok (.iload_n 0, 1) := by decide +kernel
theorem dJ9_min_7cf53_1 : decode cJ9_min_7cf53 1 = .ok (.iload_n 1, 1) := by decide +kernel
theorem dJ9_min_7cf53_2 : decode cJ9_min_7cf53 2 = .ok (.if_icmp .gt 7, 3) := by decide +kernel
theorem dJ9_min_7cf53_5 : decode cJ9_min_7cf53 5 = .ok (.iload_n 0, 1) := by decide +kernel
theorem dJ9_min_7cf53_6 : decode cJ9_min_7cf53 6 = .ok (.goto 4, 3) := by decide +kernel
theorem dJ9_min_7cf53_9 : decode cJ9_min_7cf53 9 = .ok (.iload_n 1, 1) := by decide +kernel
theorem dJ9_min_7cf53_10 : decode cJ9_min_7cf53 10 = .ok (.ireturn, 1) := by decide +kernel
theorem dJxa1e45_init_da8c8_0 : decode cJxa1e45_init_da8c8 0 = .ok (.aload_n 0, 1) := by decide +kernel
theorem dJxa1e45_init_da8c8_1 : decode cJxa1e45_init_da8c8 1 = .ok (.invokespecial 1, 3) := by decide +kernel
theorem dJxa1e45_init_da8c8_4 : decode cJxa1e45_init_da8c8 4 = .ok (.return_, 1) := by decide +kernel
theorem dJxc12de_init_da8c8_0 : decode cJxc12de_init_da8c8 0 = .ok (.aload_n 0, 1) := by decide +kernel
theorem dJxc12de_init_da8c8_1 : decode cJxc12de_init_da8c8 1 = .ok (.invokespecial 1, 3) := by decide +kernel
theorem dJxc12de_init_da8c8_4 : decode cJxc12de_init_da8c8 4 = .ok (.aload_n 0, 1) := by decide +kernel
theorem dJxc12de_init_da8c8_5 : decode cJxc12de_init_da8c8 5 = .ok (.iconst 0, 1) := by decide +kernel
theorem dJxc12de_init_da8c8_6 : decode cJxc12de_init_da8c8 6 = .ok (.putfield 7, 3) := by decide +kernel
theorem dJxc12de_init_da8c8_9 : decode cJxc12de_init_da8c8 9 = .ok (.return_, 1) := by decide +kernel
theorem dJx4a65c_init_da8c8_0 : decode cJx4a65c_init_da8c8 0 = .ok (.aload_n 0, 1) := by decide +kernel
theorem dJx4a65c_init_da8c8_1 : decode cJx4a65c_init_da8c8 1 = .ok (.invokespecial 1, 3) := by decide +kernel
theorem dJx4a65c_init_da8c8_4 : decode cJx4a65c_init_da8c8 4 = .ok (.aload_n 0, 1) := by decide +kernel
theorem dJx4a65c_init_da8c8_5 : decode cJx4a65c_init_da8c8 5 = .ok (.getstatic 39, 3) := by decide +kernel
theorem dJx4a65c_init_da8c8_8 : decode cJx4a65c_init_da8c8 8 = .ok (.putfield 9, 3) := by decide +kernel
theorem dJx4a65c_init_da8c8_11 : decode cJx4a65c_init_da8c8 11 = .ok (.return_, 1) := by decide +kernel
theorem dJx4a65c_grow_92f84_0 : decode cJx4a65c_grow_92f84 0 = .ok (.aload_n 0, 1) := by decide +kernel
theorem dJx4a65c_grow_92f84_1 : decode cJx4a65c_grow_92f84 1 = .ok (.getfield 9, 3) := by decide +kernel
theorem dJx4a65c_grow_92f84_4 : decode cJx4a65c_grow_92f84 4 = .ok (.arraylength, 1) := by decide +kernel
theorem dJx4a65c_grow_92f84_5 : decode cJx4a65c_grow_92f84 5 = .ok (.istore_n 2, 1) := by decide +kernel
theorem dJx4a65c_grow_92f84_6 : decode cJx4a65c_grow_92f84 6 = .ok (.iload_n 2, 1) := by decide +kernel
theorem dJx4a65c_grow_92f84_7 : decode cJx4a65c_grow_92f84 7 = .ok (.ifCond .gt 13, 3) := by decide +kernel
theorem dJx4a65c_grow_92f84_10 : decode cJx4a65c_grow_92f84 10 = .ok (.aload_n 0, 1) := by decide +kernel
theorem dJx4a65c_grow_92f84_11 : decode cJx4a65c_grow_92f84 11 = .ok (.getfield 9, 3) := by decide +kernel
theorem dJx4a65c_grow_92f84_14 : decode cJx4a65c_grow_92f84 14 = .ok (.getstatic 39, 3) := by decide +kernel
theorem dJx4a65c_grow_92f84_17 : decode cJx4a65c_grow_92f84 17 = .ok (.if_acmp .eq 28, 3) := by decide +kernel
theorem dJx4a65c_grow_92f84_20 : decode cJx4a65c_grow_92f84 20 = .ok (.iload_n 2, 1) := by decide +kernel
theorem dJx4a65c_grow_92f84_21 : decode cJx4a65c_grow_92f84 21 = .ok (.iload_n 1, 1) := by decide +kernel
theorem dJx4a65c_grow_92f84_22 : decode cJx4a65c_grow_92f84 22 = .ok (.iload_n 2, 1) := by decide +kernel
theorem dJx4a65c_grow_92f84_23 : decode cJx4a65c_grow_92f84 23 = .ok (.isub, 1) := by decide +kernel
theorem dJx4a65c_grow_92f84_24 : decode cJx4a65c_grow_92f84 24 = .ok (.iload_n 2, 1) := by decide +kernel
theorem dJx4a65c_grow_92f84_25 : decode cJx4a65c_grow_92f84 25 = .ok (.iconst 1, 1) := by decide +kernel
theorem dJx4a65c_grow_92f84_26 : decode cJx4a65c_grow_92f84 26 = .ok (.ishr, 1) := by decide +kernel
theorem dJx4a65c_grow_92f84_27 : decode cJx4a65c_grow_92f84 27 = .ok (.invokestatic 73, 3) := by decide +kernel
theorem dJx4a65c_grow_92f84_30 : decode cJx4a65c_grow_92f84 30 = .ok (.istore_n 3, 1) := by decide +kernel
theorem dJx4a65c_grow_92f84_31 : decode cJx4a65c_grow_92f84 31 = .ok (.aload_n 0, 1) := by decide +kernel
theorem dJx4a65c_grow_92f84_32 : decode cJx4a65c_grow_92f84 32 = .ok (.aload_n 0, 1) := by decide +kernel
theorem dJx4a65c_grow_92f84_33 : decode cJx4a65c_grow_92f84 33 = .ok (.getfield 9, 3) := by decide +kernel
theorem dJx4a65c_grow_92f84_36 : decode cJx4a65c_grow_92f84 36 = .ok (.iload_n 3, 1) := by decide +kernel
theorem dJx4a65c_grow_92f84_37 : decode cJx4a65c_grow_92f84 37 = .ok (.invokestatic 66, 3) := by decide +kernel
theorem dJx4a65c_grow_92f84_40 : decode cJx4a65c_grow_92f84 40 = .ok (.dup_x1, 1) := by decide +kernel
theorem dJx4a65c_grow_92f84_41 : decode cJx4a65c_grow_92f84 41 = .ok (.putfield 9, 3) := by decide +kernel
theorem dJx4a65c_grow_92f84_44 : decode cJx4a65c_grow_92f84 44 = .ok (.areturn, 1) := by decide +kernel
theorem dJx4a65c_grow_92f84_45 : decode cJx4a65c_grow_92f84 45 = .ok (.aload_n 0, 1) := by decide +kernel
theorem dJx4a65c_grow_92f84_46 : decode cJx4a65c_grow_92f84 46 = .ok (.bipush 10, 2) := by decide +kernel
theorem dJx4a65c_grow_92f84_48 : decode cJx4a65c_grow_92f84 48 = .ok (.iload_n 1, 1) := by decide +kernel
theorem dJx4a65c_grow_92f84_49 : decode cJx4a65c_grow_92f84 49 = .ok (.invokestatic 79, 3) := by decide +kernel
theorem dJx4a65c_grow_92f84_52 : decode cJx4a65c_grow_92f84 52 = .ok (.anewarray 7, 3) := by decide +kernel
theorem dJx4a65c_grow_92f84_55 : decode cJx4a65c_grow_92f84 55 = .ok (.dup_x1, 1) := by decide +kernel
theorem dJx4a65c_grow_92f84_56 : decode cJx4a65c_grow_92f84 56 = .ok (.putfield 9, 3) := by decide +kernel
theorem dJx4a65c_grow_92f84_59 : decode cJx4a65c_grow_92f84 59 = .ok (.areturn, 1) := by decide +kernel
theorem dJx4a65c_grow_d5877_0 : decode cJx4a65c_grow_d5877 0 = .ok (.aload_n 0, 1) := by decide +kernel
theorem dJx4a65c_grow_d5877_1 : decode cJx4a65c_grow_d5877 1 = .ok (.aload_n 0, 1) := by decide +kernel
theorem dJx4a65c_grow_d5877_2 : decode cJx4a65c_grow_d5877 2 = .ok (.getfield 48, 3) := by decide +kernel
theorem dJx4a65c_grow_d5877_5 : decode cJx4a65c_grow_d5877 5 = .ok (.iconst 1, 1) := by decide +kernel
theorem dJx4a65c_grow_d5877_6 : decode cJx4a65c_grow_d5877 6 = .ok (.iadd, 1) := by decide +kernel
theorem dJx4a65c_grow_d5877_7 : decode cJx4a65c_grow_d5877 7 = .ok (.invokevirtual 69, 3) := by decide +kernel
theorem dJx4a65c_grow_d5877_10 : decode cJx4a65c_grow_d5877 10 = .ok (.areturn, 1) := by decide +kernel
theorem dJx4a65c_size_8abf5_0 : decode cJx4a65c_size_8abf5 0 = .ok (.aload_n 0, 1) := by decide +kernel
theorem dJx4a65c_size_8abf5_1 : decode cJx4a65c_size_8abf5 1 = .ok (.getfield 48, 3) := by decide +kernel
theorem dJx4a65c_size_8abf5_4 : decode cJx4a65c_size_8abf5 4 = .ok (.ireturn, 1) := by decide +kernel
theorem dJx4a65c_elementData_915e3_0 : decode cJx4a65c_elementData_915e3 0 = .ok (.aload_n 0, 1) := by decide +kernel
theorem dJx4a65c_elementData_915e3_1 : decode cJx4a65c_elementData_915e3 1 = .ok (.getfield 9, 3) := by decide +kernel
theorem dJx4a65c_elementData_915e3_4 : decode cJx4a65c_elementData_915e3 4 = .ok (.iload_n 1, 1) := by decide +kernel
theorem dJx4a65c_elementData_915e3_5 : decode cJx4a65c_elementData_915e3 5 = .ok (.aaload, 1) := by decide +kernel
theorem dJx4a65c_elementData_915e3_6 : decode cJx4a65c_elementData_915e3 6 = .ok (.areturn, 1) := by decide +kernel
theorem dJx4a65c_get_915e3_0 : decode cJx4a65c_get_915e3 0 = .ok (.iload_n 1, 1) := by decide +kernel
theorem dJx4a65c_get_915e3_1 : decode cJx4a65c_get_915e3 1 = .ok (.aload_n 0, 1) := by decide +kernel
theorem dJx4a65c_get_915e3_2 : decode cJx4a65c_get_915e3 2 = .ok (.getfield 48, 3) := by decide +kernel
theorem dJx4a65c_get_915e3_5 : decode cJx4a65c_get_915e3 5 = .ok (.invokestatic 118, 3) := by decide +kernel
theorem dJx4a65c_get_915e3_8 : decode cJx4a65c_get_915e3 8 = .ok (.pop, 1) := by decide +kernel
theorem dJx4a65c_get_915e3_9 : decode cJx4a65c_get_915e3 9 = .ok (.aload_n 0, 1) := by decide +kernel
theorem dJx4a65c_get_915e3_10 : decode cJx4a65c_get_915e3 10 = .ok (.iload_n 1, 1) := by decide +kernel
theorem dJx4a65c_get_915e3_11 : decode cJx4a65c_get_915e3 11 = .ok (.invokevirtual 123, 3) := by decide +kernel
theorem dJx4a65c_get_915e3_14 : decode cJx4a65c_get_915e3 14 = .ok (.areturn, 1) := by decide +kernel
theorem dJx4a65c_add_72be8_0 : decode cJx4a65c_add_72be8 0 = .ok (.iload_n 3, 1) := by decide +kernel
theorem dJx4a65c_add_72be8_1 : decode cJx4a65c_add_72be8 1 = .ok (.aload_n 2, 1) := by decide +kernel
theorem dJx4a65c_add_72be8_2 : decode cJx4a65c_add_72be8 2 = .ok (.arraylength, 1) := by decide +kernel
theorem dJx4a65c_add_72be8_3 : decode cJx4a65c_add_72be8 3 = .ok (.if_icmp .ne 8, 3) := by decide +kernel
theorem dJx4a65c_add_72be8_6 : decode cJx4a65c_add_72be8 6 = .ok (.aload_n 0, 1) := by decide +kernel
theorem dJx4a65c_add_72be8_7 : decode cJx4a65c_add_72be8 7 = .ok (.invokevirtual 129, 3) := by decide +kernel
theorem dJx4a65c_add_72be8_10 : decode cJx4a65c_add_72be8 10 = .ok (.astore_n 2, 1) := by decide +kernel
theorem dJx4a65c_add_72be8_11 : decode cJx4a65c_add_72be8 11 = .ok (.aload_n 2, 1) := by decide +kernel
theorem dJx4a65c_add_72be8_12 : decode cJx4a65c_add_72be8 12 = .ok (.iload_n 3, 1) := by decide +kernel
theorem dJx4a65c_add_72be8_13 : decode cJx4a65c_add_72be8 13 = .ok (.aload_n 1, 1) := by decide +kernel
theorem dJx4a65c_add_72be8_14 : decode cJx4a65c_add_72be8 14 = .ok (.aastore, 1) := by decide +kernel
theorem dJx4a65c_add_72be8_15 : decode cJx4a65c_add_72be8 15 = .ok (.aload_n 0, 1) := by decide +kernel
theorem dJx4a65c_add_72be8_16 : decode cJx4a65c_add_72be8 16 = .ok (.iload_n 3, 1) := by decide +kernel
theorem dJx4a65c_add_72be8_17 : decode cJx4a65c_add_72be8 17 = .ok (.iconst 1, 1) := by decide +kernel
theorem dJx4a65c_add_72be8_18 : decode cJx4a65c_add_72be8 18 = .ok (.iadd, 1) := by decide +kernel
theorem dJx4a65c_add_72be8_19 : decode cJx4a65c_add_72be8 19 = .ok (.putfield 48, 3) := by decide +kernel
theorem dJx4a65c_add_72be8_22 : decode cJx4a65c_add_72be8 22 = .ok (.return_, 1) := by decide +kernel
theorem dJx4a65c_add_9ea2d_0 : decode cJx4a65c_add_9ea2d 0 = .ok (.aload_n 0, 1) := by decide +kernel
theorem dJx4a65c_add_9ea2d_1 : decode cJx4a65c_add_9ea2d 1 = .ok (.dup, 1) := by decide +kernel
theorem dJx4a65c_add_9ea2d_2 : decode cJx4a65c_add_9ea2d 2 = .ok (.getfield 63, 3) := by decide +kernel
theorem dJx4a65c_add_9ea2d_5 : decode cJx4a65c_add_9ea2d 5 = .ok (.iconst 1, 1) := by decide +kernel
theorem dJx4a65c_add_9ea2d_6 : decode cJx4a65c_add_9ea2d 6 = .ok (.iadd, 1) := by decide +kernel
theorem dJx4a65c_add_9ea2d_7 : decode cJx4a65c_add_9ea2d 7 = .ok (.putfield 63, 3) := by decide +kernel
theorem dJx4a65c_add_9ea2d_10 : decode cJx4a65c_add_9ea2d 10 = .ok (.aload_n 0, 1) := by decide +kernel
theorem dJx4a65c_add_9ea2d_11 : decode cJx4a65c_add_9ea2d 11 = .ok (.aload_n 1, 1) := by decide +kernel
theorem dJx4a65c_add_9ea2d_12 : decode cJx4a65c_add_9ea2d 12 = .ok (.aload_n 0, 1) := by decide +kernel
theorem dJx4a65c_add_9ea2d_13 : decode cJx4a65c_add_9ea2d 13 = .ok (.getfield 9, 3) := by decide +kernel
theorem dJx4a65c_add_9ea2d_16 : decode cJx4a65c_add_9ea2d 16 = .ok (.aload_n 0, 1) := by decide +kernel
theorem dJx4a65c_add_9ea2d_17 : decode cJx4a65c_add_9ea2d 17 = .ok (.getfield 48, 3) := by decide +kernel
theorem dJx4a65c_add_9ea2d_20 : decode cJx4a65c_add_9ea2d 20 = .ok (.invokevirtual 131, 3) := by decide +kernel
theorem dJx4a65c_add_9ea2d_23 : decode cJx4a65c_add_9ea2d 23 = .ok (.iconst 1, 1) := by decide +kernel
theorem dJx4a65c_add_9ea2d_24 : decode cJx4a65c_add_9ea2d 24 = .ok (.ireturn, 1) := by decide +kernel
theorem dJ7_copyOf_1904c_0 : decode cJ7_copyOf_1904c 0 = .ok (.aload_n 0, 1) := by decide +kernel
theorem dJ7_copyOf_1904c_1 : decode cJ7_copyOf_1904c 1 = .ok (.iload_n 1, 1) := by decide +kernel
theorem dJ7_copyOf_1904c_2 : decode cJ7_copyOf_1904c 2 = .ok (.aload_n 0, 1) := by decide +kernel
theorem dJ7_copyOf_1904c_3 : decode cJ7_copyOf_1904c 3 = .ok (.invokevirtual 86, 3) := by decide +kernel
theorem dJ7_copyOf_1904c_6 : decode cJ7_copyOf_1904c 6 = .ok (.invokestatic 300, 3) := by decide +kernel
theorem dJ7_copyOf_1904c_9 : decode cJ7_copyOf_1904c 9 = .ok (.areturn, 1) := by decide +kernel
theorem dJ7_copyOf_6403c_0 : decode cJ7_copyOf_6403c 0 = .ok (.aload_n 2, 1) := by decide +kernel
theorem dJ7_copyOf_6403c_1 : decode cJ7_copyOf_6403c 1 = .ok (.ldc 110, 2) := by decide +kernel
theorem dJ7_copyOf_6403c_3 : decode cJ7_copyOf_6403c 3 = .ok (.if_acmp .ne 10, 3) := by decide +kernel
theorem dJ7_copyOf_6403c_6 : decode cJ7_copyOf_6403c 6 = .ok (.iload_n 1, 1) := by decide +kernel
theorem dJ7_copyOf_6403c_7 : decode cJ7_copyOf_6403c 7 = .ok (.anewarray 2, 3) := by decide +kernel
theorem dJ7_copyOf_6403c_10 : decode cJ7_copyOf_6403c 10 = .ok (.goto 14, 3) := by decide +kernel
theorem dJ7_copyOf_6403c_13 : decode cJ7_copyOf_6403c 13 = .ok (.aload_n 2, 1) := by decide +kernel
theorem dJ7_copyOf_6403c_14 : decode cJ7_copyOf_6403c 14 = .ok (.invokevirtual 90, 3) := by decide +kernel
theorem dJ7_copyOf_6403c_17 : decode cJ7_copyOf_6403c 17 = .ok (.iload_n 1, 1) := by decide +kernel
theorem dJ7_copyOf_6403c_18 : decode cJ7_copyOf_6403c 18 = .ok (.invokestatic 95, 3) := by decide +kernel
theorem dJ7_copyOf_6403c_21 : decode cJ7_copyOf_6403c 21 = .ok (.checkcast 110, 3) := by decide +kernel
theorem dJ7_copyOf_6403c_24 : decode cJ7_copyOf_6403c 24 = .ok (.astore_n 3, 1) := by decide +kernel
theorem dJ7_copyOf_6403c_25 : decode cJ7_copyOf_6403c 25 = .ok (.aload_n 0, 1) := by decide +kernel
theorem dJ7_copyOf_6403c_26 : decode cJ7_copyOf_6403c 26 = .ok (.iconst 0, 1) := by decide +kernel
theorem dJ7_copyOf_6403c_27 : decode cJ7_copyOf_6403c 27 = .ok (.aload_n 3, 1) := by decide +kernel
theorem dJ7_copyOf_6403c_28 : decode cJ7_copyOf_6403c 28 = .ok (.iconst 0, 1) := by decide +kernel
theorem dJ7_copyOf_6403c_29 : decode cJ7_copyOf_6403c 29 = .ok (.aload_n 0, 1) := by decide +kernel
theorem dJ7_copyOf_6403c_30 : decode cJ7_copyOf_6403c 30 = .ok (.arraylength, 1) := by decide +kernel
theorem dJ7_copyOf_6403c_31 : decode cJ7_copyOf_6403c 31 = .ok (.iload_n 1, 1) := by decide +kernel
theorem dJ7_copyOf_6403c_32 : decode cJ7_copyOf_6403c 32 = .ok (.invokestatic 304, 3) := by decide +kernel
theorem dJ7_copyOf_6403c_35 : decode cJ7_copyOf_6403c 35 = .ok (.invokestatic 150, 3) := by decide +kernel
theorem dJ7_copyOf_6403c_38 : decode cJ7_copyOf_6403c 38 = .ok (.aload_n 3, 1) := by decide +kernel
theorem dJ7_copyOf_6403c_39 : decode cJ7_copyOf_6403c 39 = .ok (.areturn, 1) := by decide +kernel
theorem dJ15_checkIndex_7cf53_0 : decode cJ15_checkIndex_7cf53 0 = .ok (.iload_n 0, 1) := by decide +kernel
theorem dJ15_checkIndex_7cf53_1 : decode cJ15_checkIndex_7cf53 1 = .ok (.iload_n 1, 1) := by decide +kernel
theorem dJ15_checkIndex_7cf53_2 : decode cJ15_checkIndex_7cf53 2 = .ok (.aconst_null, 1) := by decide +kernel
theorem dJ15_checkIndex_7cf53_3 : decode cJ15_checkIndex_7cf53 3 = .ok (.invokestatic 105, 3) := by decide +kernel
theorem dJ15_checkIndex_7cf53_6 : decode cJ15_checkIndex_7cf53 6 = .ok (.ireturn, 1) := by decide +kernel
theorem dJ8_newLength_cabcc_0 : decode cJ8_newLength_cabcc 0 = .ok (.iload_n 0, 1) := by decide +kernel
theorem dJ8_newLength_cabcc_1 : decode cJ8_newLength_cabcc 1 = .ok (.iload_n 1, 1) := by decide +kernel
theorem dJ8_newLength_cabcc_2 : decode cJ8_newLength_cabcc 2 = .ok (.iload_n 2, 1) := by decide +kernel
theorem dJ8_newLength_cabcc_3 : decode cJ8_newLength_cabcc 3 = .ok (.invokestatic 194, 3) := by decide +kernel
theorem dJ8_newLength_cabcc_6 : decode cJ8_newLength_cabcc 6 = .ok (.iadd, 1) := by decide +kernel
theorem dJ8_newLength_cabcc_7 : decode cJ8_newLength_cabcc 7 = .ok (.istore_n 3, 1) := by decide +kernel
theorem dJ8_newLength_cabcc_8 : decode cJ8_newLength_cabcc 8 = .ok (.iconst 0, 1) := by decide +kernel
theorem dJ8_newLength_cabcc_9 : decode cJ8_newLength_cabcc 9 = .ok (.iload_n 3, 1) := by decide +kernel
theorem dJ8_newLength_cabcc_10 : decode cJ8_newLength_cabcc 10 = .ok (.if_icmp .ge 11, 3) := by decide +kernel
theorem dJ8_newLength_cabcc_13 : decode cJ8_newLength_cabcc 13 = .ok (.iload_n 3, 1) := by decide +kernel
theorem dJ8_newLength_cabcc_14 : decode cJ8_newLength_cabcc 14 = .ok (.ldc 200, 2) := by decide +kernel
theorem dJ8_newLength_cabcc_16 : decode cJ8_newLength_cabcc 16 = .ok (.if_icmp .gt 5, 3) := by decide +kernel
theorem dJ8_newLength_cabcc_19 : decode cJ8_newLength_cabcc 19 = .ok (.iload_n 3, 1) := by decide +kernel
theorem dJ8_newLength_cabcc_20 : decode cJ8_newLength_cabcc 20 = .ok (.ireturn, 1) := by decide +kernel
theorem dJ8_newLength_cabcc_21 : decode cJ8_newLength_cabcc 21 = .ok (.iload_n 0, 1) := by decide +kernel
theorem dJ8_newLength_cabcc_22 : decode cJ8_newLength_cabcc 22 = .ok (.iload_n 1, 1) := by decide +kernel
theorem dJ8_newLength_cabcc_23 : decode cJ8_newLength_cabcc 23 = .ok (.invokestatic 201, 3) := by decide +kernel
theorem dJ8_newLength_cabcc_26 : decode cJ8_newLength_cabcc 26 = .ok (.ireturn, 1) := by decide +kernel
theorem dJ8_hugeLength_7cf53_0 : decode cJ8_hugeLength_7cf53 0 = .ok (.iload_n 0, 1) := by decide +kernel
theorem dJ8_hugeLength_7cf53_1 : decode cJ8_hugeLength_7cf53 1 = .ok (.iload_n 1, 1) := by decide +kernel
theorem dJ8_hugeLength_7cf53_2 : decode cJ8_hugeLength_7cf53 2 = .ok (.iadd, 1) := by decide +kernel
theorem dJ8_hugeLength_7cf53_3 : decode cJ8_hugeLength_7cf53 3 = .ok (.istore_n 2, 1) := by decide +kernel
theorem dJ8_hugeLength_7cf53_4 : decode cJ8_hugeLength_7cf53 4 = .ok (.iload_n 2, 1) := by decide +kernel
theorem dJ8_hugeLength_7cf53_5 : decode cJ8_hugeLength_7cf53 5 = .ok (.ifCond .ge 44, 3) := by decide +kernel
theorem dJ8_hugeLength_7cf53_8 : decode cJ8_hugeLength_7cf53 8 = .ok (.new 204, 3) := by decide +kernel
theorem dJ8_hugeLength_7cf53_11 : decode cJ8_hugeLength_7cf53 11 = .ok (.dup, 1) := by decide +kernel
theorem dJ8_hugeLength_7cf53_12 : decode cJ8_hugeLength_7cf53 12 = .ok (.new 89, 3) := by decide +kernel
theorem dJ8_hugeLength_7cf53_15 : decode cJ8_hugeLength_7cf53 15 = .ok (.dup, 1) := by decide +kernel
theorem dJ8_hugeLength_7cf53_16 : decode cJ8_hugeLength_7cf53 16 = .ok (.invokespecial 91, 3) := by decide +kernel
theorem dJ8_hugeLength_7cf53_19 : decode cJ8_hugeLength_7cf53 19 = .ok (.ldc 206, 2) := by decide +kernel
theorem dJ8_hugeLength_7cf53_21 : decode cJ8_hugeLength_7cf53 21 = .ok (.invokevirtual 94, 3) := by decide +kernel
theorem dJ8_hugeLength_7cf53_24 : decode cJ8_hugeLength_7cf53 24 = .ok (.iload_n 0, 1) := by decide +kernel
theorem dJ8_hugeLength_7cf53_25 : decode cJ8_hugeLength_7cf53 25 = .ok (.invokevirtual 98, 3) := by decide +kernel
theorem dJ8_hugeLength_7cf53_28 : decode cJ8_hugeLength_7cf53 28 = .ok (.ldc 208, 2) := by decide +kernel
theorem dJ8_hugeLength_7cf53_30 : decode cJ8_hugeLength_7cf53 30 = .ok (.invokevirtual 94, 3) := by decide +kernel
theorem dJ8_hugeLength_7cf53_33 : decode cJ8_hugeLength_7cf53 33 = .ok (.iload_n 1, 1) := by decide +kernel
theorem dJ8_hugeLength_7cf53_34 : decode cJ8_hugeLength_7cf53 34 = .ok (.invokevirtual 98, 3) := by decide +kernel
theorem dJ8_hugeLength_7cf53_37 : decode cJ8_hugeLength_7cf53 37 = .ok (.ldc 210, 2) := by decide +kernel
theorem dJ8_hugeLength_7cf53_39 : decode cJ8_hugeLength_7cf53 39 = .ok (.invokevirtual 94, 3) := by decide +kernel
theorem dJ8_hugeLength_7cf53_42 : decode cJ8_hugeLength_7cf53 42 = .ok (.invokevirtual 101, 3) := by decide +kernel
theorem dJ8_hugeLength_7cf53_45 : decode cJ8_hugeLength_7cf53 45 = .ok (.invokespecial 212, 3) := by decide +kernel
theorem dJ8_hugeLength_7cf53_48 : decode cJ8_hugeLength_7cf53 48 = .ok (.athrow, 1) := by decide +kernel
theorem dJ8_hugeLength_7cf53_49 : decode cJ8_hugeLength_7cf53 49 = .ok (.iload_n 2, 1) := by decide +kernel
theorem dJ8_hugeLength_7cf53_50 : decode cJ8_hugeLength_7cf53 50 = .ok (.ldc 200, 2) := by decide +kernel
theorem dJ8_hugeLength_7cf53_52 : decode cJ8_hugeLength_7cf53 52 = .ok (.if_icmp .gt 6, 3) := by decide +kernel
theorem dJ8_hugeLength_7cf53_55 : decode cJ8_hugeLength_7cf53 55 = .ok (.ldc 200, 2) := by decide +kernel
theorem dJ8_hugeLength_7cf53_57 : decode cJ8_hugeLength_7cf53 57 = .ok (.ireturn, 1) := by decide +kernel
theorem dJ8_hugeLength_7cf53_58 : decode cJ8_hugeLength_7cf53 58 = .ok (.iload_n 2, 1) := by decide +kernel
theorem dJ8_hugeLength_7cf53_59 : decode cJ8_hugeLength_7cf53 59 = .ok (.ireturn, 1) := by decide +kernel
theorem dJ3_checkIndex_8e157_0 : decode cJ3_checkIndex_8e157 0 = .ok (.iload_n 0, 1) := by decide +kernel
theorem dJ3_checkIndex_8e157_1 : decode cJ3_checkIndex_8e157 1 = .ok (.ifCond .lt 8, 3) := by decide +kernel
theorem dJ3_checkIndex_8e157_4 : decode cJ3_checkIndex_8e157 4 = .ok (.iload_n 0, 1) := by decide +kernel
theorem dJ3_checkIndex_8e157_5 : decode cJ3_checkIndex_8e157 5 = .ok (.iload_n 1, 1) := by decide +kernel
theorem dJ3_checkIndex_8e157_6 : decode cJ3_checkIndex_8e157 6 = .ok (.if_icmp .lt 10, 3) := by decide +kernel
theorem dJ3_checkIndex_8e157_9 : decode cJ3_checkIndex_8e157 9 = .ok (.aload_n 2, 1) := by decide +kernel
theorem dJ3_checkIndex_8e157_10 : decode cJ3_checkIndex_8e157 10 = .ok (.iload_n 0, 1) := by decide +kernel
theorem dJ3_checkIndex_8e157_11 : decode cJ3_checkIndex_8e157 11 = .ok (.iload_n 1, 1) := by decide +kernel
theorem dJ3_checkIndex_8e157_12 : decode cJ3_checkIndex_8e157 12 = .ok (.invokestatic 95, 3) := by decide +kernel
theorem dJ3_checkIndex_8e157_15 : decode cJ3_checkIndex_8e157 15 = .ok (.athrow, 1) := by decide +kernel
theorem dJ3_checkIndex_8e157_16 : decode cJ3_checkIndex_8e157 16 = .ok (.iload_n 0, 1) := by decide +kernel
theorem dJ3_checkIndex_8e157_17 : decode cJ3_checkIndex_8e157 17 = .ok (.ireturn, 1) := by decide +kernel
end
section
theorem dL_below_0 : decode cL_below 0 = .ok (.iload_n 0, 1) := by decide +kernel
theorem dL_below_1 : decode cL_below 1 = .ok (.ldc 7, 2) := by decide +kernel
theorem dL_below_3 : decode cL_below 3 = .ok (.iand, 1) := by decide +kernel
theorem dL_below_4 : decode cL_below 4 = .ok (.iload_n 1, 1) := by decide +kernel
theorem dL_below_5 : decode cL_below 5 = .ok (.irem, 1) := by decide +kernel
theorem dL_below_6 : decode cL_below 6 = .ok (.ireturn, 1) := by decide +kernel
theorem dL_cell_0 : decode cL_cell 0 = .ok (.iload_n 1, 1) := by decide +kernel
theorem dL_cell_1 : decode cL_cell 1 = .ok (.aload_n 0, 1) := by decide +kernel
theorem dL_cell_2 : decode cL_cell 2 = .ok (.arraylength, 1) := by decide +kernel
theorem dL_cell_3 : decode cL_cell 3 = .ok (.if_icmp .ge 9, 3) := by decide +kernel
theorem dL_cell_6 : decode cL_cell 6 = .ok (.aload_n 0, 1) := by decide +kernel
theorem dL_cell_7 : decode cL_cell 7 = .ok (.iload_n 1, 1) := by decide +kernel
theorem dL_cell_8 : decode cL_cell 8 = .ok (.iaload, 1) := by decide +kernel
theorem dL_cell_9 : decode cL_cell 9 = .ok (.goto 9, 3) := by decide +kernel
theorem dL_cell_12 : decode cL_cell 12 = .ok (.ldc 8, 2) := by decide +kernel
theorem dL_cell_14 : decode cL_cell 14 = .ok (.iload_n 1, 1) := by decide +kernel
theorem dL_cell_15 : decode cL_cell 15 = .ok (.iconst 3, 1) := by decide +kernel
theorem dL_cell_16 : decode cL_cell 16 = .ok (.iadd, 1) := by decide +kernel
theorem dL_cell_17 : decode cL_cell 17 = .ok (.imul, 1) := by decide +kernel
theorem dL_cell_18 : decode cL_cell 18 = .ok (.ireturn, 1) := by decide +kernel
theorem dL_build_0 : decode cL_build 0 = .ok (.sipush 350, 3) := by decide +kernel
theorem dL_build_3 : decode cL_build 3 = .ok (.newarray .int, 2) := by decide +kernel
theorem dL_build_5 : decode cL_build 5 = .ok (.astore 4, 2) := by decide +kernel
theorem dL_build_7 : decode cL_build 7 = .ok (.aload_n 1, 1) := by decide +kernel
theorem dL_build_8 : decode cL_build 8 = .ok (.iload_n 2, 1) := by decide +kernel
theorem dL_build_9 : decode cL_build 9 = .ok (.invokestatic 9, 3) := by decide +kernel
theorem dL_build_12 : decode cL_build 12 = .ok (.istore 5, 2) := by decide +kernel
theorem dL_build_14 : decode cL_build 14 = .ok (.aload 4, 2) := by decide +kernel
theorem dL_build_16 : decode cL_build 16 = .ok (.iconst 1, 1) := by decide +kernel
theorem dL_build_17 : decode cL_build 17 = .ok (.iload 5, 2) := by decide +kernel
theorem dL_build_19 : decode cL_build 19 = .ok (.bipush 30, 2) := by decide +kernel
theorem dL_build_21 : decode cL_build 21 = .ok (.invokestatic 15, 3) := by decide +kernel
theorem dL_build_24 : decode cL_build 24 = .ok (.iastore, 1) := by decide +kernel
theorem dL_build_25 : decode cL_build 25 = .ok (.aload 4, 2) := by decide +kernel
theorem dL_build_27 : decode cL_build 27 = .ok (.iconst 2, 1) := by decide +kernel
theorem dL_build_28 : decode cL_build 28 = .ok (.aload 4, 2) := by decide +kernel
theorem dL_build_30 : decode cL_build 30 = .ok (.iconst 1, 1) := by decide +kernel
theorem dL_build_31 : decode cL_build 31 = .ok (.iaload, 1) := by decide +kernel
theorem dL_build_32 : decode cL_build 32 = .ok (.bipush 20, 2) := by decide +kernel
theorem dL_build_34 : decode cL_build 34 = .ok (.iadd, 1) := by decide +kernel
theorem dL_build_35 : decode cL_build 35 = .ok (.iload 5, 2) := by decide +kernel
theorem dL_build_37 : decode cL_build 37 = .ok (.iconst 5, 1) := by decide +kernel
theorem dL_build_38 : decode cL_build 38 = .ok (.ishr, 1) := by decide +kernel
theorem dL_build_39 : decode cL_build 39 = .ok (.bipush 60, 2) := by decide +kernel
theorem dL_build_41 : decode cL_build 41 = .ok (.invokestatic 15, 3) := by decide +kernel
theorem dL_build_44 : decode cL_build 44 = .ok (.iadd, 1) := by decide +kernel
theorem dL_build_45 : decode cL_build 45 = .ok (.iastore, 1) := by decide +kernel
theorem dL_build_46 : decode cL_build 46 = .ok (.aload_n 0, 1) := by decide +kernel
theorem dL_build_47 : decode cL_build 47 = .ok (.aload 4, 2) := by decide +kernel
theorem dL_build_49 : decode cL_build 49 = .ok (.iconst 1, 1) := by decide +kernel
theorem dL_build_50 : decode cL_build 50 = .ok (.iaload, 1) := by decide +kernel
theorem dL_build_51 : decode cL_build 51 = .ok (.aload 4, 2) := by decide +kernel
theorem dL_build_53 : decode cL_build 53 = .ok (.iconst 2, 1) := by decide +kernel
theorem dL_build_54 : decode cL_build 54 = .ok (.iaload, 1) := by decide +kernel
theorem dL_build_55 : decode cL_build 55 = .ok (.invokevirtual 19, 3) := by decide +kernel
theorem dL_build_58 : decode cL_build 58 = .ok (.ifCond .ne 5, 3) := by decide +kernel
theorem dL_build_61 : decode cL_build 61 = .ok (.aconst_null, 1) := by decide +kernel
theorem dL_build_62 : decode cL_build 62 = .ok (.areturn, 1) := by decide +kernel
theorem dL_build_63 : decode cL_build 63 = .ok (.iconst 0, 1) := by decide +kernel
theorem dL_build_64 : decode cL_build 64 = .ok (.istore 6, 2) := by decide +kernel
theorem dL_build_66 : decode cL_build 66 = .ok (.iload 6, 2) := by decide +kernel
theorem dL_build_68 : decode cL_build 68 = .ok (.iconst 4, 1) := by decide +kernel
theorem dL_build_69 : decode cL_build 69 = .ok (.if_icmp .ge 118, 3) := by decide +kernel
theorem dL_build_72 : decode cL_build 72 = .ok (.aload 4, 2) := by decide +kernel
theorem dL_build_74 : decode cL_build 74 = .ok (.bipush 10, 2) := by decide +kernel
theorem dL_build_76 : decode cL_build 76 = .ok (.iconst 2, 1) := by decide +kernel
theorem dL_build_77 : decode cL_build 77 = .ok (.iload 6, 2) := by decide +kernel
theorem dL_build_79 : decode cL_build 79 = .ok (.imul, 1) := by decide +kernel
theorem dL_build_80 : decode cL_build 80 = .ok (.iadd, 1) := by decide +kernel
theorem dL_build_81 : decode cL_build 81 = .ok (.iconst 2, 1) := by decide +kernel
theorem dL_build_82 : decode cL_build 82 = .ok (.iload 5, 2) := by decide +kernel
theorem dL_build_84 : decode cL_build 84 = .ok (.iconst 3, 1) := by decide +kernel
theorem dL_build_85 : decode cL_build 85 = .ok (.iconst 5, 1) := by decide +kernel
theorem dL_build_86 : decode cL_build 86 = .ok (.iload 6, 2) := by decide +kernel
theorem dL_build_88 : decode cL_build 88 = .ok (.imul, 1) := by decide +kernel
theorem dL_build_89 : decode cL_build 89 = .ok (.iadd, 1) := by decide +kernel
theorem dL_build_90 : decode cL_build 90 = .ok (.ishr, 1) := by decide +kernel
theorem dL_build_91 : decode cL_build 91 = .ok (.bipush 12, 2) := by decide +kernel
theorem dL_build_93 : decode cL_build 93 = .ok (.invokestatic 15, 3) := by decide +kernel
theorem dL_build_96 : decode cL_build 96 = .ok (.iload 6, 2) := by decide +kernel
theorem dL_build_98 : decode cL_build 98 = .ok (.iconst 1, 1) := by decide +kernel
theorem dL_build_99 : decode cL_build 99 = .ok (.iadd, 1) := by decide +kernel
theorem dL_build_100 : decode cL_build 100 = .ok (.imul, 1) := by decide +kernel
theorem dL_build_101 : decode cL_build 101 = .ok (.iadd, 1) := by decide +kernel
theorem dL_build_102 : decode cL_build 102 = .ok (.iastore, 1) := by decide +kernel
theorem dL_build_103 : decode cL_build 103 = .ok (.aload 4, 2) := by decide +kernel
theorem dL_build_105 : decode cL_build 105 = .ok (.bipush 11, 2) := by decide +kernel
theorem dL_build_107 : decode cL_build 107 = .ok (.iconst 2, 1) := by decide +kernel
theorem dL_build_108 : decode cL_build 108 = .ok (.iload 6, 2) := by decide +kernel
theorem dL_build_110 : decode cL_build 110 = .ok (.imul, 1) := by decide +kernel
theorem dL_build_111 : decode cL_build 111 = .ok (.iadd, 1) := by decide +kernel
theorem dL_build_112 : decode cL_build 112 = .ok (.aload 4, 2) := by decide +kernel
theorem dL_build_114 : decode cL_build 114 = .ok (.bipush 10, 2) := by decide +kernel
theorem dL_build_116 : decode cL_build 116 = .ok (.iconst 2, 1) := by decide +kernel
theorem dL_build_117 : decode cL_build 117 = .ok (.iload 6, 2) := by decide +kernel
theorem dL_build_119 : decode cL_build 119 = .ok (.imul, 1) := by decide +kernel
theorem dL_build_120 : decode cL_build 120 = .ok (.iadd, 1) := by decide +kernel
theorem dL_build_121 : decode cL_build 121 = .ok (.iaload, 1) := by decide +kernel
theorem dL_build_122 : decode cL_build 122 = .ok (.iload 5, 2) := by decide +kernel
theorem dL_build_124 : decode cL_build 124 = .ok (.bipush 6, 2) := by decide +kernel
theorem dL_build_126 : decode cL_build 126 = .ok (.iconst 5, 1) := by decide +kernel
theorem dL_build_127 : decode cL_build 127 = .ok (.iload 6, 2) := by decide +kernel
theorem dL_build_129 : decode cL_build 129 = .ok (.imul, 1) := by decide +kernel
theorem dL_build_130 : decode cL_build 130 = .ok (.iadd, 1) := by decide +kernel
theorem dL_build_131 : decode cL_build 131 = .ok (.ishr, 1) := by decide +kernel
theorem dL_build_132 : decode cL_build 132 = .ok (.bipush 30, 2) := by decide +kernel
theorem dL_build_134 : decode cL_build 134 = .ok (.invokestatic 15, 3) := by decide +kernel
theorem dL_build_137 : decode cL_build 137 = .ok (.iload 6, 2) := by decide +kernel
theorem dL_build_139 : decode cL_build 139 = .ok (.iconst 1, 1) := by decide +kernel
theorem dL_build_140 : decode cL_build 140 = .ok (.iadd, 1) := by decide +kernel
theorem dL_build_141 : decode cL_build 141 = .ok (.imul, 1) := by decide +kernel
theorem dL_build_142 : decode cL_build 142 = .ok (.iadd, 1) := by decide +kernel
theorem dL_build_143 : decode cL_build 143 = .ok (.iastore, 1) := by decide +kernel
theorem dL_build_144 : decode cL_build 144 = .ok (.aload_n 0, 1) := by decide +kernel
theorem dL_build_145 : decode cL_build 145 = .ok (.iload 6, 2) := by decide +kernel
theorem dL_build_147 : decode cL_build 147 = .ok (.aload 4, 2) := by decide +kernel
theorem dL_build_149 : decode cL_build 149 = .ok (.bipush 10, 2) := by decide +kernel
theorem dL_build_151 : decode cL_build 151 = .ok (.iconst 2, 1) := by decide +kernel
theorem dL_build_152 : decode cL_build 152 = .ok (.iload 6, 2) := by decide +kernel
theorem dL_build_154 : decode cL_build 154 = .ok (.imul, 1) := by decide +kernel
theorem dL_build_155 : decode cL_build 155 = .ok (.iadd, 1) := by decide +kernel
theorem dL_build_156 : decode cL_build 156 = .ok (.iaload, 1) := by decide +kernel
theorem dL_build_157 : decode cL_build 157 = .ok (.aload 4, 2) := by decide +kernel
theorem dL_build_159 : decode cL_build 159 = .ok (.bipush 11, 2) := by decide +kernel
theorem dL_build_161 : decode cL_build 161 = .ok (.iconst 2, 1) := by decide +kernel
theorem dL_build_162 : decode cL_build 162 = .ok (.iload 6, 2) := by decide +kernel
theorem dL_build_164 : decode cL_build 164 = .ok (.imul, 1) := by decide +kernel
theorem dL_build_165 : decode cL_build 165 = .ok (.iadd, 1) := by decide +kernel
theorem dL_build_166 : decode cL_build 166 = .ok (.iaload, 1) := by decide +kernel
theorem dL_build_167 : decode cL_build 167 = .ok (.invokevirtual 25, 3) := by decide +kernel
theorem dL_build_170 : decode cL_build 170 = .ok (.sipush 240, 3) := by decide +kernel
theorem dL_build_173 : decode cL_build 173 = .ok (.iload 6, 2) := by decide +kernel
theorem dL_build_175 : decode cL_build 175 = .ok (.ishl, 1) := by decide +kernel
theorem dL_build_176 : decode cL_build 176 = .ok (.if_icmp .eq 5, 3) := by decide +kernel
theorem dL_build_179 : decode cL_build 179 = .ok (.aconst_null, 1) := by decide +kernel
theorem dL_build_180 : decode cL_build 180 = .ok (.areturn, 1) := by decide +kernel
theorem dL_build_181 : decode cL_build 181 = .ok (.iinc 6 1, 3) := by decide +kernel
theorem dL_build_184 : decode cL_build 184 = .ok (.goto (-118), 3) := by decide +kernel
theorem dL_build_187 : decode cL_build 187 = .ok (.aload 4, 2) := by decide +kernel
theorem dL_build_189 : decode cL_build 189 = .ok (.iconst 3, 1) := by decide +kernel
theorem dL_build_190 : decode cL_build 190 = .ok (.iconst 1, 1) := by decide +kernel
theorem dL_build_191 : decode cL_build 191 = .ok (.aload_n 1, 1) := by decide +kernel
theorem dL_build_192 : decode cL_build 192 = .ok (.iload_n 2, 1) := by decide +kernel
theorem dL_build_193 : decode cL_build 193 = .ok (.iconst 1, 1) := by decide +kernel
theorem dL_build_194 : decode cL_build 194 = .ok (.iadd, 1) := by decide +kernel
theorem dL_build_195 : decode cL_build 195 = .ok (.invokestatic 9, 3) := by decide +kernel
theorem dL_build_198 : decode cL_build 198 = .ok (.iconst 4, 1) := by decide +kernel
theorem dL_build_199 : decode cL_build 199 = .ok (.invokestatic 15, 3) := by decide +kernel
theorem dL_build_202 : decode cL_build 202 = .ok (.iadd, 1) := by decide +kernel
theorem dL_build_203 : decode cL_build 203 = .ok (.iastore, 1) := by decide +kernel
theorem dL_build_204 : decode cL_build 204 = .ok (.iconst 0, 1) := by decide +kernel
theorem dL_build_205 : decode cL_build 205 = .ok (.istore 6, 2) := by decide +kernel
theorem dL_build_207 : decode cL_build 207 = .ok (.iload 6, 2) := by decide +kernel
theorem dL_build_209 : decode cL_build 209 = .ok (.aload 4, 2) := by decide +kernel
theorem dL_build_211 : decode cL_build 211 = .ok (.iconst 3, 1) := by decide +kernel
theorem dL_build_212 : decode cL_build 212 = .ok (.iaload, 1) := by decide +kernel
theorem dL_build_213 : decode cL_build 213 = .ok (.if_icmp .ge 197, 3) := by decide +kernel
theorem dL_build_216 : decode cL_build 216 = .ok (.aload_n 1, 1) := by decide +kernel
theorem dL_build_217 : decode cL_build 217 = .ok (.iload_n 2, 1) := by decide +kernel
theorem dL_build_218 : decode cL_build 218 = .ok (.iconst 1, 1) := by decide +kernel
theorem dL_build_219 : decode cL_build 219 = .ok (.iadd, 1) := by decide +kernel
theorem dL_build_220 : decode cL_build 220 = .ok (.invokestatic 9, 3) := by decide +kernel
theorem dL_build_223 : decode cL_build 223 = .ok (.iconst 2, 1) := by decide +kernel
theorem dL_build_224 : decode cL_build 224 = .ok (.bipush 7, 2) := by decide +kernel
theorem dL_build_226 : decode cL_build 226 = .ok (.iload 6, 2) := by decide +kernel
theorem dL_build_228 : decode cL_build 228 = .ok (.imul, 1) := by decide +kernel
theorem dL_build_229 : decode cL_build 229 = .ok (.iadd, 1) := by decide +kernel
theorem dL_build_230 : decode cL_build 230 = .ok (.ishr, 1) := by decide +kernel
theorem dL_build_231 : decode cL_build 231 = .ok (.istore 7, 2) := by decide +kernel
theorem dL_build_233 : decode cL_build 233 = .ok (.aload 4, 2) := by decide +kernel
theorem dL_build_235 : decode cL_build 235 = .ok (.bipush 20, 2) := by decide +kernel
theorem dL_build_237 : decode cL_build 237 = .ok (.bipush 8, 2) := by decide +kernel
theorem dL_build_239 : decode cL_build 239 = .ok (.iload 6, 2) := by decide +kernel
theorem dL_build_241 : decode cL_build 241 = .ok (.imul, 1) := by decide +kernel
theorem dL_build_242 : decode cL_build 242 = .ok (.iadd, 1) := by decide +kernel
theorem dL_build_243 : decode cL_build 243 = .ok (.iconst 1, 1) := by decide +kernel
theorem dL_build_244 : decode cL_build 244 = .ok (.iload 7, 2) := by decide +kernel
theorem dL_build_246 : decode cL_build 246 = .ok (.bipush 8, 2) := by decide +kernel
theorem dL_build_248 : decode cL_build 248 = .ok (.invokestatic 15, 3) := by decide +kernel
theorem dL_build_251 : decode cL_build 251 = .ok (.ior, 1) := by decide +kernel
theorem dL_build_252 : decode cL_build 252 = .ok (.iastore, 1) := by decide +kernel
theorem dL_build_253 : decode cL_build 253 = .ok (.aload 4, 2) := by decide +kernel
theorem dL_build_255 : decode cL_build 255 = .ok (.bipush 21, 2) := by decide +kernel
theorem dL_build_257 : decode cL_build 257 = .ok (.bipush 8, 2) := by decide +kernel
theorem dL_build_259 : decode cL_build 259 = .ok (.iload 6, 2) := by decide +kernel
theorem dL_build_261 : decode cL_build 261 = .ok (.imul, 1) := by decide +kernel
theorem dL_build_262 : decode cL_build 262 = .ok (.iadd, 1) := by decide +kernel
theorem dL_build_263 : decode cL_build 263 = .ok (.iload 7, 2) := by decide +kernel
theorem dL_build_265 : decode cL_build 265 = .ok (.iconst 3, 1) := by decide +kernel
theorem dL_build_266 : decode cL_build 266 = .ok (.ishr, 1) := by decide +kernel
theorem dL_build_267 : decode cL_build 267 = .ok (.bipush 6, 2) := by decide +kernel
theorem dL_build_269 : decode cL_build 269 = .ok (.invokestatic 15, 3) := by decide +kernel
theorem dL_build_272 : decode cL_build 272 = .ok (.ifCond .ne 7, 3) := by decide +kernel
theorem dL_build_275 : decode cL_build 275 = .ok (.iconst 2, 1) := by decide +kernel
theorem dL_build_276 : decode cL_build 276 = .ok (.goto 5, 3) := by decide +kernel
theorem dL_build_279 : decode cL_build 279 = .ok (.bipush 127, 2) := by decide +kernel
theorem dL_build_281 : decode cL_build 281 = .ok (.iastore, 1) := by decide +kernel
theorem dL_build_282 : decode cL_build 282 = .ok (.aload 4, 2) := by decide +kernel
theorem dL_build_284 : decode cL_build 284 = .ok (.bipush 22, 2) := by decide +kernel
theorem dL_build_286 : decode cL_build 286 = .ok (.bipush 8, 2) := by decide +kernel
theorem dL_build_288 : decode cL_build 288 = .ok (.iload 6, 2) := by decide +kernel
theorem dL_build_290 : decode cL_build 290 = .ok (.imul, 1) := by decide +kernel
theorem dL_build_291 : decode cL_build 291 = .ok (.iadd, 1) := by decide +kernel
theorem dL_build_292 : decode cL_build 292 = .ok (.iload 7, 2) := by decide +kernel
theorem dL_build_294 : decode cL_build 294 = .ok (.iconst 4, 1) := by decide +kernel
theorem dL_build_295 : decode cL_build 295 = .ok (.ishr, 1) := by decide +kernel
theorem dL_build_296 : decode cL_build 296 = .ok (.bipush 25, 2) := by decide +kernel
theorem dL_build_298 : decode cL_build 298 = .ok (.invokestatic 15, 3) := by decide +kernel
theorem dL_build_301 : decode cL_build 301 = .ok (.iastore, 1) := by decide +kernel
theorem dL_build_302 : decode cL_build 302 = .ok (.aload 4, 2) := by decide +kernel
theorem dL_build_304 : decode cL_build 304 = .ok (.bipush 23, 2) := by decide +kernel
theorem dL_build_306 : decode cL_build 306 = .ok (.bipush 8, 2) := by decide +kernel
theorem dL_build_308 : decode cL_build 308 = .ok (.iload 6, 2) := by decide +kernel
theorem dL_build_310 : decode cL_build 310 = .ok (.imul, 1) := by decide +kernel
theorem dL_build_311 : decode cL_build 311 = .ok (.iadd, 1) := by decide +kernel
theorem dL_build_312 : decode cL_build 312 = .ok (.aload 4, 2) := by decide +kernel
theorem dL_build_314 : decode cL_build 314 = .ok (.bipush 22, 2) := by decide +kernel
theorem dL_build_316 : decode cL_build 316 = .ok (.bipush 8, 2) := by decide +kernel
theorem dL_build_318 : decode cL_build 318 = .ok (.iload 6, 2) := by decide +kernel
theorem dL_build_320 : decode cL_build 320 = .ok (.imul, 1) := by decide +kernel
theorem dL_build_321 : decode cL_build 321 = .ok (.iadd, 1) := by decide +kernel
theorem dL_build_322 : decode cL_build 322 = .ok (.iaload, 1) := by decide +kernel
theorem dL_build_323 : decode cL_build 323 = .ok (.bipush 15, 2) := by decide +kernel
theorem dL_build_325 : decode cL_build 325 = .ok (.iadd, 1) := by decide +kernel
theorem dL_build_326 : decode cL_build 326 = .ok (.iload 7, 2) := by decide +kernel
theorem dL_build_328 : decode cL_build 328 = .ok (.iconst 5, 1) := by decide +kernel
theorem dL_build_329 : decode cL_build 329 = .ok (.ishr, 1) := by decide +kernel
theorem dL_build_330 : decode cL_build 330 = .ok (.bipush 80, 2) := by decide +kernel
theorem dL_build_332 : decode cL_build 332 = .ok (.invokestatic 15, 3) := by decide +kernel
theorem dL_build_335 : decode cL_build 335 = .ok (.iadd, 1) := by decide +kernel
theorem dL_build_336 : decode cL_build 336 = .ok (.iastore, 1) := by decide +kernel
theorem dL_build_337 : decode cL_build 337 = .ok (.aload 4, 2) := by decide +kernel
theorem dL_build_339 : decode cL_build 339 = .ok (.bipush 24, 2) := by decide +kernel
theorem dL_build_341 : decode cL_build 341 = .ok (.bipush 8, 2) := by decide +kernel
theorem dL_build_343 : decode cL_build 343 = .ok (.iload 6, 2) := by decide +kernel
theorem dL_build_345 : decode cL_build 345 = .ok (.imul, 1) := by decide +kernel
theorem dL_build_346 : decode cL_build 346 = .ok (.iadd, 1) := by decide +kernel
theorem dL_build_347 : decode cL_build 347 = .ok (.iconst (-1), 1) := by decide +kernel
theorem dL_build_348 : decode cL_build 348 = .ok (.iastore, 1) := by decide +kernel
theorem dL_build_349 : decode cL_build 349 = .ok (.aload_n 0, 1) := by decide +kernel
theorem dL_build_350 : decode cL_build 350 = .ok (.aload 4, 2) := by decide +kernel
theorem dL_build_352 : decode cL_build 352 = .ok (.bipush 20, 2) := by decide +kernel
theorem dL_build_354 : decode cL_build 354 = .ok (.bipush 8, 2) := by decide +kernel
theorem dL_build_356 : decode cL_build 356 = .ok (.iload 6, 2) := by decide +kernel
theorem dL_build_358 : decode cL_build 358 = .ok (.imul, 1) := by decide +kernel
theorem dL_build_359 : decode cL_build 359 = .ok (.iadd, 1) := by decide +kernel
theorem dL_build_360 : decode cL_build 360 = .ok (.iaload, 1) := by decide +kernel
theorem dL_build_361 : decode cL_build 361 = .ok (.aload 4, 2) := by decide +kernel
theorem dL_build_363 : decode cL_build 363 = .ok (.bipush 21, 2) := by decide +kernel
theorem dL_build_365 : decode cL_build 365 = .ok (.bipush 8, 2) := by decide +kernel
theorem dL_build_367 : decode cL_build 367 = .ok (.iload 6, 2) := by decide +kernel
theorem dL_build_369 : decode cL_build 369 = .ok (.imul, 1) := by decide +kernel
theorem dL_build_370 : decode cL_build 370 = .ok (.iadd, 1) := by decide +kernel
theorem dL_build_371 : decode cL_build 371 = .ok (.iaload, 1) := by decide +kernel
theorem dL_build_372 : decode cL_build 372 = .ok (.aload 4, 2) := by decide +kernel
theorem dL_build_374 : decode cL_build 374 = .ok (.bipush 22, 2) := by decide +kernel
theorem dL_build_376 : decode cL_build 376 = .ok (.bipush 8, 2) := by decide +kernel
theorem dL_build_378 : decode cL_build 378 = .ok (.iload 6, 2) := by decide +kernel
theorem dL_build_380 : decode cL_build 380 = .ok (.imul, 1) := by decide +kernel
theorem dL_build_381 : decode cL_build 381 = .ok (.iadd, 1) := by decide +kernel
theorem dL_build_382 : decode cL_build 382 = .ok (.iaload, 1) := by decide +kernel
theorem dL_build_383 : decode cL_build 383 = .ok (.aload 4, 2) := by decide +kernel
theorem dL_build_385 : decode cL_build 385 = .ok (.bipush 23, 2) := by decide +kernel
theorem dL_build_387 : decode cL_build 387 = .ok (.bipush 8, 2) := by decide +kernel
theorem dL_build_389 : decode cL_build 389 = .ok (.iload 6, 2) := by decide +kernel
theorem dL_build_391 : decode cL_build 391 = .ok (.imul, 1) := by decide +kernel
theorem dL_build_392 : decode cL_build 392 = .ok (.iadd, 1) := by decide +kernel
theorem dL_build_393 : decode cL_build 393 = .ok (.iaload, 1) := by decide +kernel
theorem dL_build_394 : decode cL_build 394 = .ok (.invokevirtual 29, 3) := by decide +kernel
theorem dL_build_397 : decode cL_build 397 = .ok (.iload 6, 2) := by decide +kernel
theorem dL_build_399 : decode cL_build 399 = .ok (.if_icmp .eq 5, 3) := by decide +kernel
theorem dL_build_402 : decode cL_build 402 = .ok (.aconst_null, 1) := by decide +kernel
theorem dL_build_403 : decode cL_build 403 = .ok (.areturn, 1) := by decide +kernel
theorem dL_build_404 : decode cL_build 404 = .ok (.iinc 6 1, 3) := by decide +kernel
theorem dL_build_407 : decode cL_build 407 = .ok (.goto (-200), 3) := by decide +kernel
theorem dL_build_410 : decode cL_build 410 = .ok (.iconst 1, 1) := by decide +kernel
theorem dL_build_411 : decode cL_build 411 = .ok (.aload_n 1, 1) := by decide +kernel
theorem dL_build_412 : decode cL_build 412 = .ok (.iload_n 2, 1) := by decide +kernel
theorem dL_build_413 : decode cL_build 413 = .ok (.iconst 2, 1) := by decide +kernel
theorem dL_build_414 : decode cL_build 414 = .ok (.iadd, 1) := by decide +kernel
theorem dL_build_415 : decode cL_build 415 = .ok (.invokestatic 9, 3) := by decide +kernel
theorem dL_build_418 : decode cL_build 418 = .ok (.iload_n 3, 1) := by decide +kernel
theorem dL_build_419 : decode cL_build 419 = .ok (.invokestatic 15, 3) := by decide +kernel
theorem dL_build_422 : decode cL_build 422 = .ok (.iadd, 1) := by decide +kernel
theorem dL_build_423 : decode cL_build 423 = .ok (.istore 6, 2) := by decide +kernel
theorem dL_build_425 : decode cL_build 425 = .ok (.iconst 0, 1) := by decide +kernel
theorem dL_build_426 : decode cL_build 426 = .ok (.istore 7, 2) := by decide +kernel
theorem dL_build_428 : decode cL_build 428 = .ok (.iload 7, 2) := by decide +kernel
theorem dL_build_430 : decode cL_build 430 = .ok (.iload 6, 2) := by decide +kernel
theorem dL_build_432 : decode cL_build 432 = .ok (.if_icmp .ge 39, 3) := by decide +kernel
theorem dL_build_435 : decode cL_build 435 = .ok (.aload_n 0, 1) := by decide +kernel
theorem dL_build_436 : decode cL_build 436 = .ok (.aload 4, 2) := by decide +kernel
theorem dL_build_438 : decode cL_build 438 = .ok (.aload_n 1, 1) := by decide +kernel
theorem dL_build_439 : decode cL_build 439 = .ok (.iload_n 2, 1) := by decide +kernel
theorem dL_build_440 : decode cL_build 440 = .ok (.iconst 3, 1) := by decide +kernel
theorem dL_build_441 : decode cL_build 441 = .ok (.iadd, 1) := by decide +kernel
theorem dL_build_442 : decode cL_build 442 = .ok (.iload 7, 2) := by decide +kernel
theorem dL_build_444 : decode cL_build 444 = .ok (.iconst 4, 1) := by decide +kernel
theorem dL_build_445 : decode cL_build 445 = .ok (.irem, 1) := by decide +kernel
theorem dL_build_446 : decode cL_build 446 = .ok (.iadd, 1) := by decide +kernel
theorem dL_build_447 : decode cL_build 447 = .ok (.invokestatic 9, 3) := by decide +kernel
theorem dL_build_450 : decode cL_build 450 = .ok (.iload 7, 2) := by decide +kernel
theorem dL_build_452 : decode cL_build 452 = .ok (.iconst 4, 1) := by decide +kernel
theorem dL_build_453 : decode cL_build 453 = .ok (.idiv, 1) := by decide +kernel
theorem dL_build_454 : decode cL_build 454 = .ok (.iconst 5, 1) := by decide +kernel
theorem dL_build_455 : decode cL_build 455 = .ok (.imul, 1) := by decide +kernel
theorem dL_build_456 : decode cL_build 456 = .ok (.ishr, 1) := by decide +kernel
theorem dL_build_457 : decode cL_build 457 = .ok (.invokestatic 33, 3) := by decide +kernel
theorem dL_build_460 : decode cL_build 460 = .ok (.ifCond .ne 5, 3) := by decide +kernel
theorem dL_build_463 : decode cL_build 463 = .ok (.aconst_null, 1) := by decide +kernel
theorem dL_build_464 : decode cL_build 464 = .ok (.areturn, 1) := by decide +kernel
theorem dL_build_465 : decode cL_build 465 = .ok (.iinc 7 1, 3) := by decide +kernel
theorem dL_build_468 : decode cL_build 468 = .ok (.goto (-40), 3) := by decide +kernel
theorem dL_build_471 : decode cL_build 471 = .ok (.aload 4, 2) := by decide +kernel
theorem dL_build_473 : decode cL_build 473 = .ok (.areturn, 1) := by decide +kernel
theorem dL_open_0 : decode cL_open 0 = .ok (.bipush 70, 2) := by decide +kernel
theorem dL_open_2 : decode cL_open 2 = .ok (.bipush 14, 2) := by decide +kernel
theorem dL_open_4 : decode cL_open 4 = .ok (.aload_n 1, 1) := by decide +kernel
theorem dL_open_5 : decode cL_open 5 = .ok (.iconst 4, 1) := by decide +kernel
theorem dL_open_6 : decode cL_open 6 = .ok (.iaload, 1) := by decide +kernel
theorem dL_open_7 : decode cL_open 7 = .ok (.imul, 1) := by decide +kernel
theorem dL_open_8 : decode cL_open 8 = .ok (.iadd, 1) := by decide +kernel
theorem dL_open_9 : decode cL_open 9 = .ok (.istore_n 3, 1) := by decide +kernel
theorem dL_open_10 : decode cL_open 10 = .ok (.aload_n 1, 1) := by decide +kernel
theorem dL_open_11 : decode cL_open 11 = .ok (.iload_n 3, 1) := by decide +kernel
theorem dL_open_12 : decode cL_open 12 = .ok (.iload_n 2, 1) := by decide +kernel
theorem dL_open_13 : decode cL_open 13 = .ok (.iconst 3, 1) := by decide +kernel
theorem dL_open_14 : decode cL_open 14 = .ok (.invokestatic 15, 3) := by decide +kernel
theorem dL_open_17 : decode cL_open 17 = .ok (.iastore, 1) := by decide +kernel
theorem dL_open_18 : decode cL_open 18 = .ok (.aload_n 1, 1) := by decide +kernel
theorem dL_open_19 : decode cL_open 19 = .ok (.iload_n 3, 1) := by decide +kernel
theorem dL_open_20 : decode cL_open 20 = .ok (.iconst 1, 1) := by decide +kernel
theorem dL_open_21 : decode cL_open 21 = .ok (.iadd, 1) := by decide +kernel
theorem dL_open_22 : decode cL_open 22 = .ok (.iload_n 2, 1) := by decide +kernel
theorem dL_open_23 : decode cL_open 23 = .ok (.iconst 2, 1) := by decide +kernel
theorem dL_open_24 : decode cL_open 24 = .ok (.ishr, 1) := by decide +kernel
theorem dL_open_25 : decode cL_open 25 = .ok (.iconst 4, 1) := by decide +kernel
theorem dL_open_26 : decode cL_open 26 = .ok (.invokestatic 15, 3) := by decide +kernel
theorem dL_open_29 : decode cL_open 29 = .ok (.iastore, 1) := by decide +kernel
theorem dL_open_30 : decode cL_open 30 = .ok (.aload_n 1, 1) := by decide +kernel
theorem dL_open_31 : decode cL_open 31 = .ok (.iload_n 3, 1) := by decide +kernel
theorem dL_open_32 : decode cL_open 32 = .ok (.iconst 2, 1) := by decide +kernel
theorem dL_open_33 : decode cL_open 33 = .ok (.iadd, 1) := by decide +kernel
theorem dL_open_34 : decode cL_open 34 = .ok (.iconst 1, 1) := by decide +kernel
theorem dL_open_35 : decode cL_open 35 = .ok (.iload_n 2, 1) := by decide +kernel
theorem dL_open_36 : decode cL_open 36 = .ok (.iconst 4, 1) := by decide +kernel
theorem dL_open_37 : decode cL_open 37 = .ok (.ishr, 1) := by decide +kernel
theorem dL_open_38 : decode cL_open 38 = .ok (.bipush 25, 2) := by decide +kernel
theorem dL_open_40 : decode cL_open 40 = .ok (.invokestatic 15, 3) := by decide +kernel
theorem dL_open_43 : decode cL_open 43 = .ok (.iadd, 1) := by decide +kernel
theorem dL_open_44 : decode cL_open 44 = .ok (.iastore, 1) := by decide +kernel
theorem dL_open_45 : decode cL_open 45 = .ok (.aload_n 1, 1) := by decide +kernel
theorem dL_open_46 : decode cL_open 46 = .ok (.iload_n 3, 1) := by decide +kernel
theorem dL_open_47 : decode cL_open 47 = .ok (.iconst 3, 1) := by decide +kernel
theorem dL_open_48 : decode cL_open 48 = .ok (.iadd, 1) := by decide +kernel
theorem dL_open_49 : decode cL_open 49 = .ok (.iload_n 2, 1) := by decide +kernel
theorem dL_open_50 : decode cL_open 50 = .ok (.bipush 7, 2) := by decide +kernel
theorem dL_open_52 : decode cL_open 52 = .ok (.ishr, 1) := by decide +kernel
theorem dL_open_53 : decode cL_open 53 = .ok (.bipush 10, 2) := by decide +kernel
theorem dL_open_55 : decode cL_open 55 = .ok (.invokestatic 15, 3) := by decide +kernel
theorem dL_open_58 : decode cL_open 58 = .ok (.iastore, 1) := by decide +kernel
theorem dL_open_59 : decode cL_open 59 = .ok (.aload_n 1, 1) := by decide +kernel
theorem dL_open_60 : decode cL_open 60 = .ok (.iload_n 3, 1) := by decide +kernel
theorem dL_open_61 : decode cL_open 61 = .ok (.bipush 7, 2) := by decide +kernel
theorem dL_open_63 : decode cL_open 63 = .ok (.iadd, 1) := by decide +kernel
theorem dL_open_64 : decode cL_open 64 = .ok (.iconst (-1), 1) := by decide +kernel
theorem dL_open_65 : decode cL_open 65 = .ok (.iastore, 1) := by decide +kernel
theorem dL_open_66 : decode cL_open 66 = .ok (.aload_n 1, 1) := by decide +kernel
theorem dL_open_67 : decode cL_open 67 = .ok (.iload_n 3, 1) := by decide +kernel
theorem dL_open_68 : decode cL_open 68 = .ok (.bipush 8, 2) := by decide +kernel
theorem dL_open_70 : decode cL_open 70 = .ok (.iadd, 1) := by decide +kernel
theorem dL_open_71 : decode cL_open 71 = .ok (.iconst (-1), 1) := by decide +kernel
theorem dL_open_72 : decode cL_open 72 = .ok (.iastore, 1) := by decide +kernel
theorem dL_open_73 : decode cL_open 73 = .ok (.aload_n 1, 1) := by decide +kernel
theorem dL_open_74 : decode cL_open 74 = .ok (.iconst 4, 1) := by decide +kernel
theorem dL_open_75 : decode cL_open 75 = .ok (.dup2, 1) := by decide +kernel
theorem dL_open_76 : decode cL_open 76 = .ok (.iaload, 1) := by decide +kernel
theorem dL_open_77 : decode cL_open 77 = .ok (.iconst 1, 1) := by decide +kernel
theorem dL_open_78 : decode cL_open 78 = .ok (.iadd, 1) := by decide +kernel
theorem dL_open_79 : decode cL_open 79 = .ok (.iastore, 1) := by decide +kernel
theorem dL_open_80 : decode cL_open 80 = .ok (.aload_n 0, 1) := by decide +kernel
theorem dL_open_81 : decode cL_open 81 = .ok (.aload_n 1, 1) := by decide +kernel
theorem dL_open_82 : decode cL_open 82 = .ok (.iload_n 3, 1) := by decide +kernel
theorem dL_open_83 : decode cL_open 83 = .ok (.iaload, 1) := by decide +kernel
theorem dL_open_84 : decode cL_open 84 = .ok (.aload_n 1, 1) := by decide +kernel
theorem dL_open_85 : decode cL_open 85 = .ok (.iload_n 3, 1) := by decide +kernel
theorem dL_open_86 : decode cL_open 86 = .ok (.iconst 1, 1) := by decide +kernel
theorem dL_open_87 : decode cL_open 87 = .ok (.iadd, 1) := by decide +kernel
theorem dL_open_88 : decode cL_open 88 = .ok (.iaload, 1) := by decide +kernel
theorem dL_open_89 : decode cL_open 89 = .ok (.aload_n 1, 1) := by decide +kernel
theorem dL_open_90 : decode cL_open 90 = .ok (.iload_n 3, 1) := by decide +kernel
theorem dL_open_91 : decode cL_open 91 = .ok (.iconst 2, 1) := by decide +kernel
theorem dL_open_92 : decode cL_open 92 = .ok (.iadd, 1) := by decide +kernel
theorem dL_open_93 : decode cL_open 93 = .ok (.iaload, 1) := by decide +kernel
theorem dL_open_94 : decode cL_open 94 = .ok (.aload_n 1, 1) := by decide +kernel
theorem dL_open_95 : decode cL_open 95 = .ok (.iload_n 3, 1) := by decide +kernel
theorem dL_open_96 : decode cL_open 96 = .ok (.iconst 3, 1) := by decide +kernel
theorem dL_open_97 : decode cL_open 97 = .ok (.iadd, 1) := by decide +kernel
theorem dL_open_98 : decode cL_open 98 = .ok (.iaload, 1) := by decide +kernel
theorem dL_open_99 : decode cL_open 99 = .ok (.invokevirtual 37, 3) := by decide +kernel
theorem dL_open_102 : decode cL_open 102 = .ok (.aload_n 1, 1) := by decide +kernel
theorem dL_open_103 : decode cL_open 103 = .ok (.iconst 4, 1) := by decide +kernel
theorem dL_open_104 : decode cL_open 104 = .ok (.iaload, 1) := by decide +kernel
theorem dL_open_105 : decode cL_open 105 = .ok (.iconst 1, 1) := by decide +kernel
theorem dL_open_106 : decode cL_open 106 = .ok (.isub, 1) := by decide +kernel
theorem dL_open_107 : decode cL_open 107 = .ok (.if_icmp .ne 7, 3) := by decide +kernel
theorem dL_open_110 : decode cL_open 110 = .ok (.iconst 1, 1) := by decide +kernel
theorem dL_open_111 : decode cL_open 111 = .ok (.goto 4, 3) := by decide +kernel
theorem dL_open_114 : decode cL_open 114 = .ok (.iconst 0, 1) := by decide +kernel
theorem dL_open_115 : decode cL_open 115 = .ok (.ireturn, 1) := by decide +kernel
theorem dL_law_0 : decode cL_law 0 = .ok (.new 20, 3) := by decide +kernel
theorem dL_law_3 : decode cL_law 3 = .ok (.dup, 1) := by decide +kernel
theorem dL_law_4 : decode cL_law 4 = .ok (.invokespecial 53, 3) := by decide +kernel
theorem dL_law_7 : decode cL_law 7 = .ok (.astore_n 1, 1) := by decide +kernel
theorem dL_law_8 : decode cL_law 8 = .ok (.aload_n 1, 1) := by decide +kernel
theorem dL_law_9 : decode cL_law 9 = .ok (.aload_n 0, 1) := by decide +kernel
theorem dL_law_10 : decode cL_law 10 = .ok (.iconst 0, 1) := by decide +kernel
theorem dL_law_11 : decode cL_law 11 = .ok (.bipush 14, 2) := by decide +kernel
theorem dL_law_13 : decode cL_law 13 = .ok (.invokestatic 54, 3) := by decide +kernel
theorem dL_law_16 : decode cL_law 16 = .ok (.astore_n 2, 1) := by decide +kernel
theorem dL_law_17 : decode cL_law 17 = .ok (.aload_n 2, 1) := by decide +kernel
theorem dL_law_18 : decode cL_law 18 = .ok (.ifnonnull 5, 3) := by decide +kernel
theorem dL_law_21 : decode cL_law 21 = .ok (.iconst 0, 1) := by decide +kernel
theorem dL_law_22 : decode cL_law 22 = .ok (.ireturn, 1) := by decide +kernel
theorem dL_law_23 : decode cL_law 23 = .ok (.iconst 0, 1) := by decide +kernel
theorem dL_law_24 : decode cL_law 24 = .ok (.istore_n 3, 1) := by decide +kernel
theorem dL_law_25 : decode cL_law 25 = .ok (.iconst 0, 1) := by decide +kernel
theorem dL_law_26 : decode cL_law 26 = .ok (.istore 4, 2) := by decide +kernel
theorem dL_law_28 : decode cL_law 28 = .ok (.iload 4, 2) := by decide +kernel
theorem dL_law_30 : decode cL_law 30 = .ok (.bipush 30, 2) := by decide +kernel
theorem dL_law_32 : decode cL_law 32 = .ok (.if_icmp .ge 529, 3) := by decide +kernel
theorem dL_law_35 : decode cL_law 35 = .ok (.aload_n 0, 1) := by decide +kernel
theorem dL_law_36 : decode cL_law 36 = .ok (.bipush 7, 2) := by decide +kernel
theorem dL_law_38 : decode cL_law 38 = .ok (.iload 4, 2) := by decide +kernel
theorem dL_law_40 : decode cL_law 40 = .ok (.bipush 8, 2) := by decide +kernel
theorem dL_law_42 : decode cL_law 42 = .ok (.irem, 1) := by decide +kernel
theorem dL_law_43 : decode cL_law 43 = .ok (.iadd, 1) := by decide +kernel
theorem dL_law_44 : decode cL_law 44 = .ok (.invokestatic 9, 3) := by decide +kernel
theorem dL_law_47 : decode cL_law 47 = .ok (.iload 4, 2) := by decide +kernel
theorem dL_law_49 : decode cL_law 49 = .ok (.bipush 8, 2) := by decide +kernel
theorem dL_law_51 : decode cL_law 51 = .ok (.idiv, 1) := by decide +kernel
theorem dL_law_52 : decode cL_law 52 = .ok (.bipush 7, 2) := by decide +kernel
theorem dL_law_54 : decode cL_law 54 = .ok (.imul, 1) := by decide +kernel
theorem dL_law_55 : decode cL_law 55 = .ok (.ishr, 1) := by decide +kernel
theorem dL_law_56 : decode cL_law 56 = .ok (.istore 5, 2) := by decide +kernel
theorem dL_law_58 : decode cL_law 58 = .ok (.iload 5, 2) := by decide +kernel
theorem dL_law_60 : decode cL_law 60 = .ok (.iconst 3, 1) := by decide +kernel
theorem dL_law_61 : decode cL_law 61 = .ok (.ishr, 1) := by decide +kernel
theorem dL_law_62 : decode cL_law 62 = .ok (.aload_n 2, 1) := by decide +kernel
theorem dL_law_63 : decode cL_law 63 = .ok (.iconst 4, 1) := by decide +kernel
theorem dL_law_64 : decode cL_law 64 = .ok (.iaload, 1) := by decide +kernel
theorem dL_law_65 : decode cL_law 65 = .ok (.invokestatic 15, 3) := by decide +kernel
theorem dL_law_68 : decode cL_law 68 = .ok (.istore 6, 2) := by decide +kernel
theorem dL_law_70 : decode cL_law 70 = .ok (.iload 5, 2) := by decide +kernel
theorem dL_law_72 : decode cL_law 72 = .ok (.bipush 8, 2) := by decide +kernel
theorem dL_law_74 : decode cL_law 74 = .ok (.invokestatic 15, 3) := by decide +kernel
theorem dL_law_77 : decode cL_law 77 = .ok (.istore 7, 2) := by decide +kernel
theorem dL_law_79 : decode cL_law 79 = .ok (.aload_n 1, 1) := by decide +kernel
theorem dL_law_80 : decode cL_law 80 = .ok (.iload 6, 2) := by decide +kernel
theorem dL_law_82 : decode cL_law 82 = .ok (.iconst 0, 1) := by decide +kernel
theorem dL_law_83 : decode cL_law 83 = .ok (.invokevirtual 58, 3) := by decide +kernel
theorem dL_law_86 : decode cL_law 86 = .ok (.istore 8, 2) := by decide +kernel
theorem dL_law_88 : decode cL_law 88 = .ok (.iload 7, 2) := by decide +kernel
theorem dL_law_90 : decode cL_law 90 = .ok (.ifCond .ne 16, 3) := by decide +kernel
theorem dL_law_93 : decode cL_law 93 = .ok (.iload 8, 2) := by decide +kernel
theorem dL_law_95 : decode cL_law 95 = .ok (.iconst 2, 1) := by decide +kernel
theorem dL_law_96 : decode cL_law 96 = .ok (.if_icmp .ge 10, 3) := by decide +kernel
theorem dL_law_99 : decode cL_law 99 = .ok (.aload_n 1, 1) := by decide +kernel
theorem dL_law_100 : decode cL_law 100 = .ok (.iload 6, 2) := by decide +kernel
theorem dL_law_102 : decode cL_law 102 = .ok (.invokevirtual 61, 3) := by decide +kernel
theorem dL_law_105 : decode cL_law 105 = .ok (.pop, 1) := by decide +kernel
theorem dL_law_106 : decode cL_law 106 = .ok (.iload 7, 2) := by decide +kernel
theorem dL_law_108 : decode cL_law 108 = .ok (.iconst 1, 1) := by decide +kernel
theorem dL_law_109 : decode cL_law 109 = .ok (.if_icmp .ne 16, 3) := by decide +kernel
theorem dL_law_112 : decode cL_law 112 = .ok (.iload 8, 2) := by decide +kernel
theorem dL_law_114 : decode cL_law 114 = .ok (.iconst 2, 1) := by decide +kernel
theorem dL_law_115 : decode cL_law 115 = .ok (.if_icmp .ne 10, 3) := by decide +kernel
theorem dL_law_118 : decode cL_law 118 = .ok (.aload_n 1, 1) := by decide +kernel
theorem dL_law_119 : decode cL_law 119 = .ok (.iload 6, 2) := by decide +kernel
theorem dL_law_121 : decode cL_law 121 = .ok (.invokevirtual 65, 3) := by decide +kernel
theorem dL_law_124 : decode cL_law 124 = .ok (.pop, 1) := by decide +kernel
theorem dL_law_125 : decode cL_law 125 = .ok (.iload 7, 2) := by decide +kernel
theorem dL_law_127 : decode cL_law 127 = .ok (.iconst 2, 1) := by decide +kernel
theorem dL_law_128 : decode cL_law 128 = .ok (.if_icmp .ne 28, 3) := by decide +kernel
theorem dL_law_131 : decode cL_law 131 = .ok (.iload 8, 2) := by decide +kernel
theorem dL_law_133 : decode cL_law 133 = .ok (.iconst 3, 1) := by decide +kernel
theorem dL_law_134 : decode cL_law 134 = .ok (.if_icmp .ne 22, 3) := by decide +kernel
theorem dL_law_137 : decode cL_law 137 = .ok (.aload_n 1, 1) := by decide +kernel
theorem dL_law_138 : decode cL_law 138 = .ok (.iload 6, 2) := by decide +kernel
theorem dL_law_140 : decode cL_law 140 = .ok (.iconst 1, 1) := by decide +kernel
theorem dL_law_141 : decode cL_law 141 = .ok (.iload 5, 2) := by decide +kernel
theorem dL_law_143 : decode cL_law 143 = .ok (.bipush 6, 2) := by decide +kernel
theorem dL_law_145 : decode cL_law 145 = .ok (.ishr, 1) := by decide +kernel
theorem dL_law_146 : decode cL_law 146 = .ok (.bipush 20, 2) := by decide +kernel
theorem dL_law_148 : decode cL_law 148 = .ok (.invokestatic 15, 3) := by decide +kernel
theorem dL_law_151 : decode cL_law 151 = .ok (.iadd, 1) := by decide +kernel
theorem dL_law_152 : decode cL_law 152 = .ok (.invokevirtual 68, 3) := by decide +kernel
theorem dL_law_155 : decode cL_law 155 = .ok (.pop, 1) := by decide +kernel
theorem dL_law_156 : decode cL_law 156 = .ok (.iload 7, 2) := by decide +kernel
theorem dL_law_158 : decode cL_law 158 = .ok (.iconst 3, 1) := by decide +kernel
theorem dL_law_159 : decode cL_law 159 = .ok (.if_icmp .ne 38, 3) := by decide +kernel
theorem dL_law_162 : decode cL_law 162 = .ok (.iload 8, 2) := by decide +kernel
theorem dL_law_164 : decode cL_law 164 = .ok (.iconst 3, 1) := by decide +kernel
theorem dL_law_165 : decode cL_law 165 = .ok (.if_icmp .ge 32, 3) := by decide +kernel
theorem dL_law_168 : decode cL_law 168 = .ok (.iload 6, 2) := by decide +kernel
theorem dL_law_170 : decode cL_law 170 = .ok (.ifCond .le 27, 3) := by decide +kernel
theorem dL_law_173 : decode cL_law 173 = .ok (.aload_n 1, 1) := by decide +kernel
theorem dL_law_174 : decode cL_law 174 = .ok (.iload 6, 2) := by decide +kernel
theorem dL_law_176 : decode cL_law 176 = .ok (.iconst 1, 1) := by decide +kernel
theorem dL_law_177 : decode cL_law 177 = .ok (.isub, 1) := by decide +kernel
theorem dL_law_178 : decode cL_law 178 = .ok (.iconst 0, 1) := by decide +kernel
theorem dL_law_179 : decode cL_law 179 = .ok (.invokevirtual 58, 3) := by decide +kernel
theorem dL_law_182 : decode cL_law 182 = .ok (.iconst 3, 1) := by decide +kernel
theorem dL_law_183 : decode cL_law 183 = .ok (.if_icmp .ge 14, 3) := by decide +kernel
theorem dL_law_186 : decode cL_law 186 = .ok (.aload_n 1, 1) := by decide +kernel
theorem dL_law_187 : decode cL_law 187 = .ok (.iload 6, 2) := by decide +kernel
theorem dL_law_189 : decode cL_law 189 = .ok (.iload 6, 2) := by decide +kernel
theorem dL_law_191 : decode cL_law 191 = .ok (.iconst 1, 1) := by decide +kernel
theorem dL_law_192 : decode cL_law 192 = .ok (.isub, 1) := by decide +kernel
theorem dL_law_193 : decode cL_law 193 = .ok (.invokevirtual 71, 3) := by decide +kernel
theorem dL_law_196 : decode cL_law 196 = .ok (.pop, 1) := by decide +kernel
theorem dL_law_197 : decode cL_law 197 = .ok (.iload_n 3, 1) := by decide +kernel
theorem dL_law_198 : decode cL_law 198 = .ok (.aload_n 1, 1) := by decide +kernel
theorem dL_law_199 : decode cL_law 199 = .ok (.iconst 1, 1) := by decide +kernel
theorem dL_law_200 : decode cL_law 200 = .ok (.iload 5, 2) := by decide +kernel
theorem dL_law_202 : decode cL_law 202 = .ok (.iconst 4, 1) := by decide +kernel
theorem dL_law_203 : decode cL_law 203 = .ok (.ishr, 1) := by decide +kernel
theorem dL_law_204 : decode cL_law 204 = .ok (.bipush 9, 2) := by decide +kernel
theorem dL_law_206 : decode cL_law 206 = .ok (.invokestatic 15, 3) := by decide +kernel
theorem dL_law_209 : decode cL_law 209 = .ok (.iadd, 1) := by decide +kernel
theorem dL_law_210 : decode cL_law 210 = .ok (.invokevirtual 74, 3) := by decide +kernel
theorem dL_law_213 : decode cL_law 213 = .ok (.iadd, 1) := by decide +kernel
theorem dL_law_214 : decode cL_law 214 = .ok (.istore_n 3, 1) := by decide +kernel
theorem dL_law_215 : decode cL_law 215 = .ok (.iconst 0, 1) := by decide +kernel
theorem dL_law_216 : decode cL_law 216 = .ok (.istore 9, 2) := by decide +kernel
theorem dL_law_218 : decode cL_law 218 = .ok (.iconst 0, 1) := by decide +kernel
theorem dL_law_219 : decode cL_law 219 = .ok (.istore 10, 2) := by decide +kernel
theorem dL_law_221 : decode cL_law 221 = .ok (.iconst 0, 1) := by decide +kernel
theorem dL_law_222 : decode cL_law 222 = .ok (.istore 11, 2) := by decide +kernel
theorem dL_law_224 : decode cL_law 224 = .ok (.iload 11, 2) := by decide +kernel
theorem dL_law_226 : decode cL_law 226 = .ok (.aload_n 2, 1) := by decide +kernel
theorem dL_law_227 : decode cL_law 227 = .ok (.iconst 3, 1) := by decide +kernel
theorem dL_law_228 : decode cL_law 228 = .ok (.iaload, 1) := by decide +kernel
theorem dL_law_229 : decode cL_law 229 = .ok (.if_icmp .ge 98, 3) := by decide +kernel
theorem dL_law_232 : decode cL_law 232 = .ok (.aload_n 1, 1) := by decide +kernel
theorem dL_law_233 : decode cL_law 233 = .ok (.iload 11, 2) := by decide +kernel
theorem dL_law_235 : decode cL_law 235 = .ok (.iconst 0, 1) := by decide +kernel
theorem dL_law_236 : decode cL_law 236 = .ok (.invokevirtual 77, 3) := by decide +kernel
theorem dL_law_239 : decode cL_law 239 = .ok (.istore 12, 2) := by decide +kernel
theorem dL_law_241 : decode cL_law 241 = .ok (.iload 12, 2) := by decide +kernel
theorem dL_law_243 : decode cL_law 243 = .ok (.ifCond .lt 54, 3) := by decide +kernel
theorem dL_law_246 : decode cL_law 246 = .ok (.aload_n 1, 1) := by decide +kernel
theorem dL_law_247 : decode cL_law 247 = .ok (.iload 12, 2) := by decide +kernel
theorem dL_law_249 : decode cL_law 249 = .ok (.iconst 1, 1) := by decide +kernel
theorem dL_law_250 : decode cL_law 250 = .ok (.invokevirtual 58, 3) := by decide +kernel
theorem dL_law_253 : decode cL_law 253 = .ok (.iload 11, 2) := by decide +kernel
theorem dL_law_255 : decode cL_law 255 = .ok (.if_icmp .ne 40, 3) := by decide +kernel
theorem dL_law_258 : decode cL_law 258 = .ok (.aload_n 1, 1) := by decide +kernel
theorem dL_law_259 : decode cL_law 259 = .ok (.iload 12, 2) := by decide +kernel
theorem dL_law_261 : decode cL_law 261 = .ok (.iconst 0, 1) := by decide +kernel
theorem dL_law_262 : decode cL_law 262 = .ok (.invokevirtual 58, 3) := by decide +kernel
theorem dL_law_265 : decode cL_law 265 = .ok (.iconst 1, 1) := by decide +kernel
theorem dL_law_266 : decode cL_law 266 = .ok (.if_icmp .ne 29, 3) := by decide +kernel
theorem dL_law_269 : decode cL_law 269 = .ok (.aload_n 2, 1) := by decide +kernel
theorem dL_law_270 : decode cL_law 270 = .ok (.bipush 20, 2) := by decide +kernel
theorem dL_law_272 : decode cL_law 272 = .ok (.bipush 8, 2) := by decide +kernel
theorem dL_law_274 : decode cL_law 274 = .ok (.iload 11, 2) := by decide +kernel
theorem dL_law_276 : decode cL_law 276 = .ok (.imul, 1) := by decide +kernel
theorem dL_law_277 : decode cL_law 277 = .ok (.iadd, 1) := by decide +kernel
theorem dL_law_278 : decode cL_law 278 = .ok (.iaload, 1) := by decide +kernel
theorem dL_law_279 : decode cL_law 279 = .ok (.aload_n 2, 1) := by decide +kernel
theorem dL_law_280 : decode cL_law 280 = .ok (.bipush 70, 2) := by decide +kernel
theorem dL_law_282 : decode cL_law 282 = .ok (.bipush 14, 2) := by decide +kernel
theorem dL_law_284 : decode cL_law 284 = .ok (.iload 12, 2) := by decide +kernel
theorem dL_law_286 : decode cL_law 286 = .ok (.imul, 1) := by decide +kernel
theorem dL_law_287 : decode cL_law 287 = .ok (.iadd, 1) := by decide +kernel
theorem dL_law_288 : decode cL_law 288 = .ok (.iaload, 1) := by decide +kernel
theorem dL_law_289 : decode cL_law 289 = .ok (.ishr, 1) := by decide +kernel
theorem dL_law_290 : decode cL_law 290 = .ok (.iconst 1, 1) := by decide +kernel
theorem dL_law_291 : decode cL_law 291 = .ok (.iand, 1) := by decide +kernel
theorem dL_law_292 : decode cL_law 292 = .ok (.ifCond .ne 5, 3) := by decide +kernel
theorem dL_law_295 : decode cL_law 295 = .ok (.iconst 0, 1) := by decide +kernel
theorem dL_law_296 : decode cL_law 296 = .ok (.ireturn, 1) := by decide +kernel
theorem dL_law_297 : decode cL_law 297 = .ok (.iload 9, 2) := by decide +kernel
theorem dL_law_299 : decode cL_law 299 = .ok (.aload_n 1, 1) := by decide +kernel
theorem dL_law_300 : decode cL_law 300 = .ok (.iload 11, 2) := by decide +kernel
theorem dL_law_302 : decode cL_law 302 = .ok (.iconst 1, 1) := by decide +kernel
theorem dL_law_303 : decode cL_law 303 = .ok (.invokevirtual 77, 3) := by decide +kernel
theorem dL_law_306 : decode cL_law 306 = .ok (.iadd, 1) := by decide +kernel
theorem dL_law_307 : decode cL_law 307 = .ok (.istore 9, 2) := by decide +kernel
theorem dL_law_309 : decode cL_law 309 = .ok (.iload 10, 2) := by decide +kernel
theorem dL_law_311 : decode cL_law 311 = .ok (.aload_n 1, 1) := by decide +kernel
theorem dL_law_312 : decode cL_law 312 = .ok (.iload 11, 2) := by decide +kernel
theorem dL_law_314 : decode cL_law 314 = .ok (.iconst 2, 1) := by decide +kernel
theorem dL_law_315 : decode cL_law 315 = .ok (.invokevirtual 77, 3) := by decide +kernel
theorem dL_law_318 : decode cL_law 318 = .ok (.iadd, 1) := by decide +kernel
theorem dL_law_319 : decode cL_law 319 = .ok (.istore 10, 2) := by decide +kernel
theorem dL_law_321 : decode cL_law 321 = .ok (.iinc 11 1, 3) := by decide +kernel
theorem dL_law_324 : decode cL_law 324 = .ok (.goto (-100), 3) := by decide +kernel
theorem dL_law_327 : decode cL_law 327 = .ok (.iload 10, 2) := by decide +kernel
theorem dL_law_329 : decode cL_law 329 = .ok (.iload_n 3, 1) := by decide +kernel
theorem dL_law_330 : decode cL_law 330 = .ok (.if_icmp .eq 5, 3) := by decide +kernel
theorem dL_law_333 : decode cL_law 333 = .ok (.iconst 0, 1) := by decide +kernel
theorem dL_law_334 : decode cL_law 334 = .ok (.ireturn, 1) := by decide +kernel
theorem dL_law_335 : decode cL_law 335 = .ok (.iconst 0, 1) := by decide +kernel
theorem dL_law_336 : decode cL_law 336 = .ok (.istore 11, 2) := by decide +kernel
theorem dL_law_338 : decode cL_law 338 = .ok (.iconst 0, 1) := by decide +kernel
theorem dL_law_339 : decode cL_law 339 = .ok (.istore 12, 2) := by decide +kernel
theorem dL_law_341 : decode cL_law 341 = .ok (.iload 12, 2) := by decide +kernel
theorem dL_law_343 : decode cL_law 343 = .ok (.aload_n 2, 1) := by decide +kernel
theorem dL_law_344 : decode cL_law 344 = .ok (.iconst 4, 1) := by decide +kernel
theorem dL_law_345 : decode cL_law 345 = .ok (.iaload, 1) := by decide +kernel
theorem dL_law_346 : decode cL_law 346 = .ok (.if_icmp .ge 200, 3) := by decide +kernel
theorem dL_law_349 : decode cL_law 349 = .ok (.aload_n 1, 1) := by decide +kernel
theorem dL_law_350 : decode cL_law 350 = .ok (.iload 12, 2) := by decide +kernel
theorem dL_law_352 : decode cL_law 352 = .ok (.iconst 0, 1) := by decide +kernel
theorem dL_law_353 : decode cL_law 353 = .ok (.invokevirtual 58, 3) := by decide +kernel
theorem dL_law_356 : decode cL_law 356 = .ok (.istore 13, 2) := by decide +kernel
theorem dL_law_358 : decode cL_law 358 = .ok (.aload_n 1, 1) := by decide +kernel
theorem dL_law_359 : decode cL_law 359 = .ok (.iload 12, 2) := by decide +kernel
theorem dL_law_361 : decode cL_law 361 = .ok (.iconst 1, 1) := by decide +kernel
theorem dL_law_362 : decode cL_law 362 = .ok (.invokevirtual 58, 3) := by decide +kernel
theorem dL_law_365 : decode cL_law 365 = .ok (.istore 14, 2) := by decide +kernel
theorem dL_law_367 : decode cL_law 367 = .ok (.iload 13, 2) := by decide +kernel
theorem dL_law_369 : decode cL_law 369 = .ok (.iconst 1, 1) := by decide +kernel
theorem dL_law_370 : decode cL_law 370 = .ok (.if_icmp .ne 7, 3) := by decide +kernel
theorem dL_law_373 : decode cL_law 373 = .ok (.iconst 1, 1) := by decide +kernel
theorem dL_law_374 : decode cL_law 374 = .ok (.goto 4, 3) := by decide +kernel
theorem dL_law_377 : decode cL_law 377 = .ok (.iconst 0, 1) := by decide +kernel
theorem dL_law_378 : decode cL_law 378 = .ok (.iload 14, 2) := by decide +kernel
theorem dL_law_380 : decode cL_law 380 = .ok (.ifCond .lt 7, 3) := by decide +kernel
theorem dL_law_383 : decode cL_law 383 = .ok (.iconst 1, 1) := by decide +kernel
theorem dL_law_384 : decode cL_law 384 = .ok (.goto 4, 3) := by decide +kernel
theorem dL_law_387 : decode cL_law 387 = .ok (.iconst 0, 1) := by decide +kernel
theorem dL_law_388 : decode cL_law 388 = .ok (.if_icmp .ne 20, 3) := by decide +kernel
theorem dL_law_391 : decode cL_law 391 = .ok (.iload 14, 2) := by decide +kernel
theorem dL_law_393 : decode cL_law 393 = .ok (.ifCond .lt 17, 3) := by decide +kernel
theorem dL_law_396 : decode cL_law 396 = .ok (.aload_n 1, 1) := by decide +kernel
theorem dL_law_397 : decode cL_law 397 = .ok (.iload 14, 2) := by decide +kernel
theorem dL_law_399 : decode cL_law 399 = .ok (.iconst 0, 1) := by decide +kernel
theorem dL_law_400 : decode cL_law 400 = .ok (.invokevirtual 77, 3) := by decide +kernel
theorem dL_law_403 : decode cL_law 403 = .ok (.iload 12, 2) := by decide +kernel
theorem dL_law_405 : decode cL_law 405 = .ok (.if_icmp .eq 5, 3) := by decide +kernel
theorem dL_law_408 : decode cL_law 408 = .ok (.iconst 0, 1) := by decide +kernel
theorem dL_law_409 : decode cL_law 409 = .ok (.ireturn, 1) := by decide +kernel
theorem dL_law_410 : decode cL_law 410 = .ok (.aload_n 1, 1) := by decide +kernel
theorem dL_law_411 : decode cL_law 411 = .ok (.iload 12, 2) := by decide +kernel
theorem dL_law_413 : decode cL_law 413 = .ok (.iconst 4, 1) := by decide +kernel
theorem dL_law_414 : decode cL_law 414 = .ok (.invokevirtual 58, 3) := by decide +kernel
theorem dL_law_417 : decode cL_law 417 = .ok (.istore 15, 2) := by decide +kernel
theorem dL_law_419 : decode cL_law 419 = .ok (.iload 11, 2) := by decide +kernel
theorem dL_law_421 : decode cL_law 421 = .ok (.iload 15, 2) := by decide +kernel
theorem dL_law_423 : decode cL_law 423 = .ok (.iadd, 1) := by decide +kernel
theorem dL_law_424 : decode cL_law 424 = .ok (.istore 11, 2) := by decide +kernel
theorem dL_law_426 : decode cL_law 426 = .ok (.iload 15, 2) := by decide +kernel
theorem dL_law_428 : decode cL_law 428 = .ok (.aload_n 1, 1) := by decide +kernel
theorem dL_law_429 : decode cL_law 429 = .ok (.iload 12, 2) := by decide +kernel
theorem dL_law_431 : decode cL_law 431 = .ok (.iconst 5, 1) := by decide +kernel
theorem dL_law_432 : decode cL_law 432 = .ok (.invokevirtual 58, 3) := by decide +kernel
theorem dL_law_435 : decode cL_law 435 = .ok (.if_icmp .gt 87, 3) := by decide +kernel
theorem dL_law_438 : decode cL_law 438 = .ok (.iload 13, 2) := by decide +kernel
theorem dL_law_440 : decode cL_law 440 = .ok (.iconst 3, 1) := by decide +kernel
theorem dL_law_441 : decode cL_law 441 = .ok (.if_icmp .ne 7, 3) := by decide +kernel
theorem dL_law_444 : decode cL_law 444 = .ok (.iconst 1, 1) := by decide +kernel
theorem dL_law_445 : decode cL_law 445 = .ok (.goto 4, 3) := by decide +kernel
theorem dL_law_448 : decode cL_law 448 = .ok (.iconst 0, 1) := by decide +kernel
theorem dL_law_449 : decode cL_law 449 = .ok (.iload 15, 2) := by decide +kernel
theorem dL_law_451 : decode cL_law 451 = .ok (.aload_n 1, 1) := by decide +kernel
theorem dL_law_452 : decode cL_law 452 = .ok (.iload 12, 2) := by decide +kernel
theorem dL_law_454 : decode cL_law 454 = .ok (.iconst 5, 1) := by decide +kernel
theorem dL_law_455 : decode cL_law 455 = .ok (.invokevirtual 58, 3) := by decide +kernel
theorem dL_law_458 : decode cL_law 458 = .ok (.if_icmp .ne 7, 3) := by decide +kernel
theorem dL_law_461 : decode cL_law 461 = .ok (.iconst 1, 1) := by decide +kernel
theorem dL_law_462 : decode cL_law 462 = .ok (.goto 4, 3) := by decide +kernel
theorem dL_law_465 : decode cL_law 465 = .ok (.iconst 0, 1) := by decide +kernel
theorem dL_law_466 : decode cL_law 466 = .ok (.if_icmp .ne 56, 3) := by decide +kernel
theorem dL_law_469 : decode cL_law 469 = .ok (.iload 15, 2) := by decide +kernel
theorem dL_law_471 : decode cL_law 471 = .ok (.ifCond .le 14, 3) := by decide +kernel
theorem dL_law_474 : decode cL_law 474 = .ok (.aload_n 1, 1) := by decide +kernel
theorem dL_law_475 : decode cL_law 475 = .ok (.iload 12, 2) := by decide +kernel
theorem dL_law_477 : decode cL_law 477 = .ok (.bipush 6, 2) := by decide +kernel
theorem dL_law_479 : decode cL_law 479 = .ok (.invokevirtual 58, 3) := by decide +kernel
theorem dL_law_482 : decode cL_law 482 = .ok (.ifCond .lt 40, 3) := by decide +kernel
theorem dL_law_485 : decode cL_law 485 = .ok (.aload_n 1, 1) := by decide +kernel
theorem dL_law_486 : decode cL_law 486 = .ok (.iload 12, 2) := by decide +kernel
theorem dL_law_488 : decode cL_law 488 = .ok (.bipush 6, 2) := by decide +kernel
theorem dL_law_490 : decode cL_law 490 = .ok (.invokevirtual 58, 3) := by decide +kernel
theorem dL_law_493 : decode cL_law 493 = .ok (.aload_n 1, 1) := by decide +kernel
theorem dL_law_494 : decode cL_law 494 = .ok (.iload 12, 2) := by decide +kernel
theorem dL_law_496 : decode cL_law 496 = .ok (.iconst 3, 1) := by decide +kernel
theorem dL_law_497 : decode cL_law 497 = .ok (.invokevirtual 58, 3) := by decide +kernel
theorem dL_law_500 : decode cL_law 500 = .ok (.if_icmp .gt 22, 3) := by decide +kernel
theorem dL_law_503 : decode cL_law 503 = .ok (.aload_n 1, 1) := by decide +kernel
theorem dL_law_504 : decode cL_law 504 = .ok (.iload 12, 2) := by decide +kernel
theorem dL_law_506 : decode cL_law 506 = .ok (.iconst 3, 1) := by decide +kernel
theorem dL_law_507 : decode cL_law 507 = .ok (.invokevirtual 58, 3) := by decide +kernel
theorem dL_law_510 : decode cL_law 510 = .ok (.aload_n 1, 1) := by decide +kernel
theorem dL_law_511 : decode cL_law 511 = .ok (.iconst 0, 1) := by decide +kernel
theorem dL_law_512 : decode cL_law 512 = .ok (.aload_n 1, 1) := by decide +kernel
theorem dL_law_513 : decode cL_law 513 = .ok (.invokevirtual 80, 3) := by decide +kernel
theorem dL_law_516 : decode cL_law 516 = .ok (.invokevirtual 84, 3) := by decide +kernel
theorem dL_law_519 : decode cL_law 519 = .ok (.if_icmp .le 5, 3) := by decide +kernel
theorem dL_law_522 : decode cL_law 522 = .ok (.iconst 0, 1) := by decide +kernel
theorem dL_law_523 : decode cL_law 523 = .ok (.ireturn, 1) := by decide +kernel
theorem dL_law_524 : decode cL_law 524 = .ok (.aload_n 1, 1) := by decide +kernel
theorem dL_law_525 : decode cL_law 525 = .ok (.iload 13, 2) := by decide +kernel
theorem dL_law_527 : decode cL_law 527 = .ok (.invokevirtual 87, 3) := by decide +kernel
theorem dL_law_530 : decode cL_law 530 = .ok (.iload 12, 2) := by decide +kernel
theorem dL_law_532 : decode cL_law 532 = .ok (.ishr, 1) := by decide +kernel
theorem dL_law_533 : decode cL_law 533 = .ok (.iconst 1, 1) := by decide +kernel
theorem dL_law_534 : decode cL_law 534 = .ok (.iand, 1) := by decide +kernel
theorem dL_law_535 : decode cL_law 535 = .ok (.ifCond .ne 5, 3) := by decide +kernel
theorem dL_law_538 : decode cL_law 538 = .ok (.iconst 0, 1) := by decide +kernel
theorem dL_law_539 : decode cL_law 539 = .ok (.ireturn, 1) := by decide +kernel
theorem dL_law_540 : decode cL_law 540 = .ok (.iinc 12 1, 3) := by decide +kernel
theorem dL_law_543 : decode cL_law 543 = .ok (.goto (-202), 3) := by decide +kernel
theorem dL_law_546 : decode cL_law 546 = .ok (.iload 11, 2) := by decide +kernel
theorem dL_law_548 : decode cL_law 548 = .ok (.iload 9, 2) := by decide +kernel
theorem dL_law_550 : decode cL_law 550 = .ok (.if_icmp .eq 5, 3) := by decide +kernel
theorem dL_law_553 : decode cL_law 553 = .ok (.iconst 0, 1) := by decide +kernel
theorem dL_law_554 : decode cL_law 554 = .ok (.ireturn, 1) := by decide +kernel
theorem dL_law_555 : decode cL_law 555 = .ok (.iinc 4 1, 3) := by decide +kernel
theorem dL_law_558 : decode cL_law 558 = .ok (.goto (-530), 3) := by decide +kernel
theorem dL_law_561 : decode cL_law 561 = .ok (.iconst 1, 1) := by decide +kernel
theorem dL_law_562 : decode cL_law 562 = .ok (.ireturn, 1) := by decide +kernel
end
section
/-! plain facts on numbers and arrays, to paste: each family by itself; over the kit's rows on nI and upd -/
/-! ===== order of ints, in all its forms, and through longs ===== -/
theorem fa_lt (a b : Int32) : a < b ↔ a.toInt < b.toInt := Int32.lt_iff_toInt_lt
theorem fa_le (a b : Int32) : a ≤ b ↔ a.toInt ≤ b.toInt := Int32.le_iff_toInt_le
theorem fa_eq (a b : Int32) : a = b ↔ a.toInt = b.toInt := Int32.toInt_inj.symm
theorem fa_lt64 (a b : Int64) : a < b ↔ a.toInt < b.toInt := Int64.lt_iff_toInt_lt
theorem fa_le64 (a b : Int64) : a ≤ b ↔ a.toInt ≤ b.toInt := Int64.le_iff_toInt_le
theorem fa_eq64 (a b : Int64) : a = b ↔ a.toInt = b.toInt := Int64.toInt_inj.symm
/-- a comparison of two ints taken as longs -/
theorem fa_wide_lt (a b : Int32) : a.toInt64 < b.toInt64 ↔ a < b := by rw [fa_lt64, fa_lt, Int32.toInt_toInt64, Int32.toInt_toInt64]
theorem fa_wide_le (a b : Int32) : a.toInt64 ≤ b.toInt64 ↔ a ≤ b := by rw [fa_le64, fa_le, Int32.toInt_toInt64, Int32.toInt_toInt64]
theorem fa_wide_eq (a b : Int32) : a.toInt64 = b.toInt64 ↔ a = b := by rw [fa_eq64, fa_eq, Int32.toInt_toInt64, Int32.toInt_toInt64]
/-- one strict comparison gives all the others -/
theorem fa_of_lt {a b : Int32} (h : a < b) : a ≤ b ∧ ¬ b ≤ a ∧ ¬ b < a ∧ a ≠ b ∧ b ≠ a := by
  rw [fa_lt] at h
  refine ⟨?_, ?_, ?_, ?_, ?_⟩
  · rw [fa_le]; omega
  · rw [fa_le]; omega
  · rw [fa_lt]; omega
  · intro e; rw [fa_eq] at e; omega
  · intro e; rw [fa_eq] at e; omega
theorem fa_of_nlt {a b : Int32} (h : ¬ a < b) : b ≤ a := by
  rw [fa_lt] at h
  rw [fa_le]
  omega
theorem fa_of_nle {a b : Int32} (h : ¬ a ≤ b) : b < a := by
  rw [fa_le] at h
  rw [fa_lt]
  omega
theorem fa_le_ne {a b : Int32} (h : a ≤ b) (h2 : a ≠ b) : a < b := by
  rw [fa_le] at h
  rw [fa_lt]
  have h3 : a.toInt ≠ b.toInt := fun e => h2 ((fa_eq a b).mpr e)
  omega
theorem fa_three (a b : Int32) : a < b ∨ a = b ∨ b < a := by
  rw [fa_lt, fa_lt, fa_eq]
  omega
theorem fa_trans {a b c : Int32} (h : a < b) (h2 : b ≤ c) : a < c := by
  rw [fa_lt] at *
  rw [fa_le] at h2
  omega
/-! ===== small literals as numbers ===== -/
theorem fa_lit (n : Nat) : (OfNat.ofNat n : Int32) = nI n := rfl
theorem fa_litL (n : Nat) : (OfNat.ofNat n : Int64) = lN n := rfl
/-! ===== bits of a number: 'or', masks, one bit ===== -/
theorem fa_and (a b : Nat) : nI a &&& nI b = nI (a &&& b) := by
  apply Int32.toBitVec_inj.1
  show BitVec.ofNat 32 a &&& BitVec.ofNat 32 b = BitVec.ofNat 32 (a &&& b)
  apply BitVec.eq_of_getLsbD_eq
  intro i hi
  simp [hi]
theorem fa_or (a b : Nat) : nI a ||| nI b = nI (a ||| b) := by
  apply Int32.toBitVec_inj.1
  show BitVec.ofNat 32 a ||| BitVec.ofNat 32 b = BitVec.ofNat 32 (a ||| b)
  apply BitVec.eq_of_getLsbD_eq
  intro i hi
  simp [hi]
/-- a remainder by a power of two, as a mask -/
theorem fa_mask (n k : Nat) : nI n &&& nI (2 ^ k - 1) = nI (n % 2 ^ k) := by rw [fa_and, Nat.and_two_pow_sub_one_eq_mod]
/-- 'or' of a high part and a low one that don't meet is their sum -/
theorem fa_or_sum {a k : Nat} (b : Nat) (h : a < 2 ^ k) : nI (2 ^ k * b) ||| nI a = nI (2 ^ k * b + a) := by rw [fa_or, Nat.two_pow_add_eq_or_of_lt h]
/-- one bit, by 'and' with a power of two -/
theorem fa_bit {n j : Nat} (hj : j < 31) : nI n &&& nI (2 ^ j) = 0 ↔ n.testBit j = false := by
  have h2 : (2 : Nat) ^ j < 2 ^ 31 := Nat.pow_lt_pow_right (by decide) hj
  have hle : n &&& 2 ^ j ≤ 2 ^ j := Nat.and_le_right
  have e : n &&& 2 ^ j = 0 ↔ n.testBit j = false := by
    constructor
    · intro h
      have h1 : (n &&& 2 ^ j).testBit j = false := by rw [h]; simp
      rw [Nat.testBit_and] at h1
      first | simpa using h1 | simpa [Nat.testBit_two_pow_self] using h1 | simpa [Nat.testBit_two_pow] using h1
    · intro h
      apply Nat.eq_of_testBit_eq
      intro i
      rw [Nat.testBit_and]
      by_cases hi : j = i
      · subst hi; simp [h]
      · first | (simp [Nat.testBit_two_pow, hi]; done) | (simp [Nat.testBit_two_pow_of_ne hi]; done)
  rw [fa_and]
  constructor
  · intro h
    apply e.mp
    rcases Nat.eq_zero_or_pos (n &&& 2 ^ j) with z | z
    · exact z
    · exact absurd h (nI_ne0 z (Nat.lt_of_le_of_lt hle h2))
  · intro h
    rw [e.mpr h]; exact nI_0
/-- a remainder by a power of two of a number that isn't negative, as Java divides -/
theorem fa_rem {a k : Nat} (ha : a < 2 ^ 31) (hk : k < 31) : nI a - nI a / nI (2 ^ k) * nI (2 ^ k) = nI (a % 2 ^ k) := pk_rem ha (Nat.two_pow_pos k) (Nat.pow_lt_pow_right (by decide) hk)
/-! ===== cuts to a byte, a short ===== -/
theorem fa_byte_xor (x y : Int32) : (x ^^^ y).toInt8 = x.toInt8 ^^^ y.toInt8 := by
  apply Int8.toBitVec_inj.1
  apply BitVec.eq_of_getLsbD_eq
  intro i hi
  first | (simp [hi]; done) | (simp [hi, BitVec.getLsbD_setWidth, BitVec.getLsbD_signExtend]; done)
theorem fa_short_xor (x y : Int32) : (x ^^^ y).toInt16 = x.toInt16 ^^^ y.toInt16 := by
  apply Int16.toBitVec_inj.1
  apply BitVec.eq_of_getLsbD_eq
  intro i hi
  first | (simp [hi]; done) | (simp [hi, BitVec.getLsbD_setWidth, BitVec.getLsbD_signExtend]; done)
/-- the cut to a byte sees the low byte alone -/
theorem fa_byte_low (x : Int32) : (x &&& 255).toInt8 = x.toInt8 := by
  apply Int8.toBitVec_inj.1
  apply BitVec.eq_of_getLsbD_eq
  intro i hi
  have h2 : (255 : Int32).toBitVec.getLsbD i = true := by
    have : ∀ j : Fin 8, (255 : Int32).toBitVec.getLsbD j.val = true := by decide +kernel
    exact this ⟨i, hi⟩
  have h4 : (x &&& 255).toBitVec.getLsbD i = x.toBitVec.getLsbD i := by
    show (x.toBitVec &&& (255 : Int32).toBitVec).getLsbD i = _
    rw [BitVec.getLsbD_and, h2, Bool.and_true]
  have h3 : i < 32 := by omega
  first
    | (show (((x &&& 255).toBitVec).signExtend 8).getLsbD i = (x.toBitVec.signExtend 8).getLsbD i; rw [BitVec.getLsbD_signExtend, BitVec.getLsbD_signExtend, if_pos h3, if_pos h3, h4])
    | (show (((x &&& 255).toBitVec).setWidth 8).getLsbD i = (x.toBitVec.setWidth 8).getLsbD i; rw [BitVec.getLsbD_setWidth, BitVec.getLsbD_setWidth, h4])
    | (simp [hi, h3, h4]; done)
theorem fa_short_low (x : Int32) : (x &&& 65535).toInt16 = x.toInt16 := by
  apply Int16.toBitVec_inj.1
  apply BitVec.eq_of_getLsbD_eq
  intro i hi
  have h2 : (65535 : Int32).toBitVec.getLsbD i = true := by
    have : ∀ j : Fin 16, (65535 : Int32).toBitVec.getLsbD j.val = true := by decide +kernel
    exact this ⟨i, hi⟩
  have h4 : (x &&& 65535).toBitVec.getLsbD i = x.toBitVec.getLsbD i := by
    show (x.toBitVec &&& (65535 : Int32).toBitVec).getLsbD i = _
    rw [BitVec.getLsbD_and, h2, Bool.and_true]
  have h3 : i < 32 := by omega
  first
    | (show (((x &&& 65535).toBitVec).signExtend 16).getLsbD i = (x.toBitVec.signExtend 16).getLsbD i; rw [BitVec.getLsbD_signExtend, BitVec.getLsbD_signExtend, if_pos h3, if_pos h3, h4])
    | (show (((x &&& 65535).toBitVec).setWidth 16).getLsbD i = (x.toBitVec.setWidth 16).getLsbD i; rw [BitVec.getLsbD_setWidth, BitVec.getLsbD_setWidth, h4])
    | (simp [hi, h3, h4]; done)
/-- a small number is its own byte, its own short -/
theorem fa_byte_small {n : Nat} (h : n < 128) : (nI n).toInt8.toInt32 = nI n := by
  have : ∀ j : Fin 128, (nI j.val).toInt8.toInt32 = nI j.val := by decide +kernel
  exact this ⟨n, h⟩
/-! ===== absolute difference ===== -/
theorem fa_absdiff {a b : Nat} (ha : a < 2 ^ 31) (hb : b < 2 ^ 31) : (if nI a < nI b then nI b - nI a else nI a - nI b) = nI (if a < b then b - a else a - b) := by
  by_cases h : a < b
  · rw [if_pos (nI_lt h hb), if_pos h]
    exact pk_sub (Nat.le_of_lt h)
  · rw [if_neg (nI_nlt (Nat.le_of_not_lt h) ha), if_neg h]
    exact pk_sub (Nat.le_of_not_lt h)
/-! ===== an array behind i stores, a conditional store, a row copied ===== -/
/-- f where k < i, what stood there else -/
def fa_fill {α : Type} (f g : Nat → α) (i : Nat) : Nat → α := fun k => if k < i then f k else g k
theorem fa_fill_0 {α : Type} (f g : Nat → α) : fa_fill f g 0 = g := funext fun k => if_neg (Nat.not_lt_zero k)
theorem fa_fill_in {α : Type} {f g : Nat → α} {i k : Nat} (h : k < i) : fa_fill f g i k = f k := if_pos h
theorem fa_fill_out {α : Type} {f g : Nat → α} {i k : Nat} (h : i ≤ k) : fa_fill f g i k = g k := if_neg (Nat.not_lt.mpr h)
theorem fa_fill_succ (f g : Nat → Int32) (i : Nat) : upd (fa_fill f g i) i (f i) = fa_fill f g (i + 1) := by
  funext k
  by_cases e : k = i
  · subst e
    rw [pk_us]
    exact (if_pos (Nat.lt_succ_self k)).symm
  · rw [pk_un e]
    by_cases h : k < i
    · rw [fa_fill_in h, fa_fill_in (Nat.lt_succ_of_lt h)]
    · rw [fa_fill_out (Nat.le_of_not_lt h), fa_fill_out (by omega)]
/-- a store that changes nothing -/
theorem fa_upd_same {f : Nat → Int32} {i : Nat} {x : Int32} (h : f i = x) : upd f i x = f := by
  funext k
  by_cases e : k = i
  · subst e
    rw [pk_us, h]
  · rw [pk_un e]
/-- a store under a condition, told as one -/
theorem fa_upd_if (c : Prop) [Decidable c] (f : Nat → Int32) (i : Nat) (x : Int32) : (if c then upd f i x else f) = upd f i (if c then x else f i) := by
  by_cases h : c
  · rw [if_pos h, if_pos h]
  · rw [if_neg h, if_neg h, fa_upd_same rfl]
/-- two stores at one place, at two -/
theorem fa_upd_twice (f : Nat → Int32) (i : Nat) (x y : Int32) : upd (upd f i x) i y = upd f i y := by
  funext k
  by_cases e : k = i
  · subst e
    rw [pk_us, pk_us]
  · rw [pk_un e, pk_un e, pk_un e]
theorem fa_upd_swap (f : Nat → Int32) {i j : Nat} (h : i ≠ j) (x y : Int32) : upd (upd f i x) j y = upd (upd f j y) i x := by
  funext k
  by_cases e : k = i
  · subst e
    rw [pk_un h, pk_us, pk_us]
  · by_cases e2 : k = j
    · subst e2
      rw [pk_us, pk_un e, pk_us]
    · rw [pk_un e2, pk_un e, pk_un e, pk_un e2]
/-! ===== the first index with a property; a count ===== -/
/-- the first k < n with p k, n if there is none -/
def fa_first (p : Nat → Bool) : Nat → Nat
  | 0 => 0
  | n + 1 => if fa_first p n < n then fa_first p n else if p n then n else n + 1
theorem fa_first_le (p : Nat → Bool) : ∀ n, fa_first p n ≤ n
  | 0 => Nat.le_refl 0
  | n + 1 => by
    have ih := fa_first_le p n
    unfold fa_first
    split
    · omega
    · split
      · omega
      · omega
theorem fa_first_no (p : Nat → Bool) : ∀ n k, k < fa_first p n → p k = false
  | 0, k, h => absurd h (Nat.not_lt_zero k)
  | n + 1, k, h => by
    have ih := fa_first_no p n
    have hl := fa_first_le p n
    unfold fa_first at h
    split at h
    · exact ih k h
    · rename_i h1
      split at h
      · exact ih k (by omega)
      · rename_i h2
        by_cases e : k = n
        · subst e
          exact Bool.eq_false_iff.mpr h2
        · exact ih k (by omega)
theorem fa_first_yes (p : Nat → Bool) : ∀ n, fa_first p n < n → p (fa_first p n) = true
  | 0, h => absurd h (Nat.not_lt_zero _)
  | n + 1, h => by
    have ih := fa_first_yes p n
    have hl := fa_first_le p n
    unfold fa_first at h ⊢
    split at h
    · rename_i h1
      rw [if_pos h1]
      exact ih h1
    · rename_i h1
      rw [if_neg h1]
      split at h
      · rename_i h2
        rw [if_pos h2]
        exact h2
      · omega
/-- how many k < n have p k -/
def fa_cnt (p : Nat → Bool) : Nat → Nat
  | 0 => 0
  | n + 1 => fa_cnt p n + if p n then 1 else 0
theorem fa_cnt_le (p : Nat → Bool) : ∀ n, fa_cnt p n ≤ n
  | 0 => Nat.le_refl 0
  | n + 1 => by
    have ih := fa_cnt_le p n
    unfold fa_cnt
    split
    · omega
    · omega
theorem fa_cnt_yes {p : Nat → Bool} {n : Nat} (h : p n = true) : fa_cnt p (n + 1) = fa_cnt p n + 1 := by rw [fa_cnt, if_pos h]
theorem fa_cnt_no {p : Nat → Bool} {n : Nat} (h : p n = false) : fa_cnt p (n + 1) = fa_cnt p n := by rw [fa_cnt, if_neg (by rw [h]; decide)]; rfl
theorem fa_cnt_cong {p q : Nat → Bool} : ∀ {n : Nat}, (∀ k, k < n → p k = q k) → fa_cnt p n = fa_cnt q n
  | 0, _ => rfl
  | n + 1, h => by rw [fa_cnt, fa_cnt, fa_cnt_cong (fun k hk => h k (Nat.lt_succ_of_lt hk)), h n (Nat.lt_succ_self n)]
/-! ===== an answer carried into a post; a branch on a boolean answer ===== -/
theorem fa_post {α : Type} {P : α → Prop} {x y : α} (h : x = y) (hp : P y) : P x := h ▸ hp
theorem fa_post2 {α β : Type} {P : α → β → Prop} {x y : α} {u v : β} (h : x = y) (h2 : u = v) (hp : P y v) : P x u := h ▸ h2 ▸ hp
theorem fa_bool {r : Int32} {b : Bool} (h : r = if b then 1 else 0) : (r = 0 ↔ b = false) ∧ (¬ r = 0 ↔ b = true) := by
  subst h
  cases b
  · exact ⟨⟨fun _ => rfl, fun _ => rfl⟩, ⟨fun h => absurd rfl h, fun h => absurd h (by decide)⟩⟩
  · exact ⟨⟨fun h => absurd h (by decide), fun h => absurd h (by decide)⟩, ⟨fun _ => rfl, fun _ => by decide⟩⟩
/-- a boolean's narrowing changes nothing -/
theorem fa_bool_and {r : Int32} (h : r = 0 ∨ r = 1) : r &&& 1 = r := by
  rcases h with rfl | rfl
  · decide
  · decide
theorem fa_bool_prop {c : Prop} [Decidable c] {r : Int32} (h : r = if c then 1 else 0) : (r = 0 ↔ ¬ c) ∧ (¬ r = 0 ↔ c) := by
  subst h
  by_cases hc : c
  · rw [if_pos hc]
    exact ⟨⟨fun h => absurd h (by decide), fun h => absurd hc h⟩, ⟨fun _ => hc, fun _ => by decide⟩⟩
  · rw [if_neg hc]
    exact ⟨⟨fun _ => hc, fun _ => rfl⟩, ⟨fun h => absurd rfl h, fun h => absurd h hc⟩⟩
/-! plain facts to paste, each family by itself; over the kit's nI, lN and upd -/
/-! ===== drawers: more things than places ===== -/
theorem fb_holes : ∀ (m n : Nat) (f : Nat → Nat), (∀ i, i < n → f i < m) → (∀ i j, i < j → j < n → f i ≠ f j) → n ≤ m := by
  intro m
  induction m with
  | zero =>
    intro n f h1 _
    rcases Nat.eq_zero_or_pos n with h | h
    · omega
    · exact absurd (h1 0 h) (Nat.not_lt_zero _)
  | succ m ih =>
    intro n f h1 h2
    by_cases hx : ∃ i, i < n ∧ f i = m
    · obtain ⟨a, ha, hfa⟩ := hx
      have hg := ih (n - 1) (fun i => if i < a then f i else f (i + 1)) (by
        intro i hi
        by_cases q : i < a
        · simp only [if_pos q]
          have b1 := h1 i (by omega)
          have b2 := h2 i a q ha
          omega
        · simp only [if_neg q]
          have b1 := h1 (i + 1) (by omega)
          have b2 := h2 a (i + 1) (by omega) (by omega)
          omega) (by
        intro i j hij hj
        by_cases q : i < a
        · by_cases r : j < a
          · simp only [if_pos q, if_pos r]
            exact h2 i j hij (by omega)
          · simp only [if_pos q, if_neg r]
            exact h2 i (j + 1) (by omega) (by omega)
        · have r : ¬ j < a := by omega
          simp only [if_neg q, if_neg r]
          exact h2 (i + 1) (j + 1) (by omega) (by omega))
      omega
    · have hg := ih n f (fun i hi => by
        have b1 := h1 i hi
        have b2 : f i ≠ m := fun e => hx ⟨i, hi, e⟩
        omega) h2
      omega
/-- two of them in one place -/
theorem fb_twice {m n : Nat} {f : Nat → Nat} (h : ∀ i, i < n → f i < m) (hm : m < n) : ∃ i j, i < j ∧ j < n ∧ f i = f j := by
  refine Classical.byContradiction fun hx => ?_
  have := fb_holes m n f h (fun i j hij hj e => hx ⟨i, j, hij, hj, e⟩)
  omega
/-- as many as places, none twice: each place is taken -/
theorem fb_onto {n : Nat} {f : Nat → Nat} (h : ∀ i, i < n → f i < n) (h2 : ∀ i j, i < j → j < n → f i ≠ f j) {y : Nat} (hy : y < n) : ∃ i, i < n ∧ f i = y := by
  refine Classical.byContradiction fun hx => ?_
  have hne : ∀ i, i < n → f i ≠ y := fun i hi e => hx ⟨i, hi, e⟩
  have := fb_holes (n - 1) n (fun i => if f i < y then f i else f i - 1) (by
    intro i hi
    have b1 := h i hi
    have b2 := hne i hi
    by_cases q : f i < y
    · simp only [if_pos q]; omega
    · simp only [if_neg q]; omega) (by
    intro i j hij hj
    have b1 := hne i (by omega)
    have b2 := hne j hj
    have b3 := h2 i j hij hj
    by_cases q : f i < y
    · by_cases r : f j < y
      · simp only [if_pos q, if_pos r]; exact b3
      · simp only [if_pos q, if_neg r]; omega
    · by_cases r : f j < y
      · simp only [if_neg q, if_pos r]; omega
      · simp only [if_neg q, if_neg r]; omega)
  omega
/-! ===== how many places have a property ===== -/
def fb_ct (p : Nat → Bool) : Nat → Nat
  | 0 => 0
  | n + 1 => fb_ct p n + (if p n then 1 else 0)
theorem fb_ct_succ (p : Nat → Bool) (n : Nat) : fb_ct p (n + 1) = fb_ct p n + (if p n then 1 else 0) := rfl
theorem fb_ct_le (p : Nat → Bool) : ∀ n, fb_ct p n ≤ n
  | 0 => Nat.le_refl _
  | n + 1 => by
    have h := fb_ct_le p n
    rw [fb_ct_succ]
    split <;> omega
theorem fb_ct_step (p : Nat → Bool) (m : Nat) : ∀ n, fb_ct p m ≤ fb_ct p (m + n)
  | 0 => Nat.le_refl _
  | n + 1 => by
    have h := fb_ct_step p m n
    show fb_ct p m ≤ fb_ct p (m + n + 1)
    rw [fb_ct_succ]
    omega
theorem fb_ct_mono (p : Nat → Bool) {m n : Nat} (h : m ≤ n) : fb_ct p m ≤ fb_ct p n := by
  have := fb_ct_step p m (n - m)
  rwa [Nat.add_sub_cancel' h] at this
theorem fb_ct_cong {p q : Nat → Bool} : ∀ {n : Nat}, (∀ k, k < n → p k = q k) → fb_ct p n = fb_ct q n
  | 0, _ => rfl
  | n + 1, h => by
    rw [fb_ct_succ, fb_ct_succ, fb_ct_cong (fun k hk => h k (by omega)), h n (by omega)]
/-- one place changed -/
theorem fb_ct_out (p : Nat → Bool) (b : Bool) {i n : Nat} (h : n ≤ i) : fb_ct (fun k => if k = i then b else p k) n = fb_ct p n :=
  fb_ct_cong fun k hk => if_neg (by omega)
theorem fb_ct_upd (p : Nat → Bool) (b : Bool) {i : Nat} : ∀ {n : Nat}, i < n → fb_ct (fun k => if k = i then b else p k) n + (if p i then 1 else 0) = fb_ct p n + (if b then 1 else 0)
  | 0, h => absurd h (Nat.not_lt_zero i)
  | n + 1, h => by
    rw [fb_ct_succ, fb_ct_succ]
    rcases Nat.lt_or_ge i n with q | q
    · have := fb_ct_upd p b q
      have e : (if n = i then b else p n) = p n := if_neg (by omega)
      rw [e]
      omega
    · have e : i = n := by omega
      subst e
      rw [fb_ct_out p b (Nat.le_refl _)]
      simp only [if_true]
      omega
theorem fb_ct_sub {p q : Nat → Bool} : ∀ {n : Nat}, (∀ k, k < n → p k = true → q k = true) → fb_ct p n ≤ fb_ct q n
  | 0, _ => Nat.le_refl _
  | n + 1, h => by
    have h1 := fb_ct_sub (n := n) (p := p) (q := q) (fun k hk => h k (by omega))
    have h2 := h n (by omega)
    rw [fb_ct_succ, fb_ct_succ]
    cases hp : p n <;> cases hq : q n <;> simp_all <;> omega
theorem fb_ct_or {p q : Nat → Bool} : ∀ {n : Nat}, (∀ k, k < n → ¬ (p k = true ∧ q k = true)) → fb_ct (fun k => p k || q k) n = fb_ct p n + fb_ct q n
  | 0, _ => rfl
  | n + 1, h => by
    have h1 := fb_ct_or (n := n) (p := p) (q := q) (fun k hk => h k (by omega))
    have h2 := h n (by omega)
    rw [fb_ct_succ, fb_ct_succ, fb_ct_succ, h1]
    cases hp : p n <;> cases hq : q n <;> simp_all <;> omega
theorem fb_ct_not (p : Nat → Bool) : ∀ n, fb_ct p n + fb_ct (fun k => !p k) n = n
  | 0 => rfl
  | n + 1 => by
    have h := fb_ct_not p n
    rw [fb_ct_succ, fb_ct_succ]
    cases p n <;> simp <;> omega
theorem fb_ct_split (p : Nat → Bool) (m : Nat) : ∀ n, fb_ct p (m + n) = fb_ct p m + fb_ct (fun k => p (m + k)) n
  | 0 => rfl
  | n + 1 => by
    have h := fb_ct_split p m n
    show fb_ct p (m + n + 1) = _
    rw [fb_ct_succ, fb_ct_succ, h, Nat.add_assoc]
theorem fb_ct_zero {p : Nat → Bool} : ∀ {n : Nat}, fb_ct p n = 0 ↔ ∀ k, k < n → p k = false
  | 0 => ⟨fun _ k hk => absurd hk (Nat.not_lt_zero k), fun _ => rfl⟩
  | n + 1 => by
    have h := fb_ct_zero (p := p) (n := n)
    rw [fb_ct_succ]
    constructor
    · intro e k hk
      have e1 : fb_ct p n = 0 := by omega
      rcases Nat.lt_or_ge k n with q | q
      · exact h.mp e1 k q
      · have ek : k = n := by omega
        subst ek
        cases hp : p k
        · rfl
        · simp [hp] at e
    · intro a
      rw [h.mpr (fun k hk => a k (by omega)), a n (by omega)]
      rfl
theorem fb_ct_pos {p : Nat → Bool} {n : Nat} : 0 < fb_ct p n ↔ ∃ k, k < n ∧ p k = true := by
  constructor
  · intro h
    refine Classical.byContradiction fun hx => ?_
    have := fb_ct_zero.mpr (fun k hk => by
      cases hp : p k
      · rfl
      · exact absurd ⟨k, hk, hp⟩ hx : ∀ k, k < n → p k = false)
    omega
  · rintro ⟨k, hk, hp⟩
    rcases Nat.eq_zero_or_pos (fb_ct p n) with e | e
    · have := fb_ct_zero.mp e k hk
      rw [this] at hp
      cases hp
    · exact e
theorem fb_ct_all {p : Nat → Bool} {n : Nat} : fb_ct p n = n ↔ ∀ k, k < n → p k = true := by
  have h := fb_ct_not p n
  constructor
  · intro e k hk
    have z : fb_ct (fun k => !p k) n = 0 := by omega
    have := fb_ct_zero.mp z k hk
    cases hp : p k
    · simp [hp] at this
    · rfl
  · intro a
    have z : fb_ct (fun k => !p k) n = 0 := fb_ct_zero.mpr (fun k hk => by simp [a k hk])
    omega
/-- the k-th place with the property -/
theorem fb_ct_kth {p : Nat → Bool} {k : Nat} : ∀ {n : Nat}, k < fb_ct p n → ∃ i, i < n ∧ p i = true ∧ fb_ct p i = k
  | 0, h => absurd h (Nat.not_lt_zero k)
  | n + 1, h => by
    rcases Nat.lt_or_ge k (fb_ct p n) with q | q
    · obtain ⟨i, h1, h2⟩ := fb_ct_kth q
      exact ⟨i, by omega, h2⟩
    · rw [fb_ct_succ] at h
      cases hp : p n
      · simp [hp] at h; omega
      · simp [hp] at h
        exact ⟨n, by omega, hp, by omega⟩
theorem fb_ct_kth_one {p : Nat → Bool} {i j : Nat} (hi : p i = true) (hj : p j = true) (e : fb_ct p i = fb_ct p j) : i = j := by
  have key : ∀ a b : Nat, a < b → p a = true → fb_ct p a < fb_ct p b := by
    intro a b hab ha
    have h := fb_ct_mono p (show a + 1 ≤ b from hab)
    rw [fb_ct_succ, ha] at h
    simp at h
    omega
  rcases Nat.lt_trichotomy i j with q | q | q
  · have := key i j q hi; omega
  · exact q
  · have := key j i q hj; omega
/-! ===== sums over a range: one place changed, parts, bounds ===== -/
def fb_sm (f : Nat → Nat) : Nat → Nat
  | 0 => 0
  | n + 1 => fb_sm f n + f n
theorem fb_sm_succ (f : Nat → Nat) (n : Nat) : fb_sm f (n + 1) = fb_sm f n + f n := rfl
theorem fb_sm_cong {f g : Nat → Nat} : ∀ {n : Nat}, (∀ k, k < n → f k = g k) → fb_sm f n = fb_sm g n
  | 0, _ => rfl
  | n + 1, h => by rw [fb_sm_succ, fb_sm_succ, fb_sm_cong (fun k hk => h k (by omega)), h n (by omega)]
theorem fb_sm_out (f : Nat → Nat) (v : Nat) {i n : Nat} (h : n ≤ i) : fb_sm (fun k => if k = i then v else f k) n = fb_sm f n :=
  fb_sm_cong fun k hk => if_neg (by omega)
theorem fb_sm_upd (f : Nat → Nat) (v : Nat) {i : Nat} : ∀ {n : Nat}, i < n → fb_sm (fun k => if k = i then v else f k) n + f i = fb_sm f n + v
  | 0, h => absurd h (Nat.not_lt_zero i)
  | n + 1, h => by
    rw [fb_sm_succ, fb_sm_succ]
    rcases Nat.lt_or_ge i n with q | q
    · have := fb_sm_upd f v q
      have e : (if n = i then v else f n) = f n := if_neg (by omega)
      rw [e]
      omega
    · have e : i = n := by omega
      subst e
      rw [fb_sm_out f v (Nat.le_refl _)]
      simp only [if_true]
      omega
theorem fb_sm_add (f g : Nat → Nat) : ∀ n, fb_sm (fun k => f k + g k) n = fb_sm f n + fb_sm g n
  | 0 => rfl
  | n + 1 => by
    have h := fb_sm_add f g n
    rw [fb_sm_succ, fb_sm_succ, fb_sm_succ, h]
    omega
theorem fb_sm_le {f g : Nat → Nat} : ∀ {n : Nat}, (∀ k, k < n → f k ≤ g k) → fb_sm f n ≤ fb_sm g n
  | 0, _ => Nat.le_refl _
  | n + 1, h => by
    have h1 := fb_sm_le (n := n) (f := f) (g := g) (fun k hk => h k (by omega))
    have h2 := h n (by omega)
    rw [fb_sm_succ, fb_sm_succ]
    omega
theorem fb_sm_const (c : Nat) : ∀ n, fb_sm (fun _ => c) n = n * c
  | 0 => by rw [Nat.zero_mul]; rfl
  | n + 1 => by rw [fb_sm_succ, fb_sm_const c n, Nat.succ_mul]
theorem fb_sm_bound {f : Nat → Nat} {c n : Nat} (h : ∀ k, k < n → f k ≤ c) : fb_sm f n ≤ n * c := by
  rw [← fb_sm_const c n]
  exact fb_sm_le h
theorem fb_sm_mono (f : Nat → Nat) (m : Nat) : ∀ n, fb_sm f m ≤ fb_sm f (m + n)
  | 0 => Nat.le_refl _
  | n + 1 => by
    have h := fb_sm_mono f m n
    show fb_sm f m ≤ fb_sm f (m + n + 1)
    rw [fb_sm_succ]
    omega
theorem fb_sm_part (f : Nat → Nat) {i n : Nat} (h : i < n) : fb_sm f i + f i ≤ fb_sm f n := by
  have := fb_sm_mono f (i + 1) (n - (i + 1))
  rw [fb_sm_succ, show i + 1 + (n - (i + 1)) = n by omega] at this
  exact this
theorem fb_sm_split (f : Nat → Nat) (m : Nat) : ∀ n, fb_sm f (m + n) = fb_sm f m + fb_sm (fun k => f (m + k)) n
  | 0 => rfl
  | n + 1 => by
    have h := fb_sm_split f m n
    show fb_sm f (m + n + 1) = _
    rw [fb_sm_succ, fb_sm_succ, h, Nat.add_assoc]
theorem fb_sm_zero {f : Nat → Nat} {n : Nat} (h : fb_sm f n = 0) : ∀ k, k < n → f k = 0 := fun k hk => by
  have := fb_sm_part f hk
  omega
/-- the same over whole numbers -/
def fb_si (f : Nat → Int) : Nat → Int
  | 0 => 0
  | n + 1 => fb_si f n + f n
theorem fb_si_succ (f : Nat → Int) (n : Nat) : fb_si f (n + 1) = fb_si f n + f n := rfl
theorem fb_si_cong {f g : Nat → Int} : ∀ {n : Nat}, (∀ k, k < n → f k = g k) → fb_si f n = fb_si g n
  | 0, _ => rfl
  | n + 1, h => by rw [fb_si_succ, fb_si_succ, fb_si_cong (fun k hk => h k (by omega)), h n (by omega)]
theorem fb_si_out (f : Nat → Int) (v : Int) {i n : Nat} (h : n ≤ i) : fb_si (fun k => if k = i then v else f k) n = fb_si f n :=
  fb_si_cong fun k hk => if_neg (by omega)
theorem fb_si_upd (f : Nat → Int) (v : Int) {i : Nat} : ∀ {n : Nat}, i < n → fb_si (fun k => if k = i then v else f k) n = fb_si f n - f i + v
  | 0, h => absurd h (Nat.not_lt_zero i)
  | n + 1, h => by
    rw [fb_si_succ, fb_si_succ]
    rcases Nat.lt_or_ge i n with q | q
    · have := fb_si_upd f v q
      have e : (if n = i then v else f n) = f n := if_neg (by omega)
      rw [e]
      omega
    · have e : i = n := by omega
      subst e
      rw [fb_si_out f v (Nat.le_refl _)]
      simp only [if_true]
      omega
theorem fb_si_add (f g : Nat → Int) : ∀ n, fb_si (fun k => f k + g k) n = fb_si f n + fb_si g n
  | 0 => rfl
  | n + 1 => by
    have h := fb_si_add f g n
    rw [fb_si_succ, fb_si_succ, fb_si_succ, h]
    omega
theorem fb_si_sub (f g : Nat → Int) : ∀ n, fb_si (fun k => f k - g k) n = fb_si f n - fb_si g n
  | 0 => rfl
  | n + 1 => by
    have h := fb_si_sub f g n
    rw [fb_si_succ, fb_si_succ, fb_si_succ, h]
    omega
theorem fb_si_mul (c : Int) (f : Nat → Int) : ∀ n, fb_si (fun k => c * f k) n = c * fb_si f n
  | 0 => (Int.mul_zero c).symm
  | n + 1 => by
    have h := fb_si_mul c f n
    rw [fb_si_succ, fb_si_succ, h, Int.mul_add]
theorem fb_si_split (f : Nat → Int) (m : Nat) : ∀ n, fb_si f (m + n) = fb_si f m + fb_si (fun k => f (m + k)) n
  | 0 => (Int.add_zero _).symm
  | n + 1 => by
    have h := fb_si_split f m n
    show fb_si f (m + n + 1) = _
    rw [fb_si_succ, fb_si_succ, h, Int.add_assoc]
theorem fb_si_nat (f : Nat → Nat) : ∀ n, fb_si (fun k => (f k : Int)) n = (fb_sm f n : Int)
  | 0 => rfl
  | n + 1 => by
    have h := fb_si_nat f n
    rw [fb_si_succ, fb_sm_succ, h]
    omega
theorem fb_si_bound {f : Nat → Int} {c : Int} (hc : 0 ≤ c) : ∀ {n : Nat}, (∀ k, k < n → -c ≤ f k ∧ f k ≤ c) → -(n * c) ≤ fb_si f n ∧ fb_si f n ≤ n * c
  | 0, _ => by simp [fb_si]
  | n + 1, h => by
    have h1 := fb_si_bound (n := n) (f := f) hc (fun k hk => h k (by omega))
    have h2 := h n (by omega)
    have e : ((n + 1 : Nat) : Int) * c = n * c + c := by rw [Int.natCast_add, Int.add_mul]; simp
    rw [fb_si_succ, e]
    omega
/-! ===== bits of a long that isn't negative ===== -/
theorem fb_andL (a b : Nat) : lN a &&& lN b = lN (a &&& b) := by
  apply Int64.toBitVec_inj.1
  show BitVec.ofNat 64 a &&& BitVec.ofNat 64 b = BitVec.ofNat 64 (a &&& b)
  apply BitVec.eq_of_getLsbD_eq
  intro i hi
  simp [hi]
theorem fb_orL (a b : Nat) : lN a ||| lN b = lN (a ||| b) := by
  apply Int64.toBitVec_inj.1
  show BitVec.ofNat 64 a ||| BitVec.ofNat 64 b = BitVec.ofNat 64 (a ||| b)
  apply BitVec.eq_of_getLsbD_eq
  intro i hi
  simp [hi]
theorem fb_xorL (a b : Nat) : lN a ^^^ lN b = lN (a ^^^ b) := by
  apply Int64.toBitVec_inj.1
  show BitVec.ofNat 64 a ^^^ BitVec.ofNat 64 b = BitVec.ofNat 64 (a ^^^ b)
  apply BitVec.eq_of_getLsbD_eq
  intro i hi
  simp [hi]
theorem fb_xorI (a b : Nat) : nI a ^^^ nI b = nI (a ^^^ b) := by
  apply Int32.toBitVec_inj.1
  show BitVec.ofNat 32 a ^^^ BitVec.ofNat 32 b = BitVec.ofNat 32 (a ^^^ b)
  apply BitVec.eq_of_getLsbD_eq
  intro i hi
  simp [hi]
theorem fb_maskL (n k : Nat) : lN n &&& lN (2 ^ k - 1) = lN (n % 2 ^ k) := by rw [fb_andL, Nat.and_two_pow_sub_one_eq_mod]
theorem fb_or_sumL {a k : Nat} (b : Nat) (h : a < 2 ^ k) : lN (2 ^ k * b) ||| lN a = lN (2 ^ k * b + a) := by rw [fb_orL, Nat.two_pow_add_eq_or_of_lt h]
theorem fb_lN_inj {a b : Nat} (ha : a < 2 ^ 63) (hb : b < 2 ^ 63) : lN a = lN b ↔ a = b := by
  constructor
  · intro h
    have h1 : (BitVec.ofNat 64 a).toNat = (BitVec.ofNat 64 b).toNat := congrArg (fun x : Int64 => x.toBitVec.toNat) h
    rw [BitVec.toNat_ofNat, BitVec.toNat_ofNat, Nat.mod_eq_of_lt (by omega), Nat.mod_eq_of_lt (by omega)] at h1
    exact h1
  · rintro rfl; rfl
theorem fb_bit_nat (n j : Nat) : n &&& 2 ^ j = 0 ↔ n.testBit j = false := by
  constructor
  · intro h
    have h1 : (n &&& 2 ^ j).testBit j = false := by rw [h]; simp
    rw [Nat.testBit_and] at h1
    simpa using h1
  · intro h
    apply Nat.eq_of_testBit_eq
    intro i
    rw [Nat.testBit_and]
    by_cases hi : j = i
    · subst hi; simp [h]
    · first | (simp [Nat.testBit_two_pow, hi]; done) | (simp [Nat.testBit_two_pow_of_ne hi]; done)
/-- one bit of a long -/
theorem fb_bitL {n j : Nat} (hj : j < 63) : lN n &&& lN (2 ^ j) = 0 ↔ n.testBit j = false := by
  have h2 : (2 : Nat) ^ j < 2 ^ 63 := Nat.pow_lt_pow_right (by decide) hj
  have hle : n &&& 2 ^ j ≤ 2 ^ j := Nat.and_le_right
  rw [fb_andL, ← fb_bit_nat, show (0 : Int64) = lN 0 from rfl]
  exact fb_lN_inj (by omega) (by decide)
/-- a bit set, a bit taken off -/
theorem fb_bit_set (n j i : Nat) : (n ||| 2 ^ j).testBit i = (n.testBit i || decide (i = j)) := by
  rw [Nat.testBit_or]
  by_cases h : j = i
  · subst h; simp
  · have h2 : ¬ i = j := fun e => h e.symm
    first | (simp [Nat.testBit_two_pow, h, h2]; done) | (simp [Nat.testBit_two_pow_of_ne h, h2]; done)
theorem fb_bit_flip (n j i : Nat) : (n ^^^ 2 ^ j).testBit i = (n.testBit i ^^ decide (i = j)) := by
  rw [Nat.testBit_xor]
  by_cases h : j = i
  · subst h; simp
  · have h2 : ¬ i = j := fun e => h e.symm
    first | (simp [Nat.testBit_two_pow, h, h2]; done) | (simp [Nat.testBit_two_pow_of_ne h, h2]; done)
/-! ===== a stretch of an array written over by a function ===== -/
def fb_put {α : Type} (f g : Nat → α) (a n : Nat) : Nat → α := fun k => if a ≤ k ∧ k < a + n then g (k - a) else f k
theorem fb_put_0 {α : Type} (f g : Nat → α) (a : Nat) : fb_put f g a 0 = f := funext fun k => if_neg (by omega)
theorem fb_put_in {α : Type} {f g : Nat → α} {a n k : Nat} (h1 : a ≤ k) (h2 : k < a + n) : fb_put f g a n k = g (k - a) := if_pos ⟨h1, h2⟩
theorem fb_put_out {α : Type} {f g : Nat → α} {a n k : Nat} (h : k < a ∨ a + n ≤ k) : fb_put f g a n k = f k := if_neg (by omega)
theorem fb_put_succ (f g : Nat → Int32) (a n : Nat) : upd (fb_put f g a n) (a + n) (g n) = fb_put f g a (n + 1) := by
  funext k
  by_cases h : k = a + n
  · subst h
    simp [upd, fb_put]
  · by_cases h1 : a ≤ k ∧ k < a + n
    · have h2 : a ≤ k ∧ k < a + (n + 1) := by omega
      simp only [upd, fb_put, if_neg h, if_pos h1, if_pos h2]
    · have h2 : ¬ (a ≤ k ∧ k < a + (n + 1)) := by omega
      simp only [upd, fb_put, if_neg h, if_neg h1, if_neg h2]
/-- .. from the far end down -/
theorem fb_put_down (f g : Nat → Int32) {a n m : Nat} (h : m < n) : upd (fb_put f (fun k => g (k + (m + 1))) (a + (m + 1)) (n - (m + 1))) (a + m) (g m) = fb_put f (fun k => g (k + m)) (a + m) (n - m) := by
  funext k
  by_cases h0 : k = a + m
  · subst h0
    simp only [upd, if_true]
    rw [fb_put_in (by omega) (by omega)]
    exact congrArg g (by omega)
  · simp only [upd, if_neg h0]
    by_cases h1 : a + (m + 1) ≤ k ∧ k < a + (m + 1) + (n - (m + 1))
    · rw [fb_put_in h1.1 h1.2, fb_put_in (by omega) (by omega)]
      exact congrArg g (by omega)
    · rw [fb_put_out (by omega), fb_put_out (by omega)]
theorem fb_put_cong {α : Type} {f f2 g g2 : Nat → α} {a n : Nat} (hf : ∀ k, (k < a ∨ a + n ≤ k) → f k = f2 k) (hg : ∀ k, k < n → g k = g2 k) : fb_put f g a n = fb_put f2 g2 a n := by
  funext k
  by_cases h : a ≤ k ∧ k < a + n
  · rw [fb_put_in h.1 h.2, fb_put_in h.1 h.2, hg _ (by omega)]
  · rw [fb_put_out (by omega), fb_put_out (by omega), hf _ (by omega)]
/-! ===== the least, the first, the best so far; that there is one alone ===== -/
theorem fb_first {p : Nat → Prop} [DecidablePred p] : ∀ {n : Nat}, (∃ i, i < n ∧ p i) → ∃ i, i < n ∧ p i ∧ ∀ j, j < i → ¬ p j
  | 0, h => by obtain ⟨i, hi, -⟩ := h; exact absurd hi (Nat.not_lt_zero i)
  | n + 1, h => by
    by_cases q : ∃ i, i < n ∧ p i
    · obtain ⟨i, h1, h2⟩ := fb_first q
      exact ⟨i, by omega, h2⟩
    · obtain ⟨i, h1, h2⟩ := h
      have e : i = n := by
        rcases Nat.lt_or_ge i n with r | r
        · exact absurd ⟨i, r, h2⟩ q
        · omega
      subst e
      exact ⟨i, by omega, h2, fun j hj hp => q ⟨j, hj, hp⟩⟩
theorem fb_first_one {p : Nat → Prop} {i j : Nat} (hi : p i) (hi2 : ∀ k, k < i → ¬ p k) (hj : p j) (hj2 : ∀ k, k < j → ¬ p k) : i = j := by
  rcases Nat.lt_trichotomy i j with q | q | q
  · exact absurd hi (hj2 i q)
  · exact q
  · exact absurd hj (hi2 j q)
theorem fb_last {p : Nat → Prop} [DecidablePred p] : ∀ {n : Nat}, (∃ i, i < n ∧ p i) → ∃ i, i < n ∧ p i ∧ ∀ j, i < j → j < n → ¬ p j
  | 0, h => by obtain ⟨i, hi, -⟩ := h; exact absurd hi (Nat.not_lt_zero i)
  | n + 1, h => by
    by_cases q : p n
    · exact ⟨n, by omega, q, fun j h1 h2 => by omega⟩
    · obtain ⟨i, h1, h2⟩ := h
      have hi : i < n := by
        rcases Nat.lt_or_ge i n with r | r
        · exact r
        · have e : i = n := by omega
          subst e
          exact absurd h2 q
      obtain ⟨i2, a1, a2, a3⟩ := fb_last (n := n) ⟨i, hi, h2⟩
      refine ⟨i2, by omega, a2, fun j b1 b2 => ?_⟩
      rcases Nat.lt_or_ge j n with r | r
      · exact a3 j b1 r
      · have e : j = n := by omega
        subst e
        exact q
/-- the first greatest -/
theorem fb_best (f : Nat → Int) : ∀ {n : Nat}, 0 < n → ∃ i, i < n ∧ (∀ j, j < n → f j ≤ f i) ∧ ∀ j, j < i → f j < f i
  | 0, h => absurd h (Nat.lt_irrefl 0)
  | 1, _ => ⟨0, by omega, fun j hj => by have e : j = 0 := by omega
                                         subst e; exact Int.le_refl _, fun j hj => absurd hj (Nat.not_lt_zero j)⟩
  | n + 2, _ => by
    obtain ⟨i, h1, h2, h3⟩ := fb_best f (n := n + 1) (by omega)
    by_cases q : f i < f (n + 1)
    · refine ⟨n + 1, by omega, fun j hj => ?_, fun j hj => ?_⟩
      · rcases Nat.lt_or_ge j (n + 1) with r | r
        · have := h2 j r; omega
        · have e : j = n + 1 := by omega
          subst e; exact Int.le_refl _
      · have := h2 j hj; omega
    · refine ⟨i, by omega, fun j hj => ?_, h3⟩
      rcases Nat.lt_or_ge j (n + 1) with r | r
      · exact h2 j r
      · have e : j = n + 1 := by omega
        subst e; omega
theorem fb_best_one {f : Nat → Int} {n i j : Nat} (hi : i < n) (hi2 : ∀ k, k < n → f k ≤ f i) (hi3 : ∀ k, k < i → f k < f i) (hj : j < n) (hj2 : ∀ k, k < n → f k ≤ f j) (hj3 : ∀ k, k < j → f k < f j) : i = j := by
  rcases Nat.lt_trichotomy i j with q | q | q
  · have a := hj3 i q
    have b := hi2 j hj
    omega
  · exact q
  · have a := hi3 j q
    have b := hj2 i hi
    omega
/-- the first least -/
theorem fb_low (f : Nat → Int) {n : Nat} (h : 0 < n) : ∃ i, i < n ∧ (∀ j, j < n → f i ≤ f j) ∧ ∀ j, j < i → f i < f j := by
  obtain ⟨i, h1, h2, h3⟩ := fb_best (fun k => -f k) h
  exact ⟨i, h1, fun j hj => by have := h2 j hj; omega, fun j hj => by have := h3 j hj; omega⟩
/-! ===== signed ints as whole numbers, within bounds ===== -/
theorem fb_rng (x : Int32) : -2147483648 ≤ x.toInt ∧ x.toInt < 2147483648 := by
  have h1 := Int32.le_toInt x
  have h2 := Int32.toInt_lt x
  omega
theorem fb_bmod {z : Int} (h1 : -2147483648 ≤ z) (h2 : z < 2147483648) : z.bmod (2 ^ 32) = z := by
  rw [Int.bmod_eq_of_le (by omega) (by omega)]
theorem fb_addI {x y : Int32} (h1 : -2147483648 ≤ x.toInt + y.toInt) (h2 : x.toInt + y.toInt < 2147483648) : (x + y).toInt = x.toInt + y.toInt := by
  rw [Int32.toInt_add, fb_bmod h1 h2]
theorem fb_subI {x y : Int32} (h1 : -2147483648 ≤ x.toInt - y.toInt) (h2 : x.toInt - y.toInt < 2147483648) : (x - y).toInt = x.toInt - y.toInt := by
  rw [Int32.toInt_sub, fb_bmod h1 h2]
theorem fb_mulI {x y : Int32} (h1 : -2147483648 ≤ x.toInt * y.toInt) (h2 : x.toInt * y.toInt < 2147483648) : (x * y).toInt = x.toInt * y.toInt := by
  rw [Int32.toInt_mul, fb_bmod h1 h2]
theorem fb_negI {x : Int32} (h : x.toInt ≠ -2147483648) : (-x).toInt = -x.toInt := by
  have := fb_rng x
  rw [Int32.toInt_neg, fb_bmod (by omega) (by omega)]
theorem fb_ofI {z : Int} (h1 : -2147483648 ≤ z) (h2 : z < 2147483648) : (Int32.ofInt z).toInt = z := by
  rw [Int32.toInt_ofInt, fb_bmod h1 h2]
theorem fb_asI (x : Int32) : Int32.ofInt x.toInt = x := Int32.ofInt_toInt x
theorem fb_rngL (x : Int64) : -9223372036854775808 ≤ x.toInt ∧ x.toInt < 9223372036854775808 := by
  have h1 := Int64.le_toInt x
  have h2 := Int64.toInt_lt x
  omega
theorem fb_bmodL {z : Int} (h1 : -9223372036854775808 ≤ z) (h2 : z < 9223372036854775808) : z.bmod (2 ^ 64) = z := by
  rw [Int.bmod_eq_of_le (by omega) (by omega)]
theorem fb_addL {x y : Int64} (h1 : -9223372036854775808 ≤ x.toInt + y.toInt) (h2 : x.toInt + y.toInt < 9223372036854775808) : (x + y).toInt = x.toInt + y.toInt := by
  rw [Int64.toInt_add, fb_bmodL h1 h2]
theorem fb_subL {x y : Int64} (h1 : -9223372036854775808 ≤ x.toInt - y.toInt) (h2 : x.toInt - y.toInt < 9223372036854775808) : (x - y).toInt = x.toInt - y.toInt := by
  rw [Int64.toInt_sub, fb_bmodL h1 h2]
theorem fb_mulL {x y : Int64} (h1 : -9223372036854775808 ≤ x.toInt * y.toInt) (h2 : x.toInt * y.toInt < 9223372036854775808) : (x * y).toInt = x.toInt * y.toInt := by
  rw [Int64.toInt_mul, fb_bmodL h1 h2]
/-! ===== cuts of what is narrow already ===== -/
theorem fb_byte {x : Int32} (h1 : -128 ≤ x.toInt) (h2 : x.toInt < 128) : x.toInt8.toInt32 = x := by
  apply Int32.toInt_inj.1
  rw [Int8.toInt_toInt32, Int32.toInt_toInt8, Int.bmod_eq_of_le (by omega) (by omega)]
theorem fb_short {x : Int32} (h1 : -32768 ≤ x.toInt) (h2 : x.toInt < 32768) : x.toInt16.toInt32 = x := by
  apply Int32.toInt_inj.1
  rw [Int16.toInt_toInt32, Int32.toInt_toInt16, Int.bmod_eq_of_le (by omega) (by omega)]
theorem fb_byte_rng (x : Int32) : -128 ≤ x.toInt8.toInt32.toInt ∧ x.toInt8.toInt32.toInt < 128 := by
  rw [Int8.toInt_toInt32]
  have h1 := Int8.le_toInt x.toInt8
  have h2 := Int8.toInt_lt x.toInt8
  omega
theorem fb_short_rng (x : Int32) : -32768 ≤ x.toInt16.toInt32.toInt ∧ x.toInt16.toInt32.toInt < 32768 := by
  rw [Int16.toInt_toInt32]
  have h1 := Int16.le_toInt x.toInt16
  have h2 := Int16.toInt_lt x.toInt16
  omega
theorem fb_byte_twice (x : Int32) : x.toInt8.toInt32.toInt8.toInt32 = x.toInt8.toInt32 := fb_byte (fb_byte_rng x).1 (fb_byte_rng x).2
theorem fb_short_twice (x : Int32) : x.toInt16.toInt32.toInt16.toInt32 = x.toInt16.toInt32 := fb_short (fb_short_rng x).1 (fb_short_rng x).2
theorem fb_char {n : Nat} (h : n < 65536) : (nI n).toUInt32.toUInt16.toUInt32.toInt32 = nI n := by
  apply Int32.toBitVec_inj.1
  apply BitVec.eq_of_toNat_eq
  have e1 : (nI n).toBitVec.toNat = n := by
    show (BitVec.ofNat 32 n).toNat = n
    rw [BitVec.toNat_ofNat, Nat.mod_eq_of_lt (by omega)]
  have e2 : ((nI n).toUInt32.toUInt16.toUInt32).toNat = n := by
    rw [UInt16.toNat_toUInt32, UInt32.toNat_toUInt16]
    show (nI n).toBitVec.toNat % 2 ^ 16 = n
    rw [e1, Nat.mod_eq_of_lt (by omega)]
  rw [e1]
  exact e2
end
section
/-! THE BASE. J: the judgement of a body over a world 'ws' (a list of cells), locals 'lv' by their slots, stack 'st'; what stays the same in a body is in k : Kx. -/
def Kx : Type := Program × Launch × Env × Room × State × MethodId × Array Value × List Frame × Method × Code × (State → Prop) × va_G × (Nat → Prop) × Bool × Nat
def kp (k : Kx) : Program := k.1
def kl (k : Kx) : Launch := k.2.1
def ke (k : Kx) : Env := k.2.2.1
def kR (k : Kx) : Room := k.2.2.2.1
def ks (k : Kx) : State := k.2.2.2.2.1
def km (k : Kx) : MethodId := k.2.2.2.2.2.1
def kargs (k : Kx) : Array Value := k.2.2.2.2.2.2.1
def kbelow (k : Kx) : List Frame := k.2.2.2.2.2.2.2.1
def kmeth (k : Kx) : Method := k.2.2.2.2.2.2.2.2.1
def kc (k : Kx) : Code := k.2.2.2.2.2.2.2.2.2.1
def kQ (k : Kx) : State → Prop := k.2.2.2.2.2.2.2.2.2.2.1
def kD (k : Kx) : va_G := k.2.2.2.2.2.2.2.2.2.2.2.1
def kA (k : Kx) : Nat → Prop := k.2.2.2.2.2.2.2.2.2.2.2.2.1
def kw (k : Kx) : Bool := k.2.2.2.2.2.2.2.2.2.2.2.2.2.1
def kn (k : Kx) : Nat := k.2.2.2.2.2.2.2.2.2.2.2.2.2.2
def mkK (p : Program) (l : Launch) (e : Env) (R : Room) (s : State) (m : MethodId) (args : Array Value) (below : List Frame) (meth : Method) (c : Code) (Q : State → Prop) (D : va_G) (A : Nat → Prop) (w : Bool) (n : Nat) : Kx := (p, l, e, R, s, m, args, below, meth, c, Q, D, A, w, n)
/-- the array classes: ints, references to anything, longs; the address of ArrayList's shared empty array -/
abbrev tysD (D : va_G) : List (ClassId × FieldType) := [(D.1 100, .int), (D.1 101, .object "java/lang/Object")]
abbrev dE (D : va_G) : Nat := D.2 1000 0
/-- the class object of Object[] -/
abbrev dM (D : va_G) : Nat := D.2 1000 1
/-- the tables' words that go over a call -/
def Uw : List Cond := lw_tbl.filter goodWord
theorem Uw_of {w : Cond} {i : Nat} (h : lw_tbl[i]? = some w) (g : goodWord w = true) : w ∈ Uw := List.mem_filter.mpr ⟨List.mem_of_getElem? h, g⟩
abbrev wU (y : MethodName) (cc : ByteArray) (maxL : Nat) (ret : Option FieldType) : List Cond := Cond.code y cc maxL ret :: Uw
theorem Uw_good {w : Cond} (h : w ∈ Uw) : goodWord w = true := (List.mem_filter.mp h).2
theorem Uw_in {w : Cond} (h : w ∈ Uw) : GoodIn Uw [w] := fun v hv => by
  rw [List.mem_singleton.mp hv]
  exact ⟨h, good_of_word (Uw_good h)⟩
theorem wU_good {y : MethodName} {cc : ByteArray} {maxL : Nat} {ret : Option FieldType} (h : Cond.code y cc maxL ret ∈ Uw) : GoodIn Uw (wU y cc maxL ret) := fun w hw => by
  rcases List.mem_cons.mp hw with e | e
  · rw [e]
    exact ⟨h, good_of_word (Uw_good h)⟩
  · exact ⟨e, good_of_word (Uw_good e)⟩
/-- what the tables say besides: links of nest mates, casts, the class of Object arrays, the Strings -/
abbrev eA : String := "java/lang/IllegalArgumentException"
abbrev eS : String := "java/lang/IllegalStateException"
abbrev eI : String := "java/lang/IndexOutOfBoundsException"
def strs : List (Nat × String) := [(66, "no such span of minutes"), (307, "no such agent"), (123, "no such thing is told of an agent"), (309, "no such ticket"), (155, "the ticket is neither waiting nor worked at"), (169, "the ticket is not paused"), (171, "a ticket is not merged into itself"), (177, "one of the tickets is not open"), (196, "no such greater effort"), (201, "the ticket is not solved, or was so long ago"), (206, "no such thing is told of a ticket"), (222, "no such number of minutes"), (224, "it would be later than the last minute"), (229, "no such state"), (43, "no such hours"), (60, "no such priority"), (63, "no such targets"), (75, "no such agent can be added"), (83, "there are as many agents as there may be"), (137, "no such ticket can be opened"), (139, "there are as many tickets as there may be")]
def ncs : List (String × String) := []
def dcl : List MethodName := [⟨"java/lang/RuntimeException", "<init>", "(Ljava/lang/String;)V"⟩, ⟨"java/lang/Exception", "<init>", "(Ljava/lang/String;)V"⟩, ⟨"java/lang/Throwable", "<init>", "(Ljava/lang/String;)V"⟩]
def cas : List (String × String) := [(RX0, "java/lang/Object"), (RX2, "java/lang/Object"), (eA, eA), (eS, eS), (eI, eI)]
def KK (D : va_G) (U : State) : Prop := va_K D vwCl (tysD D) U ∧ va_Nw (.methodLinkNest RX0 27 yX3_dayOfWeek RX3) U ∧ va_Nw (.methodLinkNest RX1 18 yX3_dayOfWeek RX3) U ∧ (∀ q ∈ cas, va_Nw (.castable q.1 q.2) U) ∧ va_AO "java/lang/Object" U ∧ va_Mi "[Ljava/lang/Object;" (dM D) U ∧ va_Dc U ∧ (∀ q ∈ ncs, va_Nc q.1 q.2 U) ∧ (∀ q ∈ strs, ∃ a, vk_R RX3 q.1 q.2 a U) ∧ ∀ x ∈ dcl, va_Nw (.declares x) U
theorem KK.warm {D : va_G} {s U : State} (hW : s.WarmedH U.vm) (h : KK D s) : KK D U := by
  obtain ⟨h1, h2, h3, h4, h5, h6, h7, h8, h9, h10⟩ := h
  exact ⟨va_K.moved hW.alike h1, va_Nw.warmM hW h2, va_Nw.warmM hW h3, fun q hq => va_Nw.warmC hW (h4 q hq), va_AO.moved hW.alike h5, va_Mi.moved hW.alike h6, va_Dc.moved hW.alike h7, fun q hq => va_Nc.moved hW.alike (h8 q hq), fun q hq => ⟨_, vk_R.warm hW (h9 q hq).choose_spec⟩, fun x hx => va_Nw.warmD hW (h10 x hx)⟩
theorem KK.calling {D : va_G} {U : State} {g : JFrame} {mk : MethodId} {a : Array Value} (h : KK D U) : KK D (U.calling g mk a) := KK.warm (U := U.calling g mk a) (State.WarmedH.refl U) h
/-- the statics: Throwable's two, ArrayList's shared empty array -/
def ZZ (D : va_G) (A : Nat → Prop) (U : State) (H : Heap) : Prop := vx_Zq Bundle.tN "UNASSIGNED_STACK" Bundle.steD A U H ∧ vx_Zq Bundle.tN "SUPPRESSED_SENTINEL" Bundle.listD A U H ∧ va_Z "java/util/ArrayList" "DEFAULTCAPACITY_EMPTY_ELEMENTDATA" "[Ljava/lang/Object;" (.ref (dE D)) A U H ∧ va_T (.object "java/lang/Object") (dE D) 0 (fun _ => .null) A U H
theorem ZZ.moved {D : va_G} {A : Nat → Prop} {u U : State} {H : Heap} (hvm : u.vm.Alike U.vm) (h : ZZ D A u H) : ZZ D A U H := ⟨h.1.moved hvm, h.2.1.moved hvm, h.2.2.1.moved hvm, h.2.2.2.moved hvm⟩
theorem ZZ.kept {D : va_G} {A : Nat → Prop} {U : State} {H H1 : Heap} (h : ZZ D A U H) (hq : ∀ a : Nat, a < H.size → ¬ A a → H1[a]? = H[a]?) : ZZ D A U H1 := ⟨h.1.kept hq, h.2.1.kept hq, h.2.2.1.kept hq, h.2.2.2.kept hq⟩
theorem ZZ.narrow {D : va_G} {A B : Nat → Prop} {U : State} {H : Heap} (h : ZZ D A U H) (hAB : ∀ q, B q → A q) : ZZ D B U H := ⟨h.1.narrow hAB, h.2.1.narrow hAB, h.2.2.1.narrow hAB, h.2.2.2.narrow hAB⟩
abbrev rm4 (fr c n lo : Nat) : Room := { frames := fr, cells := c, slots := n, locals := lo }
/-- what stays in a body -/
def Fx (k : Kx) (cc : ByteArray) (own : String) (R : Room) (nL : Nat) : Prop :=
  (kp k).tables.exec = Jvm.exec ∧ (kc k).code = cc ∧ (kc k).maxLocals = nL ∧ kn k = nL ∧ kR k = R ∧ (ks k).vm.findClass own = some (km k).cls ∧ (∀ w ∈ Uw, w.before (kargs k) (ks k) = true) ∧ KK (kD k) (ks k) ∧ (∀ q, (ks k).heap.size ≤ q → kw k = true → kA k q) ∧ (kw k = true → ZZ (kD k) (kA k) (ks k) (ks k).heap) ∧ (kl k).stackTraces = false ∧ (kmeth k).locks = false
section FX
variable {k : Kx} {cc : ByteArray} {own : String} {R : Room} {nL : Nat}
theorem Fx.hx (F : Fx k cc own R nL) : (kp k).tables.exec = Jvm.exec := F.1
theorem Fx.hb (F : Fx k cc own R nL) : (kc k).code = cc := F.2.1
theorem Fx.hml (F : Fx k cc own R nL) : (kc k).maxLocals = nL := F.2.2.1
theorem Fx.hn (F : Fx k cc own R nL) : kn k = nL := F.2.2.2.1
theorem Fx.hR (F : Fx k cc own R nL) : kR k = R := F.2.2.2.2.1
theorem Fx.hown (F : Fx k cc own R nL) : (ks k).vm.findClass own = some (km k).cls := F.2.2.2.2.2.1
theorem Fx.hts (F : Fx k cc own R nL) {w : Cond} (h : w ∈ Uw) : w.before (kargs k) (ks k) = true := F.2.2.2.2.2.2.1 w h
theorem Fx.hK (F : Fx k cc own R nL) : KK (kD k) (ks k) := F.2.2.2.2.2.2.2.1
theorem Fx.hA (F : Fx k cc own R nL) (hw : kw k = true) : ∀ q, (ks k).heap.size ≤ q → kA k q := fun q h => F.2.2.2.2.2.2.2.2.1 q h hw
theorem Fx.hZ (F : Fx k cc own R nL) (hw : kw k = true) : ZZ (kD k) (kA k) (ks k) (ks k).heap := F.2.2.2.2.2.2.2.2.2.1 hw
theorem Fx.hl (F : Fx k cc own R nL) : (kl k).stackTraces = false := F.2.2.2.2.2.2.2.2.2.2.1
theorem Fx.hlk (F : Fx k cc own R nL) : (kmeth k).locks = false := F.2.2.2.2.2.2.2.2.2.2.2
theorem Fx.fix (F : Fx k cc own R nL) : CallFix (kp k) (km k) (kc k) cc nL (ks k) (kargs k) Uw own := ⟨F.hx, F.hb, F.hml, F.hown, fun _ h => F.hts h⟩
end FX
/-- the heap holds the world -/
def Wd (k : Kx) (ws : va_W) (H : Heap) (locs : List Loc) : Prop := va_P (kD k) vwCl ws H ∧ (kw k = true → va_D (kA k) ws) ∧ va_S (kA k) (ks k).heap H locs ∧ (kw k = false → H = (ks k).heap ∧ locs = [])
/-- the locals, by their slots -/
def prs : Nat → List (Option Value) → List (Nat × Value)
  | _, [] => []
  | i, none :: t => prs (i + 1) t
  | i, some v :: t => (i, v) :: prs (i + 1) t
theorem prs_iff : ∀ (l : List (Option Value)) (i j : Nat) (v : Value), (j, v) ∈ prs i l ↔ ∃ n, j = i + n ∧ l[n]? = some (some v)
  | [], i, j, v => by simp [prs]
  | none :: t, i, j, v => by
    rw [prs, prs_iff t (i + 1) j v]
    constructor
    · rintro ⟨n, h1, h2⟩
      exact ⟨n + 1, by omega, by simpa using h2⟩
    · rintro ⟨n, h1, h2⟩
      cases n with
      | zero => simp at h2
      | succ n => exact ⟨n, by omega, by simpa using h2⟩
  | some w :: t, i, j, v => by
    rw [prs, List.mem_cons, prs_iff t (i + 1) j v]
    constructor
    · rintro (h | ⟨n, h1, h2⟩)
      · cases h
        exact ⟨0, rfl, rfl⟩
      · exact ⟨n + 1, by omega, by simpa using h2⟩
    · rintro ⟨n, h1, h2⟩
      cases n with
      | zero =>
        simp at h2
        exact Or.inl (by rw [h1, h2]; rfl)
      | succ n => exact Or.inr ⟨n, by omega, by simpa using h2⟩
def lvh (ls : Array Slot) (n : Nat) (lv : List (Option Value)) : Prop := lv_has ls n (prs 0 lv)
theorem lvh.at {ls : Array Slot} {n : Nat} {lv : List (Option Value)} (h : lvh ls n lv) {i : Nat} {v : Value} (hv : lv[i]? = some (some v)) : ls[i]? = some (.val v) := h.2.2 (i, v) ((prs_iff lv 0 i v).mpr ⟨i, by omega, hv⟩)
/-- a slot's store spoils no long in front of it -/
def okst : List (Option Value) → Nat → Bool
  | _, 0 => true
  | [], _ => true
  | [_], _ => true
  | some v :: _ :: _, 1 => v.category == 1
  | none :: _ :: _, 1 => true
  | _ :: t, i + 1 => okst t i
theorem okst_spec : ∀ (l : List (Option Value)) (i : Nat) (v : Value), okst l (i + 1) = true → i + 1 < l.length → l[i]? = some (some v) → v.category = 1
  | [], _, _, _, h, _ => by simp at h
  | [_], _, _, _, h, _ => by simp at h
  | some w :: b :: t, 0, v, h, _, e => by
    simp [okst] at h e
    rw [← e]; exact h
  | none :: b :: t, 0, v, h, _, e => by simp at e
  | a :: b :: t, i + 1, v, h, hl, e => by
    have h' : okst (b :: t) (i + 1) = true := by
      cases a <;> simpa [okst] using h
    exact okst_spec (b :: t) i v h' (by simpa using hl) (by simpa using e)
theorem lvh.put {ls' : Array Slot} {n : Nat} {lv lv' : List (Option Value)} {i : Nat} {v : Value} (ho : (Nat.blt i lv.length && okst lv i) = true) (e : lv.set i (some v) = lv')
    (h : lv_has ls' n ((i, v) :: (prs 0 lv).filter (fun q => !(q.1 == i) && !(q.1 + 1 == i && q.2.category == 2)))) : lvh ls' n lv' := by
  subst e
  simp only [Bool.and_eq_true, Nat.blt_eq] at ho
  refine ⟨h.1, h.2.1, fun q hq => h.2.2 q ?_⟩
  obtain ⟨j, w⟩ := q
  obtain ⟨m, e1, e2⟩ := (prs_iff _ 0 j w).mp hq
  rw [Nat.zero_add] at e1
  subst e1
  by_cases hj : j = i
  · subst hj
    rw [List.getElem?_set_self ho.1] at e2
    cases e2
    exact List.mem_cons_self
  · rw [List.getElem?_set_ne (fun z => hj z.symm)] at e2
    refine List.mem_cons_of_mem _ (List.mem_filter.mpr ⟨(prs_iff lv 0 j w).mpr ⟨j, by omega, e2⟩, ?_⟩)
    simp only [Bool.and_eq_true, Bool.not_eq_true', beq_eq_false_iff_ne, Bool.and_eq_false_imp, beq_iff_eq]
    refine ⟨hj, fun hji => ?_⟩
    subst hji
    have := okst_spec lv j w ho.2 ho.1 e2
    show ¬ w.category = 2
    omega
theorem lvh.put2 {ls' : Array Slot} {n : Nat} {lv lv' : List (Option Value)} {i : Nat} {v : Value} (ho : (Nat.blt (i + 1) lv.length && okst lv i) = true) (e : (lv.set i (some v)).set (i + 1) none = lv')
    (h : lv_has ls' n ((i, v) :: (prs 0 lv).filter (fun q => !(q.1 == i) && (!(q.1 == i + 1) && !(q.1 + 1 == i && q.2.category == 2))))) : lvh ls' n lv' := by
  subst e
  simp only [Bool.and_eq_true, Nat.blt_eq] at ho
  refine ⟨h.1, h.2.1, fun q hq => h.2.2 q ?_⟩
  obtain ⟨j, w⟩ := q
  obtain ⟨m, e1, e2⟩ := (prs_iff _ 0 j w).mp hq
  rw [Nat.zero_add] at e1
  subst e1
  by_cases hj1 : j = i + 1
  · subst hj1
    rw [List.getElem?_set_self (by rw [List.length_set]; exact ho.1)] at e2
    cases e2
  rw [List.getElem?_set_ne (fun z => hj1 z.symm)] at e2
  by_cases hj : j = i
  · subst hj
    rw [List.getElem?_set_self (by omega)] at e2
    cases e2
    exact List.mem_cons_self
  · rw [List.getElem?_set_ne (fun z => hj z.symm)] at e2
    refine List.mem_cons_of_mem _ (List.mem_filter.mpr ⟨(prs_iff lv 0 j w).mpr ⟨j, by omega, e2⟩, ?_⟩)
    simp only [Bool.and_eq_true, Bool.not_eq_true', beq_eq_false_iff_ne, Bool.and_eq_false_imp, beq_iff_eq]
    refine ⟨hj, hj1, fun hji => ?_⟩
    subst hji
    have := okst_spec lv j w ho.2 (by omega) e2
    show ¬ w.category = 2
    omega
def J (k : Kx) (ws : va_W) (c n pc : Nat) (lv : List (Option Value)) (st : List Value) : Prop :=
  ∀ (H : Heap) (locs : List Loc) (ls : Array Slot), Wd k ws H locs → lvh ls (kn k) lv → W (kp k) (kl k) (ke k) (kR k) (ks k) (km k) (kargs k) (kbelow k) (kmeth k) (kc k) H locs c n (kQ k) (F0 (km k) pc ls st)
section ROWS
variable {k : Kx} {cc : ByteArray} {own : String} {R : Room} {nL : Nat} {ws : va_W} {c n pc : Nat} {lv lv' : List (Option Value)} {st : List Value}
theorem j_iconst (F : Fx k cc own R nL) {q : Int} {v : Int32} (hd : decode cc pc = .ok (.iconst q, 1)) (hv : Int32.ofInt q = v) (K : J k ws c n (pc + 1) lv (.int v :: st)) : J k ws c n pc lv (st) := fun H locs ls hP hL => lv_iconst F.hx F.hb hd hv (K H locs ls hP hL)
theorem j_bipush (F : Fx k cc own R nL) {q : Int} {v : Int32} (hd : decode cc pc = .ok (.bipush q, 2)) (hv : (Int8.ofInt q).toInt32 = v) (K : J k ws c n (pc + 2) lv (.int v :: st)) : J k ws c n pc lv (st) := fun H locs ls hP hL => lv_bipush F.hx F.hb hd hv (K H locs ls hP hL)
theorem j_sipush (F : Fx k cc own R nL) {q : Int} {v : Int32} (hd : decode cc pc = .ok (.sipush q, 3)) (hv : (Int16.ofInt q).toInt32 = v) (K : J k ws c n (pc + 3) lv (.int v :: st)) : J k ws c n pc lv (st) := fun H locs ls hP hL => lv_sipush F.hx F.hb hd hv (K H locs ls hP hL)
theorem j_lconst (F : Fx k cc own R nL) {q : Fin 2} {v : Int64} (hd : decode cc pc = .ok (.lconst q, 1)) (hv : Int64.ofNat (q : Nat) = v) (K : J k ws c n (pc + 1) lv (.long v :: st)) : J k ws c n pc lv (st) := fun H locs ls hP hL => lv_lconst F.hx F.hb hd hv (K H locs ls hP hL)
theorem j_iloadn (F : Fx k cc own R nL) {i : Fin 4} {x : Int32} (hd : decode cc pc = .ok (.iload_n i, 1)) (hl : lv[i.val]? = some (some (.int x))) (K : J k ws c n (pc + 1) lv (.int x :: st)) : J k ws c n pc lv (st) := fun H locs ls hP hL => lv_iload_n F.hx F.hb hd rfl (hL.at hl) (K H locs ls hP hL)
theorem j_iload (F : Fx k cc own R nL) {i : Nat} {x : Int32} (hd : decode cc pc = .ok (.iload i, 2)) (hl : lv[i]? = some (some (.int x))) (K : J k ws c n (pc + 2) lv (.int x :: st)) : J k ws c n pc lv (st) := fun H locs ls hP hL => lv_iload F.hx F.hb hd (hL.at hl) (K H locs ls hP hL)
theorem j_lloadn (F : Fx k cc own R nL) {i : Fin 4} {x : Int64} (hd : decode cc pc = .ok (.lload_n i, 1)) (hl : lv[i.val]? = some (some (.long x))) (K : J k ws c n (pc + 1) lv (.long x :: st)) : J k ws c n pc lv (st) := fun H locs ls hP hL => lv_lload_n F.hx F.hb hd rfl (hL.at hl) (K H locs ls hP hL)
theorem j_lload (F : Fx k cc own R nL) {i : Nat} {x : Int64} (hd : decode cc pc = .ok (.lload i, 2)) (hl : lv[i]? = some (some (.long x))) (K : J k ws c n (pc + 2) lv (.long x :: st)) : J k ws c n pc lv (st) := fun H locs ls hP hL => lv_lload F.hx F.hb hd (hL.at hl) (K H locs ls hP hL)
theorem j_dload (F : Fx k cc own R nL) {i : Nat} {x : UInt64} (hd : decode cc pc = .ok (.dload i, 2)) (hl : lv[i]? = some (some (.double x))) (K : J k ws c n (pc + 2) lv (.double x :: st)) : J k ws c n pc lv (st) := fun H locs ls hP hL => lv_dload F.hx F.hb hd (hL.at hl) (K H locs ls hP hL)
theorem j_aloadn (F : Fx k cc own R nL) {i : Fin 4} {x : Nat} (hd : decode cc pc = .ok (.aload_n i, 1)) (hl : lv[i.val]? = some (some (.ref x))) (K : J k ws c n (pc + 1) lv (.ref x :: st)) : J k ws c n pc lv (st) := fun H locs ls hP hL => lv_aload_n F.hx F.hb hd rfl (hL.at hl) (K H locs ls hP hL)
theorem j_aload (F : Fx k cc own R nL) {i : Nat} {x : Nat} (hd : decode cc pc = .ok (.aload i, 2)) (hl : lv[i]? = some (some (.ref x))) (K : J k ws c n (pc + 2) lv (.ref x :: st)) : J k ws c n pc lv (st) := fun H locs ls hP hL => lv_aload F.hx F.hb hd (hL.at hl) (K H locs ls hP hL)
theorem j_aloadnq (F : Fx k cc own R nL) {i : Fin 4} {x : Option Nat} (hd : decode cc pc = .ok (.aload_n i, 1)) (hl : lv[i.val]? = some (some (va_rf x))) (K : J k ws c n (pc + 1) lv (va_rf x :: st)) : J k ws c n pc lv st := by
  cases x with
  | none => exact fun H locs ls hP hL => lv_aload_nN F.hx F.hb hd rfl (hL.at hl) (K H locs ls hP hL)
  | some a => exact j_aloadn F hd hl K
theorem j_aloadq (F : Fx k cc own R nL) {i : Nat} {x : Option Nat} (hd : decode cc pc = .ok (.aload i, 2)) (hl : lv[i]? = some (some (va_rf x))) (K : J k ws c n (pc + 2) lv (va_rf x :: st)) : J k ws c n pc lv st := by
  cases x with
  | none => exact fun H locs ls hP hL => lv_aloadN F.hx F.hb hd (hL.at hl) (K H locs ls hP hL)
  | some a => exact j_aload F hd hl K
theorem j_istoren (F : Fx k cc own R nL) {i : Fin 4} {x : Int32} (lv' : List (Option Value)) (hd : decode cc pc = .ok (.istore_n i, 1)) (ho : (Nat.blt i.val lv.length && okst lv i.val) = true) (hn : Nat.blt i.val nL = true) (he : lv.set i.val (some (.int x)) = lv') (K : J k ws c n (pc + 1) lv' st) : J k ws c n pc lv (.int x :: st) := fun H locs ls hP hL => lv_istore_n F.hx F.hb hd rfl hL (by rw [F.hn]; simpa using hn) rfl fun ls' h => K H locs ls' hP (lvh.put ho he h)
theorem j_istore (F : Fx k cc own R nL) {i : Nat} {x : Int32} (lv' : List (Option Value)) (hd : decode cc pc = .ok (.istore i, 2)) (ho : (Nat.blt i lv.length && okst lv i) = true) (hn : Nat.blt i nL = true) (he : lv.set i (some (.int x)) = lv') (K : J k ws c n (pc + 2) lv' st) : J k ws c n pc lv (.int x :: st) := fun H locs ls hP hL => lv_istore F.hx F.hb hd hL (by rw [F.hn]; simpa using hn) rfl fun ls' h => K H locs ls' hP (lvh.put ho he h)
theorem j_astoren (F : Fx k cc own R nL) {i : Fin 4} {x : Nat} (lv' : List (Option Value)) (hd : decode cc pc = .ok (.astore_n i, 1)) (ho : (Nat.blt i.val lv.length && okst lv i.val) = true) (hn : Nat.blt i.val nL = true) (he : lv.set i.val (some (.ref x)) = lv') (K : J k ws c n (pc + 1) lv' st) : J k ws c n pc lv (.ref x :: st) := fun H locs ls hP hL => lv_astore_n F.hx F.hb hd rfl hL (by rw [F.hn]; simpa using hn) rfl fun ls' h => K H locs ls' hP (lvh.put ho he h)
theorem j_astore (F : Fx k cc own R nL) {i : Nat} {x : Nat} (lv' : List (Option Value)) (hd : decode cc pc = .ok (.astore i, 2)) (ho : (Nat.blt i lv.length && okst lv i) = true) (hn : Nat.blt i nL = true) (he : lv.set i (some (.ref x)) = lv') (K : J k ws c n (pc + 2) lv' st) : J k ws c n pc lv (.ref x :: st) := fun H locs ls hP hL => lv_astore F.hx F.hb hd hL (by rw [F.hn]; simpa using hn) rfl fun ls' h => K H locs ls' hP (lvh.put ho he h)
theorem j_lstoren (F : Fx k cc own R nL) {i : Fin 4} {x : Int64} (lv' : List (Option Value)) (hd : decode cc pc = .ok (.lstore_n i, 1)) (ho : (Nat.blt (i.val + 1) lv.length && okst lv i.val) = true) (hn : Nat.blt (i.val + 1) nL = true) (he : (lv.set i.val (some (.long x))).set (i.val + 1) none = lv') (K : J k ws c n (pc + 1) lv' st) : J k ws c n pc lv (.long x :: st) := fun H locs ls hP hL => lv_lstore_n F.hx F.hb hd rfl hL (by rw [F.hn]; simpa using hn) rfl fun ls' h => K H locs ls' hP (lvh.put2 ho he h)
theorem j_lstore (F : Fx k cc own R nL) {i : Nat} {x : Int64} (lv' : List (Option Value)) (hd : decode cc pc = .ok (.lstore i, 2)) (ho : (Nat.blt (i + 1) lv.length && okst lv i) = true) (hn : Nat.blt (i + 1) nL = true) (he : (lv.set i (some (.long x))).set (i + 1) none = lv') (K : J k ws c n (pc + 2) lv' st) : J k ws c n pc lv (.long x :: st) := fun H locs ls hP hL => lv_lstore F.hx F.hb hd hL (by rw [F.hn]; simpa using hn) rfl fun ls' h => K H locs ls' hP (lvh.put2 ho he h)
theorem j_dstore (F : Fx k cc own R nL) {i : Nat} {x : UInt64} (lv' : List (Option Value)) (hd : decode cc pc = .ok (.dstore i, 2)) (ho : (Nat.blt (i + 1) lv.length && okst lv i) = true) (hn : Nat.blt (i + 1) nL = true) (he : (lv.set i (some (.double x))).set (i + 1) none = lv') (K : J k ws c n (pc + 2) lv' st) : J k ws c n pc lv (.double x :: st) := fun H locs ls hP hL => lv_dstore F.hx F.hb hd hL (by rw [F.hn]; simpa using hn) rfl fun ls' h => K H locs ls' hP (lvh.put2 ho he h)
theorem j_astorenN (F : Fx k cc own R nL) {i : Fin 4}  (lv' : List (Option Value)) (hd : decode cc pc = .ok (.astore_n i, 1)) (ho : (Nat.blt i.val lv.length && okst lv i.val) = true) (hn : Nat.blt i.val nL = true) (he : lv.set i.val (some (.null)) = lv') (K : J k ws c n (pc + 1) lv' st) : J k ws c n pc lv (.null :: st) := fun H locs ls hP hL => lv_astore_nN F.hx F.hb hd rfl hL (by rw [F.hn]; simpa using hn) rfl fun ls' h => K H locs ls' hP (lvh.put ho he h)
theorem j_astoreN (F : Fx k cc own R nL) {i : Nat}  (lv' : List (Option Value)) (hd : decode cc pc = .ok (.astore i, 2)) (ho : (Nat.blt i lv.length && okst lv i) = true) (hn : Nat.blt i nL = true) (he : lv.set i (some (.null)) = lv') (K : J k ws c n (pc + 2) lv' st) : J k ws c n pc lv (.null :: st) := fun H locs ls hP hL => lv_astoreN F.hx F.hb hd hL (by rw [F.hn]; simpa using hn) rfl fun ls' h => K H locs ls' hP (lvh.put ho he h)
theorem j_astorenq (F : Fx k cc own R nL) {i : Fin 4} {x : Option Nat} (lv' : List (Option Value)) (hd : decode cc pc = .ok (.astore_n i, 1)) (ho : (Nat.blt i.val lv.length && okst lv i.val) = true) (hn : Nat.blt i.val nL = true) (he : lv.set i.val (some (va_rf x)) = lv') (K : J k ws c n (pc + 1) lv' st) : J k ws c n pc lv (va_rf x :: st) := by
  cases x with
  | none => exact j_astorenN F lv' hd ho hn he K
  | some a => exact j_astoren F lv' hd ho hn he K
theorem j_astoreq (F : Fx k cc own R nL) {i : Nat} {x : Option Nat} (lv' : List (Option Value)) (hd : decode cc pc = .ok (.astore i, 2)) (ho : (Nat.blt i lv.length && okst lv i) = true) (hn : Nat.blt i nL = true) (he : lv.set i (some (va_rf x)) = lv') (K : J k ws c n (pc + 2) lv' st) : J k ws c n pc lv (va_rf x :: st) := by
  cases x with
  | none => exact j_astoreN F lv' hd ho hn he K
  | some a => exact j_astore F lv' hd ho hn he K
theorem j_iinc (F : Fx k cc own R nL) {i : Nat} {d : Int} {x v : Int32} (lv' : List (Option Value)) (hd : decode cc pc = .ok (.iinc i d, 3)) (hl : lv[i]? = some (some (.int x))) (hv : x + Int32.ofInt d = v) (ho : (Nat.blt i lv.length && okst lv i) = true) (hn : Nat.blt i nL = true) (he : lv.set i (some (.int v)) = lv') (K : J k ws c n (pc + 3) lv' st) : J k ws c n pc lv st := fun H locs ls hP hL => by
  obtain ⟨j, hj⟩ := List.getElem?_of_mem ((prs_iff lv 0 i (.int x)).mpr ⟨i, by omega, hl⟩)
  exact lv_iinc F.hx F.hb hd hL hj hv (by rw [F.hn]; simpa using hn) rfl fun ls' h => K H locs ls' hP (lvh.put ho he h)
theorem j_iadd (F : Fx k cc own R nL) {x y : Int32} (hd : decode cc pc = .ok (.iadd, 1)) (K : J k ws c n (pc + 1) lv (.int (x + y) :: st)) : J k ws c n pc lv (.int y :: .int x :: st) := fun H locs ls hP hL => lv_iadd F.hx F.hb hd (K H locs ls hP hL)
theorem j_isub (F : Fx k cc own R nL) {x y : Int32} (hd : decode cc pc = .ok (.isub, 1)) (K : J k ws c n (pc + 1) lv (.int (x - y) :: st)) : J k ws c n pc lv (.int y :: .int x :: st) := fun H locs ls hP hL => lv_isub F.hx F.hb hd (K H locs ls hP hL)
theorem j_imul (F : Fx k cc own R nL) {x y : Int32} (hd : decode cc pc = .ok (.imul, 1)) (K : J k ws c n (pc + 1) lv (.int (x * y) :: st)) : J k ws c n pc lv (.int y :: .int x :: st) := fun H locs ls hP hL => lv_imul F.hx F.hb hd (K H locs ls hP hL)
theorem j_iand (F : Fx k cc own R nL) {x y : Int32} (hd : decode cc pc = .ok (.iand, 1)) (K : J k ws c n (pc + 1) lv (.int (x &&& y) :: st)) : J k ws c n pc lv (.int y :: .int x :: st) := fun H locs ls hP hL => lv_iand F.hx F.hb hd (K H locs ls hP hL)
theorem j_ior (F : Fx k cc own R nL) {x y : Int32} (hd : decode cc pc = .ok (.ior, 1)) (K : J k ws c n (pc + 1) lv (.int (x ||| y) :: st)) : J k ws c n pc lv (.int y :: .int x :: st) := fun H locs ls hP hL => lv_ior F.hx F.hb hd (K H locs ls hP hL)
theorem j_ixor (F : Fx k cc own R nL) {x y : Int32} (hd : decode cc pc = .ok (.ixor, 1)) (K : J k ws c n (pc + 1) lv (.int (x ^^^ y) :: st)) : J k ws c n pc lv (.int y :: .int x :: st) := fun H locs ls hP hL => lv_ixor F.hx F.hb hd (K H locs ls hP hL)
theorem j_ishl (F : Fx k cc own R nL) {x y : Int32} (hd : decode cc pc = .ok (.ishl, 1)) (K : J k ws c n (pc + 1) lv (.int (x <<< (y &&& 31)) :: st)) : J k ws c n pc lv (.int y :: .int x :: st) := fun H locs ls hP hL => lv_ishl F.hx F.hb hd (K H locs ls hP hL)
theorem j_ishr (F : Fx k cc own R nL) {x y : Int32} (hd : decode cc pc = .ok (.ishr, 1)) (K : J k ws c n (pc + 1) lv (.int (x >>> (y &&& 31)) :: st)) : J k ws c n pc lv (.int y :: .int x :: st) := fun H locs ls hP hL => lv_ishr F.hx F.hb hd (K H locs ls hP hL)
theorem j_idiv (F : Fx k cc own R nL) {x y : Int32} (hd : decode cc pc = .ok (.idiv, 1)) (h0 : ¬ y = 0) (K : J k ws c n (pc + 1) lv (.int (x / y) :: st)) : J k ws c n pc lv (.int y :: .int x :: st) := fun H locs ls hP hL => lv_idiv F.hx F.hb hd h0 (K H locs ls hP hL)
theorem j_irem (F : Fx k cc own R nL) {x y : Int32} (hd : decode cc pc = .ok (.irem, 1)) (h0 : ¬ y = 0) (K : J k ws c n (pc + 1) lv (.int (x - x / y * y) :: st)) : J k ws c n pc lv (.int y :: .int x :: st) := fun H locs ls hP hL => lv_irem F.hx F.hb hd h0 (K H locs ls hP hL)
theorem j_ladd (F : Fx k cc own R nL) {x y : Int64} (hd : decode cc pc = .ok (.ladd, 1)) (K : J k ws c n (pc + 1) lv (.long (x + y) :: st)) : J k ws c n pc lv (.long y :: .long x :: st) := fun H locs ls hP hL => lv_ladd F.hx F.hb hd (K H locs ls hP hL)
theorem j_lmul (F : Fx k cc own R nL) {x y : Int64} (hd : decode cc pc = .ok (.lmul, 1)) (K : J k ws c n (pc + 1) lv (.long (x * y) :: st)) : J k ws c n pc lv (.long y :: .long x :: st) := fun H locs ls hP hL => lv_lmul F.hx F.hb hd (K H locs ls hP hL)
theorem j_i2l (F : Fx k cc own R nL) {x : Int32} (hd : decode cc pc = .ok (.i2l, 1)) (K : J k ws c n (pc + 1) lv (.long x.toInt64 :: st)) : J k ws c n pc lv (.int x :: st) := fun H locs ls hP hL => lv_i2l F.hx F.hb hd rfl (K H locs ls hP hL)
theorem j_lcmp (F : Fx k cc own R nL) {x y : Int64} (hd : decode cc pc = .ok (.lcmp, 1)) (K : J k ws c n (pc + 1) lv (.int (lg_cmp x y) :: st)) : J k ws c n pc lv (.long y :: .long x :: st) := fun H locs ls hP hL => W.lcmp F.hx F.hb hd (K H locs ls hP hL)
theorem j_i2d (F : Fx k cc own R nL) {x : Int32} (hd : decode cc pc = .ok (.i2d, 1)) (K : J k ws c n (pc + 1) lv (.double (FP.i2d x) :: st)) : J k ws c n pc lv (.int x :: st) := fun H locs ls hP hL => lv_i2d F.hx F.hb hd (K H locs ls hP hL)
theorem j_ddiv (F : Fx k cc own R nL) {x y : UInt64} (hd : decode cc pc = .ok (.ddiv, 1)) (hne : vf_n64 (FP.ddiv x y)) (K : J k ws c n (pc + 1) lv (.double (FP.ddiv x y) :: st)) : J k ws c n pc lv (.double y :: .double x :: st) := fun H locs ls hP hL => lv_ddiv F.hx F.hb hd hne (K H locs ls hP hL)
theorem j_dcmp (F : Fx k cc own R nL) {x y : UInt64} {op : CmpOp} (hd : decode cc pc = .ok (.dcmp op, 1)) (K : J k ws c n (pc + 1) lv (.int (Op.cmpValue (FP.dcmp x y) op) :: st)) : J k ws c n pc lv (.double y :: .double x :: st) := fun H locs ls hP hL => lv_dcmp F.hx F.hb hd (K H locs ls hP hL)
theorem j_dconst1 (F : Fx k cc own R nL) (hd : decode cc pc = .ok (.dconst 1, 1)) (K : J k ws c n (pc + 1) lv (.double FP.dconst1 :: st)) : J k ws c n pc lv (st) := fun H locs ls hP hL => lv_dconst1 F.hx F.hb hd (K H locs ls hP hL)
theorem j_null (F : Fx k cc own R nL) (hd : decode cc pc = .ok (.aconst_null, 1)) (K : J k ws c n (pc + 1) lv (.null :: st)) : J k ws c n pc lv (st) := fun H locs ls hP hL => lv_null F.hx F.hb hd (K H locs ls hP hL)
theorem j_dup (F : Fx k cc own R nL) {v : Value} (hd : decode cc pc = .ok (.dup, 1)) (hv : v.category = 1) (K : J k ws c n (pc + 1) lv (v :: v :: st)) : J k ws c n pc lv (v :: st) := fun H locs ls hP hL => lv_dup F.hx F.hb hd hv (K H locs ls hP hL)
theorem j_pop (F : Fx k cc own R nL) {v : Value} (hd : decode cc pc = .ok (.pop, 1)) (hv : v.category = 1) (K : J k ws c n (pc + 1) lv (st)) : J k ws c n pc lv (v :: st) := fun H locs ls hP hL => lv_pop F.hx F.hb hd hv (K H locs ls hP hL)
theorem j_dup2 (F : Fx k cc own R nL) {v w : Value} (hd : decode cc pc = .ok (.dup2, 1)) (hv : v.category = 1) (hw : w.category = 1) (K : J k ws c n (pc + 1) lv (v :: w :: v :: w :: st)) : J k ws c n pc lv (v :: w :: st) := fun H locs ls hP hL => lv_dup2_11 F.hx F.hb hd hv hw (K H locs ls hP hL)
theorem j_dupx1 (F : Fx k cc own R nL) {v w : Value} (hd : decode cc pc = .ok (.dup_x1, 1)) (hv : v.category = 1) (hw : w.category = 1) (K : J k ws c n (pc + 1) lv (v :: w :: v :: st)) : J k ws c n pc lv (v :: w :: st) := fun H locs ls hP hL => lv_dup_x1 F.hx F.hb hd hv hw (K H locs ls hP hL)
theorem j_goto (F : Fx k cc own R nL) {off : Int} {tgt : Nat} (hd : decode cc pc = .ok (.goto off, 3)) (ht : (pc : Int) + off = (tgt : Int)) (K : J k ws c n (tgt) lv (st)) : J k ws c n pc lv (st) := fun H locs ls hP hL => lv_goto F.hx F.hb hd ht (K H locs ls hP hL)
theorem j_ifnonnull (F : Fx k cc own R nL) {x : Nat} {off : Int} {tgt : Nat} (hd : decode cc pc = .ok (.ifnonnull off, 3)) (ht : (pc : Int) + off = (tgt : Int)) (K : J k ws c n (tgt) lv (st)) : J k ws c n pc lv (.ref x :: st) := fun H locs ls hP hL => lv_ifnonnull F.hx F.hb hd ht (K H locs ls hP hL)
theorem j_ifnonnullN (F : Fx k cc own R nL) {off : Int} (hd : decode cc pc = .ok (.ifnonnull off, 3)) (K : J k ws c n (pc + 3) lv (st)) : J k ws c n pc lv (.null :: st) := fun H locs ls hP hL => lv_ifnonnullN F.hx F.hb hd (K H locs ls hP hL)
theorem j_ifnull (F : Fx k cc own R nL) {x : Nat} {off : Int} (hd : decode cc pc = .ok (.ifnull off, 3)) (K : J k ws c n (pc + 3) lv (st)) : J k ws c n pc lv (.ref x :: st) := fun H locs ls hP hL => lv_ifnull F.hx F.hb hd (K H locs ls hP hL)
theorem j_ifnullN (F : Fx k cc own R nL) {off : Int} {tgt : Nat} (hd : decode cc pc = .ok (.ifnull off, 3)) (ht : (pc : Int) + off = (tgt : Int)) (K : J k ws c n (tgt) lv (st)) : J k ws c n pc lv (.null :: st) := fun H locs ls hP hL => lv_ifnullN F.hx F.hb hd ht (K H locs ls hP hL)
theorem j_ifnullq (F : Fx k cc own R nL) {x : Option Nat} {off : Int} {tgt : Nat} (hd : decode cc pc = .ok (.ifnull off, 3)) (ht : (pc : Int) + off = (tgt : Int)) (K1 : x = none → J k ws c n tgt lv st) (K2 : ∀ a, x = some a → J k ws c n (pc + 3) lv st) : J k ws c n pc lv (va_rf x :: st) := by
  cases x with
  | none => exact j_ifnullN F hd ht (K1 rfl)
  | some a => exact j_ifnull F hd (K2 a rfl)
theorem j_ifnonnullq (F : Fx k cc own R nL) {x : Option Nat} {off : Int} {tgt : Nat} (hd : decode cc pc = .ok (.ifnonnull off, 3)) (ht : (pc : Int) + off = (tgt : Int)) (K1 : ∀ a, x = some a → J k ws c n tgt lv st) (K2 : x = none → J k ws c n (pc + 3) lv st) : J k ws c n pc lv (va_rf x :: st) := by
  cases x with
  | none => exact j_ifnonnullN F hd (K2 rfl)
  | some a => exact j_ifnonnull F hd ht (K1 a rfl)
theorem j_ifeq (F : Fx k cc own R nL) {x : Int32} {off : Int} {tgt : Nat} (hd : decode cc pc = .ok (.ifCond .eq off, 3)) (ht : (pc : Int) + off = (tgt : Int)) (K1 : x = 0 → J k ws c n tgt lv st) (K2 : ¬ x = 0 → J k ws c n (pc + 3) lv st) : J k ws c n pc lv (.int x :: st) := fun H locs ls hP hL => lv_if_eq F.hx F.hb hd ht (fun h => K1 h H locs ls hP hL) (fun h => K2 h H locs ls hP hL)
theorem j_ifne (F : Fx k cc own R nL) {x : Int32} {off : Int} {tgt : Nat} (hd : decode cc pc = .ok (.ifCond .ne off, 3)) (ht : (pc : Int) + off = (tgt : Int)) (K1 : ¬ x = 0 → J k ws c n tgt lv st) (K2 : x = 0 → J k ws c n (pc + 3) lv st) : J k ws c n pc lv (.int x :: st) := fun H locs ls hP hL => lv_if_ne F.hx F.hb hd ht (fun h => K1 h H locs ls hP hL) (fun h => K2 h H locs ls hP hL)
theorem j_iflt (F : Fx k cc own R nL) {x : Int32} {off : Int} {tgt : Nat} (hd : decode cc pc = .ok (.ifCond .lt off, 3)) (ht : (pc : Int) + off = (tgt : Int)) (K1 : x < 0 → J k ws c n tgt lv st) (K2 : ¬ x < 0 → J k ws c n (pc + 3) lv st) : J k ws c n pc lv (.int x :: st) := fun H locs ls hP hL => lv_if_lt F.hx F.hb hd ht (fun h => K1 h H locs ls hP hL) (fun h => K2 h H locs ls hP hL)
theorem j_ifge (F : Fx k cc own R nL) {x : Int32} {off : Int} {tgt : Nat} (hd : decode cc pc = .ok (.ifCond .ge off, 3)) (ht : (pc : Int) + off = (tgt : Int)) (K1 : 0 ≤ x → J k ws c n tgt lv st) (K2 : ¬ 0 ≤ x → J k ws c n (pc + 3) lv st) : J k ws c n pc lv (.int x :: st) := fun H locs ls hP hL => lv_if_ge F.hx F.hb hd ht (fun h => K1 h H locs ls hP hL) (fun h => K2 h H locs ls hP hL)
theorem j_ifgt (F : Fx k cc own R nL) {x : Int32} {off : Int} {tgt : Nat} (hd : decode cc pc = .ok (.ifCond .gt off, 3)) (ht : (pc : Int) + off = (tgt : Int)) (K1 : 0 < x → J k ws c n tgt lv st) (K2 : ¬ 0 < x → J k ws c n (pc + 3) lv st) : J k ws c n pc lv (.int x :: st) := fun H locs ls hP hL => lv_if_gt F.hx F.hb hd ht (fun h => K1 h H locs ls hP hL) (fun h => K2 h H locs ls hP hL)
theorem j_ifle (F : Fx k cc own R nL) {x : Int32} {off : Int} {tgt : Nat} (hd : decode cc pc = .ok (.ifCond .le off, 3)) (ht : (pc : Int) + off = (tgt : Int)) (K1 : x ≤ 0 → J k ws c n tgt lv st) (K2 : ¬ x ≤ 0 → J k ws c n (pc + 3) lv st) : J k ws c n pc lv (.int x :: st) := fun H locs ls hP hL => lv_if_le F.hx F.hb hd ht (fun h => K1 h H locs ls hP hL) (fun h => K2 h H locs ls hP hL)
theorem j_iceq (F : Fx k cc own R nL) {x y : Int32} {off : Int} {tgt : Nat} (hd : decode cc pc = .ok (.if_icmp .eq off, 3)) (ht : (pc : Int) + off = (tgt : Int)) (K1 : x = y → J k ws c n tgt lv st) (K2 : ¬ x = y → J k ws c n (pc + 3) lv st) : J k ws c n pc lv (.int y :: .int x :: st) := fun H locs ls hP hL => lv_icmp_eq F.hx F.hb hd ht (fun h => K1 h H locs ls hP hL) (fun h => K2 h H locs ls hP hL)
theorem j_icne (F : Fx k cc own R nL) {x y : Int32} {off : Int} {tgt : Nat} (hd : decode cc pc = .ok (.if_icmp .ne off, 3)) (ht : (pc : Int) + off = (tgt : Int)) (K1 : ¬ x = y → J k ws c n tgt lv st) (K2 : x = y → J k ws c n (pc + 3) lv st) : J k ws c n pc lv (.int y :: .int x :: st) := fun H locs ls hP hL => lv_icmp_ne F.hx F.hb hd ht (fun h => K1 h H locs ls hP hL) (fun h => K2 h H locs ls hP hL)
theorem j_iclt (F : Fx k cc own R nL) {x y : Int32} {off : Int} {tgt : Nat} (hd : decode cc pc = .ok (.if_icmp .lt off, 3)) (ht : (pc : Int) + off = (tgt : Int)) (K1 : x < y → J k ws c n tgt lv st) (K2 : ¬ x < y → J k ws c n (pc + 3) lv st) : J k ws c n pc lv (.int y :: .int x :: st) := fun H locs ls hP hL => lv_icmp_lt F.hx F.hb hd ht (fun h => K1 h H locs ls hP hL) (fun h => K2 h H locs ls hP hL)
theorem j_icge (F : Fx k cc own R nL) {x y : Int32} {off : Int} {tgt : Nat} (hd : decode cc pc = .ok (.if_icmp .ge off, 3)) (ht : (pc : Int) + off = (tgt : Int)) (K1 : y ≤ x → J k ws c n tgt lv st) (K2 : ¬ y ≤ x → J k ws c n (pc + 3) lv st) : J k ws c n pc lv (.int y :: .int x :: st) := fun H locs ls hP hL => lv_icmp_ge F.hx F.hb hd ht (fun h => K1 h H locs ls hP hL) (fun h => K2 h H locs ls hP hL)
theorem j_icgt (F : Fx k cc own R nL) {x y : Int32} {off : Int} {tgt : Nat} (hd : decode cc pc = .ok (.if_icmp .gt off, 3)) (ht : (pc : Int) + off = (tgt : Int)) (K1 : y < x → J k ws c n tgt lv st) (K2 : ¬ y < x → J k ws c n (pc + 3) lv st) : J k ws c n pc lv (.int y :: .int x :: st) := fun H locs ls hP hL => lv_icmp_gt F.hx F.hb hd ht (fun h => K1 h H locs ls hP hL) (fun h => K2 h H locs ls hP hL)
theorem j_icle (F : Fx k cc own R nL) {x y : Int32} {off : Int} {tgt : Nat} (hd : decode cc pc = .ok (.if_icmp .le off, 3)) (ht : (pc : Int) + off = (tgt : Int)) (K1 : x ≤ y → J k ws c n tgt lv st) (K2 : ¬ x ≤ y → J k ws c n (pc + 3) lv st) : J k ws c n pc lv (.int y :: .int x :: st) := fun H locs ls hP hL => lv_icmp_le F.hx F.hb hd ht (fun h => K1 h H locs ls hP hL) (fun h => K2 h H locs ls hP hL)
theorem j_acne (F : Fx k cc own R nL) {x y : Option Nat} {off : Int} {tgt : Nat} (hd : decode cc pc = .ok (.if_acmp .ne off, 3)) (ht : (pc : Int) + off = (tgt : Int)) (K1 : ¬ x = y → J k ws c n tgt lv st) (K2 : x = y → J k ws c n (pc + 3) lv st) : J k ws c n pc lv (va_rf y :: va_rf x :: st) := fun H locs ls hP hL => lv_acmp_ne F.hx F.hb hd ht (fun h => K1 h H locs ls hP hL) (fun h => K2 h H locs ls hP hL)
theorem j_aceq (F : Fx k cc own R nL) {x y : Option Nat} {off : Int} {tgt : Nat} (hd : decode cc pc = .ok (.if_acmp .eq off, 3)) (ht : (pc : Int) + off = (tgt : Int)) (K1 : x = y → J k ws c n tgt lv st) (K2 : ¬ x = y → J k ws c n (pc + 3) lv st) : J k ws c n pc lv (va_rf y :: va_rf x :: st) := fun H locs ls hP hL => lv_acmp_eq F.hx F.hb hd ht (fun h => K1 h H locs ls hP hL) (fun h => K2 h H locs ls hP hL)
theorem j_ldc (F : Fx k cc own R nL) {i : Nat} {v : Int32} (hu : Cond.constant own i v ∈ Uw) (hd : decode cc pc = .ok (.ldc i, 2)) (K : J k ws c n (pc + 2) lv (.int v :: st)) : J k ws c n pc lv st := fun H locs ls hP hL => lv_ldc F.hx F.hb F.hown (F.hts hu) hd (K H locs ls hP hL)
theorem j_ldc2 (F : Fx k cc own R nL) {i : Nat} {v : Int64} (hu : Cond.constantLong own i v ∈ Uw) (hd : decode cc pc = .ok (.ldc2_w i, 3)) (K : J k ws c n (pc + 3) lv (.long v :: st)) : J k ws c n pc lv st := fun H locs ls hP hL => lv_ldc2 F.hx F.hb F.hown (F.hts hu) hd (K H locs ls hP hL)
theorem j_tabout (F : Fx k cc own R nL) {dflt lo hi : Int} {offs : Array Int} {len : Nat} {x : Int32} {tgt : Nat} (hd : decode cc pc = .ok (.tableswitch dflt lo hi offs, len)) (h : x.toInt < lo ∨ hi < x.toInt) (ht : (pc : Int) + dflt = (tgt : Int)) (K : J k ws c n tgt lv st) : J k ws c n pc lv (.int x :: st) := fun H locs ls hP hL => lv_tableOut F.hx F.hb hd h ht (K H locs ls hP hL)
theorem j_tabin (F : Fx k cc own R nL) {dflt lo hi : Int} {offs : Array Int} {len : Nat} {x : Int32} {off : Int} {tgt : Nat} (hd : decode cc pc = .ok (.tableswitch dflt lo hi offs, len)) (h1 : ¬ x.toInt < lo) (h2 : ¬ hi < x.toInt) (ho : offs[(x.toInt - lo).toNat]? = some off) (ht : (pc : Int) + off = (tgt : Int)) (K : J k ws c n tgt lv st) : J k ws c n pc lv (.int x :: st) := fun H locs ls hP hL => lv_tableIn F.hx F.hb hd h1 h2 ho ht (K H locs ls hP hL)
/-- the same, written otherwise -/
theorem j_lv (lv' : List (Option Value)) (h : ∀ (i : Nat) (v : Value), lv'[i]? = some (some v) → lv[i]? = some (some v)) (K : J k ws c n pc lv' st) : J k ws c n pc lv st := fun H locs ls hP hL => K H locs ls hP ⟨hL.1, hL.2.1, fun q hq => by
  obtain ⟨j, v⟩ := q
  obtain ⟨m, e1, e2⟩ := (prs_iff lv' 0 j v).mp hq
  rw [Nat.zero_add] at e1
  subst e1
  exact hL.at (h _ _ e2)⟩
theorem j_ws (ws' : va_W) (h : ws = ws') (K : J k ws' c n pc lv st) : J k ws c n pc lv st := h ▸ K
theorem j_st (st' : List Value) (h : st = st') (K : J k ws c n pc lv st') : J k ws c n pc lv st := h ▸ K
theorem j_widen (c' n' : Nat) (h1 : c ≤ c') (h2 : n ≤ n') (K : J k ws c' n' pc lv st) : J k ws c n pc lv st := fun H locs ls hP hL => W.widen h1 h2 (K H locs ls hP hL)
end ROWS
end
section
/-! HEAP ROWS AND CONTRACTS -/
section HROWS
variable {k : Kx} {cc : ByteArray} {own : String} {R : Room} {nL : Nat} {ws ws' : va_W} {c n pc : Nat} {lv lv' : List (Option Value)} {st : List Value}
theorem Wd.put {H H1 : Heap} {locs locs1 : List Loc} (hw : kw k = true) (h : Wd k ws H locs) (hP : va_P (kD k) vwCl ws' H1) (hD : va_D (kA k) ws') (hS : va_S (kA k) (ks k).heap H1 locs1) : Wd k ws' H1 locs1 := ⟨hP, fun _ => hD, hS, fun e => by rw [hw] at e; cases e⟩
/-- a field is read: 'q' the object's place in the world -/
theorem j_getf (F : Fx k cc own R nL) {ref C : String} {T : u_T} {N ci idx a : Nat} {fs : List Value} {v : Value} (f : Nat) (hin : ∀ w ∈ u_ws C T N, w ∈ Uw) (hc : vwCl[ci]? = some (C, T, N)) (hf : f < N) (hu : Cond.fieldLink own idx ref (T f).2.1 (T f).2.2.1 ∈ Uw) (hs : ∀ x, (ks k).fieldFound? (T f).1 (T f).2.1 (T f).2.2.1 = some x → (ks k).fieldFound? ref (T f).2.1 (T f).2.2.1 = some x)
    (hd : decode cc pc = .ok (.getfield idx, 3)) (q : Nat) (hq : ws[q]? = some (a, .inr (ci, fs))) (hv : fs[f]? = some v) (K : J k ws c n (pc + 3) lv (v :: st)) : J k ws c n pc lv (.ref a :: st) := fun H locs ls hP hL =>
  va_get F.hx F.hb (fun w h => F.hts h) hin F.hown F.hK.1 hP.1 q hq hc f hf (F.hts hu) hs hv hd (K H locs ls hP hL)
theorem j_putf (F : Fx k cc own R nL) (hw : kw k = true) {ref C : String} {T : u_T} {N ci idx a : Nat} {fs : List Value} {v : Value} {ty : FieldType} (f : Nat) (hin : ∀ w ∈ u_ws C T N, w ∈ Uw) (ty0 : Nat → FieldType) (hty : ∀ k, k < N → parseFieldDescriptor (T k).2.2.1 = some (ty0 k)) (hnm : ∀ a, a < N → ∀ b, b < N → a ≠ b → (T a).2.1 ≠ (T b).2.1) (hc : vwCl[ci]? = some (C, T, N)) (hf : f < N) (hu : Cond.fieldLink own idx ref (T f).2.1 (T f).2.2.1 ∈ Uw) (hs : ∀ x, (ks k).fieldFound? (T f).1 (T f).2.1 (T f).2.2.1 = some x → (ks k).fieldFound? ref (T f).2.1 (T f).2.2.1 = some x)
    (hfin : (T f).2.2.2 = false) (hdt : parseFieldDescriptor (T f).2.2.1 = some ty) (hd : decode cc pc = .ok (.putfield idx, 3)) (hnr : narrow ty v = v) (hfit : fits ty v = true) (q : Nat) (hq : ws[q]? = some (a, .inr (ci, fs))) (hl : f < fs.length) (ws' : va_W) (he : ws.set q (a, .inr (ci, fs.set f v)) = ws') (K : J k ws' c n (pc + 3) lv st) : J k ws c n pc lv (v :: .ref a :: st) := fun H locs ls hP hL =>
  va_put F.hx F.hb (fun w h => F.hts h) hin ty0 hty hnm F.hown F.hK.1 hP.1 (hP.2.1 hw) hP.2.2.1 q hq hc f hf (F.hts hu) hs hfin hdt hnr hfit hl hd (fun H1 locs1 h1 h2 h3 => by
    subst he
    exact K H1 locs1 ls (hP.put hw h1 h2 h3) hL)
theorem j_iald (F : Fx k cc own R nL) {a N : Nat} {f : Nat → Int32} {i : Int32} (hd : decode cc pc = .ok (.iaload, 1)) (q : Nat) (hq : ws[q]? = some (a, .inl ((kD k).1 100, N, .inl f))) (hin : vp_in i N) (K : J k ws c n (pc + 1) lv (.int (f i.toNatClampNeg) :: st)) : J k ws c n pc lv (.int i :: .ref a :: st) := fun H locs ls hP hL =>
  va_iald F.hx F.hb F.hK.1 hP.1 q 0 hq rfl hin hd (K H locs ls hP hL)
theorem j_iast (F : Fx k cc own R nL) (hw : kw k = true) {a N : Nat} {f : Nat → Int32} {i x : Int32} (hd : decode cc pc = .ok (.iastore, 1)) (q : Nat) (hq : ws[q]? = some (a, .inl ((kD k).1 100, N, .inl f))) (hin : vp_in i N) (ws' : va_W) (he : ws.set q (a, .inl ((kD k).1 100, N, .inl (upd f i.toNatClampNeg x))) = ws') (K : J k ws' c n (pc + 1) lv st) : J k ws c n pc lv (.int x :: .int i :: .ref a :: st) := fun H locs ls hP hL =>
  va_iast F.hx F.hb F.hK.1 hP.1 (hP.2.1 hw) hP.2.2.1 q 0 hq rfl hin hd (fun H1 locs1 h1 h2 h3 => by
    subst he
    exact K H1 locs1 ls (hP.put hw h1 h2 h3) hL)
theorem j_aald (F : Fx k cc own R nL) {a N : Nat} {f : Nat → Option Nat} {i : Int32} (hd : decode cc pc = .ok (.aaload, 1)) (q : Nat) (hq : ws[q]? = some (a, .inl ((kD k).1 101, N, .inr (.inr (.inr (.inr f)))))) (hin : vp_in i N) (K : J k ws c n (pc + 1) lv (va_rf (f i.toNatClampNeg) :: st)) : J k ws c n pc lv (.int i :: .ref a :: st) := fun H locs ls hP hL =>
  va_aldq F.hx F.hb F.hK.1 hP.1 q 1 hq rfl hin hd (K H locs ls hP hL)
/-- the length of an array of the world -/
theorem j_alen (F : Fx k cc own R nL) {a t0 : Nat} {cA : ClassId} {x : vp_A} {ty : FieldType} {v : Int32} (hd : decode cc pc = .ok (.arraylength, 1)) (q : Nat) (hq : ws[q]? = some (a, .inl (cA, x))) (ht : (tysD (kD k))[t0]? = some (cA, ty)) (hv : Int32.ofNat x.1 = v) (K : J k ws c n (pc + 1) lv (.int v :: st)) : J k ws c n pc lv (.ref a :: st) := fun H locs ls hP hL =>
  va_alen F.hx F.hb F.hK.1 hP.1 q t0 hq ht hv hd (K H locs ls hP hL)
/-- the place of a thing in a world's permutation -/
theorem va_P.perm {D : va_G} {cl : List vw_C} {a b : va_W} {H : Heap} (h : a.Perm b) (hP : va_P D cl a H) : va_P D cl b H := fun i q hq => by
  obtain ⟨j, hj⟩ := List.getElem?_of_mem (h.mem_iff.mpr (List.mem_of_getElem? hq))
  exact hP j q hj
theorem va_D.iff {A : Nat → Prop} {a : va_W} : va_D A a ↔ (a.map (·.1)).Nodup ∧ ∀ q ∈ a, A q.1 := by
  constructor
  · intro h
    refine ⟨List.nodup_iff_pairwise_ne.mpr (List.pairwise_iff_getElem.mpr fun i j hi hj hij => ?_), fun q hq => ?_⟩
    · intro e
      have hi' : i < a.length := by simpa using hi
      have hj' : j < a.length := by simpa using hj
      have := h.1 i j a[i] a[j] (List.getElem?_eq_getElem hi') (List.getElem?_eq_getElem hj') (by simpa using e)
      omega
    · obtain ⟨j, hj⟩ := List.getElem?_of_mem hq
      exact h.2 j q hj
  · rintro ⟨h1, h2⟩
    refine ⟨fun i j p q hp hq e => ?_, fun i q hq => h2 q (List.mem_of_getElem? hq)⟩
    have hi : i < a.length := (List.getElem?_eq_some_iff.mp hp).1
    have hj : j < a.length := (List.getElem?_eq_some_iff.mp hq).1
    have e1 : a[i] = p := (List.getElem?_eq_some_iff.mp hp).2
    have e2 : a[j] = q := (List.getElem?_eq_some_iff.mp hq).2
    rcases Nat.lt_trichotomy i j with hl | hl | hl
    · exact absurd (by rw [List.getElem_map, List.getElem_map, e1, e2]; exact e) (List.pairwise_iff_getElem.mp (List.nodup_iff_pairwise_ne.mp h1) i j (by simpa using hi) (by simpa using hj) hl)
    · exact hl
    · exact absurd (by rw [List.getElem_map, List.getElem_map, e1, e2]; exact e.symm) (List.pairwise_iff_getElem.mp (List.nodup_iff_pairwise_ne.mp h1) j i (by simpa using hj) (by simpa using hi) hl)
theorem va_D.perm {A : Nat → Prop} {a b : va_W} (h : a.Perm b) (hD : va_D A a) : va_D A b := by
  rw [va_D.iff] at hD ⊢
  exact ⟨(h.map _).nodup_iff.mp hD.1, fun q hq => hD.2 q (h.mem_iff.mpr hq)⟩
theorem Wd.perm {H : Heap} {locs : List Loc} (h : ws.Perm ws') (hP : Wd k ws H locs) : Wd k ws' H locs := ⟨hP.1.perm h, fun hw => (hP.2.1 hw).perm h, hP.2.2⟩
theorem j_perm (ws' : va_W) (h : ws.Perm ws') (K : J k ws' c n pc lv st) : J k ws c n pc lv st := fun H locs ls hP hL => K H locs ls (hP.perm h) hL
end HROWS

/-! CONTRACTS: CR a reader (the heap stays), CM a writer (its world becomes one of P), CX a writer that may throw (then its world is as before) -/
abbrev vlist (v : Option Value) (st : List Value) : List Value := v.toList ++ st
def CR (l : Launch) (D : va_G) (y : MethodName) (cc : ByteArray) (maxL : Nat) (ret : Option FieldType) (fr lo : Nat) (ws : va_W) (as : List Value) (v : Value) : Prop :=
  Met l y (wU y cc maxL ret) (rm4 fr 0 0 lo) (va_Pc as (fun U => va_P D vwCl ws U.heap ∧ KK D U)) (fun _ st oc t => oc = .returned (some v) ∧ t.heap = st.heap) 0 0 (fun _ => False)
def PreM (D : va_G) (ws : va_W) (sz : Nat) (U : State) : Prop := U.heap.size = sz ∧ va_P D vwCl ws U.heap ∧ KK D U ∧ va_D (fun _ => True) ws ∧ ZZ D (va_A ws sz) U U.heap
def PostM (D : va_G) (ws : va_W) (sz : Nat) (P : Option Value → va_W → Prop) : Array Value → State → Outcome → State → Prop := fun _ st oc t => ∃ v ws', oc = .returned v ∧ P v ws' ∧ va_P D vwCl ws' t.heap ∧ va_D (va_A ws sz) ws' ∧ va_F (va_A ws sz) st t
def CM (l : Launch) (D : va_G) (y : MethodName) (cc : ByteArray) (maxL : Nat) (ret : Option FieldType) (fr lo mc ms : Nat) (ws : va_W) (as : List Value) (P : Option Value → va_W → Prop) : Prop :=
  ∀ sz, Met l y (wU y cc maxL ret) (rm4 fr mc ms lo) (va_Pc as (PreM D ws sz)) (PostM D ws sz P) mc ms (va_A ws sz)
def PostX (D : va_G) (ws : va_W) (sz : Nat) (PX : String → Prop) : String → State → State → Prop := fun E st t => PX E ∧ va_P D vwCl ws t.heap ∧ va_F (va_A ws sz) st t
def CX (l : Launch) (D : va_G) (y : MethodName) (cc : ByteArray) (maxL : Nat) (ret : Option FieldType) (fr lo mc ms : Nat) (ws : va_W) (as : List Value) (P : Option Value → va_W → Prop) (PX : String → Prop) : Prop :=
  ∀ sz, vx_Met l y (wU y cc maxL ret) (rm4 fr mc ms lo) (va_Pc as (PreM D ws sz)) (PostM D ws sz P) (PostX D ws sz PX) mc ms (va_A ws sz)
theorem PreM.blind {D : va_G} {ws : va_W} {sz : Nat} {as : List Value} : FrameBlind (va_Pc as (PreM D ws sz)) := fun a U g mk q => by
  obtain ⟨h0, h1, h2, h3, h4, h5⟩ := q
  exact ⟨h0, h1, h2, h3.calling, h4, h5.moved (u := U) (U := U.calling g mk a) (Vm.Alike.refl U.vm)⟩
theorem PreR.blind {D : va_G} {ws : va_W} {as : List Value} : FrameBlind (va_Pc as (fun U => va_P D vwCl ws U.heap ∧ KK D U)) := fun a U g mk q => by
  obtain ⟨h0, h1, h2⟩ := q
  exact ⟨h0, h1, h2.calling⟩
/-- where a body may end: a reader's, a writer's, one that throws -/
def RR (k : Kx) (ret : Option FieldType) (v : Value) : Prop := kw k = false ∧ (kmeth k).sig.returnType = ret ∧ kQ k = MQ (kbelow k) (fun _ st oc t => oc = .returned (some v) ∧ t.heap = st.heap) (kargs k) (ks k) 0 0 (fun _ => False)
def PostK (k : Kx) (P : Option Value → va_W → Prop) : Array Value → State → Outcome → State → Prop := fun _ st oc t => ∃ v ws', oc = .returned v ∧ P v ws' ∧ va_P (kD k) vwCl ws' t.heap ∧ va_D (kA k) ws' ∧ va_F (kA k) st t
def RW (k : Kx) (ret : Option FieldType) (mc ms : Nat) (P : Option Value → va_W → Prop) : Prop := kw k = true ∧ (kmeth k).sig.returnType = ret ∧ ∀ (H : Heap) (locs : List Loc) (c n : Nat) (g : JFrame), W (kp k) (kl k) (ke k) (kR k) (ks k) (km k) (kargs k) (kbelow k) (kmeth k) (kc k) H locs c n (MQ (kbelow k) (PostK k P) (kargs k) (ks k) mc ms (kA k)) g → W (kp k) (kl k) (ke k) (kR k) (ks k) (km k) (kargs k) (kbelow k) (kmeth k) (kc k) H locs c n (kQ k) g
def XW (k : Kx) (mc ms : Nat) (ws0 : va_W) (PX : String → Prop) : Prop := kw k = true ∧ ∃ Qc : Array Value → State → Outcome → State → Prop, kQ k = vx_MQ (kbelow k) Qc (fun E st t => PX E ∧ va_P (kD k) vwCl ws0 t.heap ∧ va_F (kA k) st t) (kargs k) (ks k) mc ms (kA k)
def NT (k : Kx) : Prop := ∀ x ∈ (kc k).exceptionTable.toList, False
theorem entry_eqL {m : MethodId} {as : List Value} {n : Nat} {lv : List (Option Value)} (hlv : lv_args 0 as = prs 0 lv) (hlen : (lg_sl as).length ≤ n) : ∃ ls : Array Slot, entryFrame m as.toArray n = F0 m 0 ls [] ∧ lvh ls n lv := by
  refine ⟨_, lg_entry_eq m as n, ?_⟩
  unfold lvh
  rw [← hlv]
  exact lv_entry as hlen
theorem CR_of {l : Launch} {D : va_G} {y : MethodName} {cc : ByteArray} {maxL : Nat} {ret : Option FieldType} {fr lo : Nat} {ws : va_W} {as : List Value} {v : Value} (lv : List (Option Value)) (hst : l.stackTraces = false) (hy : plainName y.cls = true) (hlv : lv_args 0 as = prs 0 lv) (hlen : (lg_sl as).length ≤ maxL)
    (body : ∀ k : Kx, Fx k cc y.cls (rm4 fr 0 0 lo) maxL → kl k = l → kD k = D → RR k ret v → J k ws 0 0 0 lv []) : CR l D y cc maxL ret fr lo ws as v := by
  refine Met.ofW (cc := cc) (maxL := maxL) (ret := ret) hy rfl ?_
  intro p e s m args below meth c s₁ B hml hv
  obtain ⟨rfl, hP, hK⟩ := hv
  have hts := atoms_spec (ws := wU y cc maxL ret) B.pre
  obtain ⟨ls, e1, e2⟩ := entry_eqL (m := m) hlv hlen
  rw [e1]
  exact body (mkK p l e (rm4 fr 0 0 lo) s m as.toArray below meth c (MQ below (fun _ st oc t => oc = .returned (some v) ∧ t.heap = st.heap) as.toArray s 0 0 (fun _ => False)) D (fun _ => False) false maxL)
    ⟨B.exec, B.bytes, hml, rfl, rfl, findClass_of_methodNamed B.named, fun w h => hts w (List.mem_cons_of_mem _ h), hK, fun _ _ h => (by cases h), fun h => (by cases h), hst, B.notSynchronized⟩ rfl rfl ⟨rfl, B.returns, rfl⟩ s.heap [] ls ⟨hP, fun h => (by cases h), va_S.rf, fun _ => ⟨rfl, rfl⟩⟩ e2
theorem CM_of {l : Launch} {D : va_G} {y : MethodName} {cc : ByteArray} {maxL : Nat} {ret : Option FieldType} {fr lo mc ms : Nat} {ws : va_W} {as : List Value} {P : Option Value → va_W → Prop} (lv : List (Option Value)) (hst : l.stackTraces = false) (hy : plainName y.cls = true) (hlv : lv_args 0 as = prs 0 lv) (hlen : (lg_sl as).length ≤ maxL)
    (body : ∀ k : Kx, Fx k cc y.cls (rm4 fr mc ms lo) maxL → kl k = l → kD k = D → (y.name = "<init>" → (kmeth k).name = "<init>") → RW k ret mc ms P → J k ws 0 0 0 lv []) : CM l D y cc maxL ret fr lo mc ms ws as P := by
  intro sz
  refine Met.ofW (cc := cc) (maxL := maxL) (ret := ret) hy rfl ?_
  intro p e s m args below meth c s₁ B hml hv
  obtain ⟨rfl, rfl, hP, hK, hD, hZ⟩ := hv
  have hts := atoms_spec (ws := wU y cc maxL ret) B.pre
  obtain ⟨ls, e1, e2⟩ := entry_eqL (m := m) hlv hlen
  rw [e1]
  exact body (mkK p l e (rm4 fr mc ms lo) s m as.toArray below meth c (MQ below (PostM D ws s.heap.size P) as.toArray s mc ms (va_A ws s.heap.size)) D (va_A ws s.heap.size) true maxL)
    ⟨B.exec, B.bytes, hml, rfl, rfl, findClass_of_methodNamed B.named, fun w h => hts w (List.mem_cons_of_mem _ h), hK, fun _ h _ => Or.inr h, fun _ => hZ, hst, B.notSynchronized⟩ rfl rfl (fun h => (name_of_methodNamed B.named B.method).1.trans h) ⟨rfl, B.returns, fun _ _ _ _ _ w => w⟩ s.heap [] ls ⟨hP, fun _ => hD.self, va_S.rf, fun h => (by cases h)⟩ e2
theorem CX_of {l : Launch} {D : va_G} {y : MethodName} {cc : ByteArray} {maxL : Nat} {ret : Option FieldType} {fr lo mc ms : Nat} {ws : va_W} {as : List Value} {P : Option Value → va_W → Prop} {PX : String → Prop} (lv : List (Option Value)) (hst : l.stackTraces = false) (hy : plainName y.cls = true) (hlv : lv_args 0 as = prs 0 lv) (hlen : (lg_sl as).length ≤ maxL)
    (body : ∀ k : Kx, Fx k cc y.cls (rm4 fr mc ms lo) maxL → kl k = l → kD k = D → RW k ret mc ms P → XW k mc ms ws PX → NT k → J k ws 0 0 0 lv []) : CX l D y cc maxL ret fr lo mc ms ws as P PX := by
  intro sz
  refine vx_ofW (cc := cc) (maxL := maxL) (ret := ret) hy rfl ?_
  intro p e s m args below meth c s₁ B hml hnt hv
  obtain ⟨rfl, rfl, hP, hK, hD, hZ⟩ := hv
  have hts := atoms_spec (ws := wU y cc maxL ret) B.pre
  obtain ⟨ls, e1, e2⟩ := entry_eqL (m := m) hlv hlen
  rw [e1]
  exact body (mkK p l e (rm4 fr mc ms lo) s m as.toArray below meth c (vx_MQ below (PostM D ws s.heap.size P) (PostX D ws s.heap.size PX) as.toArray s mc ms (va_A ws s.heap.size)) D (va_A ws s.heap.size) true maxL)
    ⟨B.exec, B.bytes, hml, rfl, rfl, findClass_of_methodNamed B.named, fun w h => hts w (List.mem_cons_of_mem _ h), hK, fun _ h _ => Or.inr h, fun _ => hZ, hst, B.notSynchronized⟩ rfl rfl ⟨rfl, B.returns, fun _ _ _ _ _ w => vx_ret w⟩ ⟨rfl, _, rfl⟩ hnt s.heap [] ls ⟨hP, fun _ => hD.self, va_S.rf, fun h => (by cases h)⟩ e2
def b1 (b : Bool) : Int32 := if b = true then 1 else 0
theorem b1_nar (b : Bool) : narrow .boolean (.int (b1 b)) = .int (b1 b) := by cases b <;> rfl
theorem b1_0 {b : Bool} : b1 b = 0 ↔ b = false := by cases b <;> decide
theorem b1_1 {b : Bool} : ¬ b1 b = 0 ↔ b = true := by cases b <;> decide
section ENDS
variable {k : Kx} {cc : ByteArray} {own : String} {R : Room} {nL : Nat} {ws ws' ws0 : va_W} {c n pc : Nat} {lv lv' : List (Option Value)} {st : List Value} {ret : Option FieldType} {v : Value} {mc ms : Nat} {P : Option Value → va_W → Prop} {PX : String → Prop}
theorem RR.end (hR : RR k ret v) {H : Heap} {locs : List Loc} (hP : Wd k ws H locs) : (∀ t : State, t.heap = H → (ks k).WarmedH t.vm → (Outcome.returned (some v) = .returned (some v) ∧ t.heap = (ks k).heap)) ∧ ∀ q ∈ locs, (fun _ : Addr => False) q.base := by
  obtain ⟨e1, e2⟩ := hP.2.2.2 hR.1
  exact ⟨fun t ht _ => ⟨rfl, ht.trans e1⟩, fun q hq => by rw [e2] at hq; cases hq⟩
theorem j_iretR (F : Fx k cc own R nL) {x : Int32} (hR : RR k (some .int) v) (hd : decode cc pc = .ok (.ireturn, 1)) (hv : v = .int x) : J k ws 0 0 pc lv [.int x] := fun H locs ls hP hL => by
  subst hv
  rw [hR.2.2]
  exact W.iret F.hx F.hb hR.2.1 (hR.end hP).1 (hR.end hP).2 hd F.hlk
theorem j_zretR (F : Fx k cc own R nL) {x : Int32} {b : Bool} (hR : RR k (some .boolean) v) (hd : decode cc pc = .ok (.ireturn, 1)) (hb : x = b1 b) (hv : v = .int (b1 b)) : J k ws 0 0 pc lv [.int x] := fun H locs ls hP hL => by
  subst hb hv
  rw [hR.2.2]
  exact W.zret F.hx F.hb hR.2.1 (b1_nar b) (hR.end hP).1 (hR.end hP).2 hd F.hlk
theorem j_lretR (F : Fx k cc own R nL) {x : Int64} (hR : RR k (some .long) v) (hd : decode cc pc = .ok (.lreturn, 1)) (hv : v = .long x) : J k ws 0 0 pc lv [.long x] := fun H locs ls hP hL => by
  subst hv
  rw [hR.2.2]
  exact W.lret F.hx F.hb hR.2.1 (hR.end hP).1 (hR.end hP).2 hd F.hlk
theorem j_dretR (F : Fx k cc own R nL) {x : UInt64} (hR : RR k (some .double) v) (hd : decode cc pc = .ok (.dreturn, 1)) (hv : v = .double x) : J k ws 0 0 pc lv [.double x] := fun H locs ls hP hL => by
  subst hv
  rw [hR.2.2]
  exact W.dret F.hx F.hb hR.2.1 (hR.end hP).1 (hR.end hP).2 hd F.hlk
theorem j_aretR (F : Fx k cc own R nL) {nm : String} {x : Option Nat} (hR : RR k (some (.object nm)) v) (hd : decode cc pc = .ok (.areturn, 1)) (hv : v = va_rf x) : J k ws 0 0 pc lv [va_rf x] := fun H locs ls hP hL => by
  subst hv
  rw [hR.2.2]
  exact W.aret F.hx F.hb hR.2.1 (Or.inl ⟨_, rfl⟩) (by cases x <;> simp [va_rf]) (hR.end hP).1 (hR.end hP).2 hd F.hlk
theorem RW.end {v : Option Value} (hq : P v ws) {H : Heap} {locs : List Loc} (hR : RW k ret mc ms P) (hP : Wd k ws H locs) : (∀ t : State, t.heap = H → (ks k).WarmedH t.vm → PostK k P (kargs k) (ks k) (.returned v) t) ∧ ∀ q ∈ locs, kA k q.base :=
  ⟨fun t ht _ => ⟨v, ws, rfl, hq, by rw [ht]; exact hP.1, hP.2.1 hR.1, hP.2.2.1.F ht⟩, hP.2.2.1.2.2⟩
theorem j_vret (F : Fx k cc own R nL) (hR : RW k none mc ms P) (hd : decode cc pc = .ok (.return_, 1)) (h1 : c ≤ mc) (h2 : n ≤ ms) (hq : P none ws) : J k ws c n pc lv [] := fun H locs ls hP hL =>
  hR.2.2 _ _ _ _ _ (W.widen h1 h2 (W.vret F.hx F.hb hR.2.1 (RW.end hq hR hP).1 (RW.end hq hR hP).2 hd F.hlk))
theorem j_iret (F : Fx k cc own R nL) {x : Int32} (hR : RW k (some .int) mc ms P) (hd : decode cc pc = .ok (.ireturn, 1)) (h1 : c ≤ mc) (h2 : n ≤ ms) (hq : P (some (.int x)) ws) : J k ws c n pc lv [.int x] := fun H locs ls hP hL =>
  hR.2.2 _ _ _ _ _ (W.widen h1 h2 (W.iret F.hx F.hb hR.2.1 (RW.end hq hR hP).1 (RW.end hq hR hP).2 hd F.hlk))
theorem j_zret (F : Fx k cc own R nL) {x : Int32} {b : Bool} (hR : RW k (some .boolean) mc ms P) (hd : decode cc pc = .ok (.ireturn, 1)) (h1 : c ≤ mc) (h2 : n ≤ ms) (hb : x = b1 b) (hq : P (some (.int (b1 b))) ws) : J k ws c n pc lv [.int x] := fun H locs ls hP hL => by
  subst hb
  exact hR.2.2 _ _ _ _ _ (W.widen h1 h2 (W.zret F.hx F.hb hR.2.1 (b1_nar b) (RW.end hq hR hP).1 (RW.end hq hR hP).2 hd F.hlk))
theorem j_lret (F : Fx k cc own R nL) {x : Int64} (hR : RW k (some .long) mc ms P) (hd : decode cc pc = .ok (.lreturn, 1)) (h1 : c ≤ mc) (h2 : n ≤ ms) (hq : P (some (.long x)) ws) : J k ws c n pc lv [.long x] := fun H locs ls hP hL =>
  hR.2.2 _ _ _ _ _ (W.widen h1 h2 (W.lret F.hx F.hb hR.2.1 (RW.end hq hR hP).1 (RW.end hq hR hP).2 hd F.hlk))
theorem j_dret (F : Fx k cc own R nL) {x : UInt64} (hR : RW k (some .double) mc ms P) (hd : decode cc pc = .ok (.dreturn, 1)) (h1 : c ≤ mc) (h2 : n ≤ ms) (hq : P (some (.double x)) ws) : J k ws c n pc lv [.double x] := fun H locs ls hP hL =>
  hR.2.2 _ _ _ _ _ (W.widen h1 h2 (W.dret F.hx F.hb hR.2.1 (RW.end hq hR hP).1 (RW.end hq hR hP).2 hd F.hlk))
theorem j_aret (F : Fx k cc own R nL) {rt : FieldType} {x : Option Nat} (hR : RW k (some rt) mc ms P) (hrt : (∃ n, rt = .object n) ∨ ∃ t, rt = .array t) (hd : decode cc pc = .ok (.areturn, 1)) (h1 : c ≤ mc) (h2 : n ≤ ms) (hq : P (some (va_rf x)) ws) : J k ws c n pc lv [va_rf x] := fun H locs ls hP hL =>
  hR.2.2 _ _ _ _ _ (W.widen h1 h2 (W.aret F.hx F.hb hR.2.1 hrt (by cases x <;> simp [va_rf]) (RW.end hq hR hP).1 (RW.end hq hR hP).2 hd F.hlk))
end ENDS
end
section
/-! CALL ROWS -/
def LkB (own : String) (idx : Nat) (y : MethodName) (cc : ByteArray) (maxL : Nat) (ret : Option FieldType) (n : Nat) : Prop := Cond.methodLink own idx y ∈ Uw ∧ Cond.initialized y.cls ∈ Uw ∧ Cond.code y cc maxL ret ∈ Uw ∧ (y.cls ≠ "java/lang/invoke/MethodHandle" ∧ y.cls ≠ "java/lang/invoke/VarHandle" ∧ (parseMethodDescriptor y.desc).map (fun d => d.parameters.length) = some n)
def LkV (own : String) (idx : Nat) (C : String) (y : MethodName) (cc : ByteArray) (maxL : Nat) (ret : Option FieldType) (n : Nat) : Prop := LkB own idx y cc maxL ret n ∧ Cond.instanceMethod y ∈ Uw ∧ Cond.selects C y y ∈ Uw
def LkS (own : String) (idx : Nat) (y : MethodName) (cc : ByteArray) (maxL : Nat) (ret : Option FieldType) (n : Nat) : Prop := LkB own idx y cc maxL ret n ∧ Cond.static y ∈ Uw
def LkI (own : String) (idx : Nat) (y : MethodName) (cc : ByteArray) (maxL : Nat) (n : Nat) : Prop := LkB own idx y cc maxL none n ∧ y.name = "<init>" ∧ Cond.instanceMethod y ∈ Uw
section CROWS
variable {k : Kx} {cc : ByteArray} {own : String} {R : Room} {nL : Nat} {ws ws' wc wr : va_W} {c n pc : Nat} {lv lv' : List (Option Value)} {st stk : List Value}
theorem lkB {y : MethodName} {ccy : ByteArray} {maxL : Nat} {ret : Option FieldType} {fr lo mc ms idx m : Nat} (F : Fx k cc own R nL) (h : LkB own idx y ccy maxL ret m) (hR : fr + 1 ≤ R.frames ∧ 8 + (maxL + 11) + lo ≤ R.locals) : CallB (kR k) (ks k) (kargs k) own idx y ccy maxL ret (wU y ccy maxL ret) (rm4 fr mc ms lo) mc ms m :=
  callB_of (Ts := Uw) m (fun _ q => F.hts q) (wU_good h.2.2.1) rfl rfl rfl (F.hts h.2.1) (F.hts h.1) h.2.2.2 (by rw [F.hR]; exact hR)
theorem lkV {C : String} {y : MethodName} {ccy : ByteArray} {maxL : Nat} {ret : Option FieldType} {fr lo mc ms idx m : Nat} (F : Fx k cc own R nL) (h : LkV own idx C y ccy maxL ret m) (hR : fr + 1 ≤ R.frames ∧ 8 + (maxL + 11) + lo ≤ R.locals) : CallW (kR k) (ks k) (kargs k) own C idx y ccy maxL ret (wU y ccy maxL ret) (rm4 fr mc ms lo) mc ms m :=
  ⟨lkB F h.1 hR, F.hts h.2.1, F.hts h.2.2⟩
theorem lkS {y : MethodName} {ccy : ByteArray} {maxL : Nat} {ret : Option FieldType} {fr lo mc ms idx m : Nat} (F : Fx k cc own R nL) (h : LkS own idx y ccy maxL ret m) (hR : fr + 1 ≤ R.frames ∧ 8 + (maxL + 11) + lo ≤ R.locals) : CallB (kR k) (ks k) (kargs k) own idx y ccy maxL ret (wU y ccy maxL ret) (rm4 fr mc ms lo) mc ms m ∧ (Cond.static y).before (kargs k) (ks k) = true :=
  ⟨lkB F h.1 hR, F.hts h.2⟩
theorem lkI {y : MethodName} {ccy : ByteArray} {maxL : Nat} {fr lo mc ms idx m : Nat} (F : Fx k cc own R nL) (h : LkI own idx y ccy maxL m) (hR : fr + 1 ≤ R.frames ∧ 8 + (maxL + 11) + lo ≤ R.locals) : CallB (kR k) (ks k) (kargs k) own idx y ccy maxL none (wU y ccy maxL none) (rm4 fr mc ms lo) mc ms m ∧ y.name = "<init>" ∧ (Cond.instanceMethod y).before (kargs k) (ks k) = true :=
  ⟨lkB F h.1 hR, h.2.1, F.hts h.2.2⟩
theorem Wd.recv (F : Fx k cc own R nL) {H : Heap} {locs : List Loc} (hP : Wd k ws H locs) {C : String} {T : u_T} {N ci b q : Nat} {fs : List Value} (hq : ws[q]? = some (b, .inr (ci, fs))) (hc : vwCl[ci]? = some (C, T, N)) : ∃ cell : Cell, H[b]? = some cell ∧ cell.vm.isStatics = false ∧ (ks k).vm.findClass C = some cell.cls := va_recv F.hK.1 hP.1 hc hq
theorem PreR.at (F : Fx k cc own R nL) {H : Heap} {locs : List Loc} (hP : Wd k ws H locs) (hs : ∀ q ∈ wc, q ∈ ws) {as : List Value} : PreS (ks k) H (va_Pc as (fun U => va_P (kD k) vwCl wc U.heap ∧ KK (kD k) U)) as :=
  ⟨PreR.blind, fun U hU hW => ⟨rfl, by
    rw [hU]
    intro i q hq
    obtain ⟨j, hj⟩ := List.getElem?_of_mem (hs q (List.mem_of_getElem? hq))
    exact hP.1 j q hj, F.hK.warm hW⟩⟩
theorem run_rd {H : Heap} {locs : List Loc} {ls : Array Slot} {v : Value} {a : Array Value} (hr : va_Run (kp k) (kl k) (ke k) (kR k) (ks k) (km k) (kargs k) (kbelow k) (kmeth k) (kc k) H locs c n 0 0 (F0 (km k) pc ls stk) st ((fun (_ : Array Value) (st oc t) => oc = .returned (some v) ∧ t.heap = st.heap) a) (fun _ => False))
    (K : W (kp k) (kl k) (ke k) (kR k) (ks k) (km k) (kargs k) (kbelow k) (kmeth k) (kc k) H locs c n (kQ k) (F0 (km k) (pc + 3) ls (v :: st))) : W (kp k) (kl k) (ke k) (kR k) (ks k) (km k) (kargs k) (kbelow k) (kmeth k) (kc k) H locs c n (kQ k) (F0 (km k) pc ls stk) := by
  intro T hT X
  obtain ⟨w, st₀, t, T', L, h0, X', hL, e1, e2, ⟨hv, hh⟩, hg⟩ := hr T hT X
  cases hv
  have hLe : L = [] := List.eq_nil_iff_forall_not_mem.mpr fun q hq => hL q hq
  subst hLe
  rw [List.append_nil] at X'
  obtain ⟨t2, a1, b1⟩ := K T' (by rw [e1, hh, h0]) X'
  exact ⟨t2, hg t2 a1, b1⟩
theorem j_rdV (F : Fx k cc own R nL) {C : String} {y : MethodName} {ccy : ByteArray} {maxL : Nat} {ret : Option FieldType} {fr lo idx b : Nat} {as : List Value} {v : Value} (hM : CR (kl k) (kD k) y ccy maxL ret fr lo wc (.ref b :: as) v) (hk : LkV own idx C y ccy maxL ret as.length) (hd : decode cc pc = .ok (.invokevirtual idx, 3)) (hR : fr + 1 ≤ R.frames ∧ 8 + (maxL + 11) + lo ≤ R.locals) (hs : ∀ q ∈ wc, q ∈ ws)
    {T : u_T} {N ci : Nat} {fs : List Value} (q : Nat) (hq : ws[q]? = some (b, .inr (ci, fs))) (hc : vwCl[ci]? = some (C, T, N)) (hst : stk = as.reverse ++ .ref b :: st) (hW : (st.map fun v => v.category).sum ≤ 8) (hcn : c ≤ R.cells ∧ n ≤ R.slots) (K : J k ws c n (pc + 3) lv (v :: st)) : J k ws c n pc lv stk := fun H locs ls hP hL =>
  run_rd (a := (Value.ref b :: as).toArray) (va_runV (As := as) (rest := st) F.fix hM (lkV F hk hR) ⟨PreR.blind, hP.recv F hq hc, (PreR.at F hP hs).2⟩ rfl rfl (hL.1.trans F.hn) hst (lv_room hW) hd (by rw [F.hR]; exact hcn)) (K H locs ls hP hL)
theorem j_rdS (F : Fx k cc own R nL) {y : MethodName} {ccy : ByteArray} {maxL : Nat} {ret : Option FieldType} {fr lo idx : Nat} {as : List Value} {v : Value} (hM : CR (kl k) (kD k) y ccy maxL ret fr lo wc as v) (hk : LkS own idx y ccy maxL ret as.length) (hd : decode cc pc = .ok (.invokestatic idx, 3)) (hR : fr + 1 ≤ R.frames ∧ 8 + (maxL + 11) + lo ≤ R.locals) (hs : ∀ q ∈ wc, q ∈ ws)
    (hst : stk = as.reverse ++ st) (hW : (st.map fun v => v.category).sum ≤ 8) (hcn : c ≤ R.cells ∧ n ≤ R.slots) (K : J k ws c n (pc + 3) lv (v :: st)) : J k ws c n pc lv stk := fun H locs ls hP hL =>
  run_rd (a := as.toArray) (va_runS (As := as) (rest := st) F.fix hM (lkS F hk hR) (PreR.at F hP hs) rfl rfl (hL.1.trans F.hn) hst (lv_room hW) hd (by rw [F.hR]; exact hcn)) (K H locs ls hP hL)
theorem j_rdSN (F : Fx k cc own R nL) {y : MethodName} {host : String} {ccy : ByteArray} {maxL : Nat} {ret : Option FieldType} {fr lo idx : Nat} {as : List Value} {v : Value} (hM : CR (kl k) (kD k) y ccy maxL ret fr lo wc as v) (hl : va_Nw (.methodLinkNest own idx y host) (ks k)) (hi : Cond.initialized y.cls ∈ Uw) (hcd : Cond.code y ccy maxL ret ∈ Uw) (hsy : Cond.static y ∈ Uw) (hdd : y.cls ≠ "java/lang/invoke/MethodHandle" ∧ y.cls ≠ "java/lang/invoke/VarHandle" ∧ (parseMethodDescriptor y.desc).map (fun d => d.parameters.length) = some as.length) (hd : decode cc pc = .ok (.invokestatic idx, 3)) (hR : fr + 1 ≤ R.frames ∧ 8 + (maxL + 11) + lo ≤ R.locals) (hs : ∀ q ∈ wc, q ∈ ws)
    (hst : stk = as.reverse ++ st) (hW : (st.map fun v => v.category).sum ≤ 8) (hcn : c ≤ R.cells ∧ n ≤ R.slots) (K : J k ws c n (pc + 3) lv (v :: st)) : J k ws c n pc lv stk := fun H locs ls hP hL =>
  run_rd (a := as.toArray) (va_runSN (As := as) (rest := st) F.fix hM ⟨va_cnB (Ts := Uw) _ (fun _ q => F.hts q) (wU_good hcd) rfl rfl rfl hl (F.hts hi) hdd (by rw [F.hR]; exact hR), F.hts hsy, trivial⟩ (PreR.at F hP hs) rfl rfl (hL.1.trans F.hn) hst (lv_room hW) hd (by rw [F.hR]; exact hcn)) (K H locs ls hP hL)
/-- the frame: behind a call the callee's cells are its new ones, the rest is as it was -/
theorem Wd.call (F : Fx k cc own R nL) {w1 : va_W} {H H1 : Heap} {locs L : List Loc} (hw : kw k = true) (h : Wd k (wc ++ wr) H locs) (hP1 : va_P (kD k) vwCl w1 H1) (hD1 : va_D (va_A wc H.size) w1) (hz : H.size ≤ H1.size) (hkp : ∀ q : Nat, q < H.size → ¬ va_A wc H.size q → H1[q]? = H[q]?) (hL : ∀ z ∈ L, va_A wc H.size z.base) : Wd k (w1 ++ wr) H1 (locs ++ L) := by
  have hD := h.2.1 hw
  have hA : ∀ q, va_A wc H.size q → kA k q := by
    rintro q (⟨i, e, hi⟩ | hq)
    · exact hD.2 i (q, e) (by rw [List.getElem?_append_left (List.getElem?_eq_some_iff.mp hi).1]; exact hi)
    · exact F.hA hw q (Nat.le_trans h.2.2.1.1 hq)
  have hr : ∀ (i : Nat) (q : Nat × va_E), wr[i]? = some q → q.1 < H.size ∧ ¬ va_A wc H.size q.1 := by
    intro i q hq
    have hq' : (wc ++ wr)[wc.length + i]? = some q := by rw [List.getElem?_append_right (by omega), Nat.add_sub_cancel_left]; exact hq
    have hl := (h.1 _ q hq').lt
    refine ⟨hl, ?_⟩
    rintro (⟨j, e, hj⟩ | hq2)
    · have hj1 := (List.getElem?_eq_some_iff.mp hj).1
      have := hD.1 (wc.length + i) j q (q.1, e) hq' (by rw [List.getElem?_append_left hj1]; exact hj) rfl
      omega
    · omega
  refine ⟨hP1.app fun i q hq => ?_, fun _ => va_D.app (hD1.weaken fun _ q _ z => hA q.1 z) ⟨fun i j p q hp hq e => ?_, fun i q hq => ?_⟩ fun i j p q hp hq e => ?_, ⟨Nat.le_trans h.2.2.1.1 hz, fun q h1 h2 => ?_, fun z hzz => ?_⟩, fun e => by rw [hw] at e; cases e⟩
  · have hq' : (wc ++ wr)[wc.length + i]? = some q := by rw [List.getElem?_append_right (by omega), Nat.add_sub_cancel_left]; exact hq
    exact (h.1 _ q hq').kept (hkp q.1 (hr i q hq).1 (hr i q hq).2)
  · have := hD.1 (wc.length + i) (wc.length + j) p q (by rw [List.getElem?_append_right (by omega), Nat.add_sub_cancel_left]; exact hp) (by rw [List.getElem?_append_right (by omega), Nat.add_sub_cancel_left]; exact hq) e
    omega
  · exact hD.2 (wc.length + i) q (by rw [List.getElem?_append_right (by omega), Nat.add_sub_cancel_left]; exact hq)
  · exact (hr j q hq).2 (by rw [← e]; exact hD1.2 i p hp)
  · rw [hkp q (Nat.lt_of_lt_of_le h1 h.2.2.1.1) (fun z => h2 (hA q z))]
    exact h.2.2.1.2.1 q h1 h2
  · rcases List.mem_append.mp hzz with z1 | z1
    · exact h.2.2.1.2.2 z z1
    · exact hA _ (hL z z1)
theorem PreM.at (F : Fx k cc own R nL) {H : Heap} {locs : List Loc} (hw : kw k = true) (h : Wd k (wc ++ wr) H locs) {as : List Value} : PreS (ks k) H (va_Pc as (PreM (kD k) wc H.size)) as := by
  have hD := h.2.1 hw
  refine ⟨PreM.blind, fun U hU hW => ⟨rfl, by rw [hU], by rw [hU]; exact fun i q hq => h.1 i q (by rw [List.getElem?_append_left (List.getElem?_eq_some_iff.mp hq).1]; exact hq), F.hK.warm hW, ⟨fun i j p q hp hq e => hD.1 i j p q (by rw [List.getElem?_append_left (List.getElem?_eq_some_iff.mp hp).1]; exact hp) (by rw [List.getElem?_append_left (List.getElem?_eq_some_iff.mp hq).1]; exact hq) e, fun _ _ _ => trivial⟩, ?_⟩⟩
  rw [hU]
  refine ((F.hZ hw).kept h.2.2.1.2.1 |>.moved hW.alike).narrow ?_
  rintro q (⟨i, e, hi⟩ | hq)
  · exact hD.2 i (q, e) (by rw [List.getElem?_append_left (List.getElem?_eq_some_iff.mp hi).1]; exact hi)
  · exact F.hA hw q (Nat.le_trans h.2.2.1.1 hq)
theorem run_cm (F : Fx k cc own R nL) (hw : kw k = true) {H : Heap} {locs : List Loc} {ls : Array Slot} {a : Array Value} {mc ms : Nat} {P : Option Value → va_W → Prop} (h : Wd k (wc ++ wr) H locs) (hr : va_Run (kp k) (kl k) (ke k) (kR k) (ks k) (km k) (kargs k) (kbelow k) (kmeth k) (kc k) H locs c n mc ms (F0 (km k) pc ls stk) st (PostM (kD k) wc H.size P a) (va_A wc H.size))
    (K : ∀ (v : Option Value) (w1 : va_W) (H1 : Heap) (locs1 : List Loc), P v w1 → Wd k (w1 ++ wr) H1 locs1 → W (kp k) (kl k) (ke k) (kR k) (ks k) (km k) (kargs k) (kbelow k) (kmeth k) (kc k) H1 locs1 (c + mc) (n + ms) (kQ k) (F0 (km k) (pc + 3) ls (vlist v st))) : W (kp k) (kl k) (ke k) (kR k) (ks k) (km k) (kargs k) (kbelow k) (kmeth k) (kc k) H locs c n (kQ k) (F0 (km k) pc ls stk) := by
  intro T hT X
  obtain ⟨w, st₀, t, T', L, h0, X', hL, e1, e2, ⟨v, w1, hv, hp, hP1, hD1, hF⟩, hg⟩ := hr T hT X
  cases hv
  subst h0
  obtain ⟨t2, a1, b1⟩ := K w w1 t.heap (locs ++ L) hp (h.call F hw hP1 hD1 hF.1 hF.2 hL) T' e1 X'
  exact ⟨t2, hg t2 a1, b1⟩
theorem j_cmV (F : Fx k cc own R nL) (hw : kw k = true) {C : String} {y : MethodName} {ccy : ByteArray} {maxL : Nat} {ret : Option FieldType} {fr lo mc ms idx b : Nat} {as : List Value} {P : Option Value → va_W → Prop} (hM : CM (kl k) (kD k) y ccy maxL ret fr lo mc ms wc (.ref b :: as) P) (hk : LkV own idx C y ccy maxL ret as.length) (hd : decode cc pc = .ok (.invokevirtual idx, 3)) (hR : fr + 1 ≤ R.frames ∧ 8 + (maxL + 11) + lo ≤ R.locals)
    {T : u_T} {N ci : Nat} {fs : List Value} (q : Nat) (hq : (wc ++ wr)[q]? = some (b, .inr (ci, fs))) (hc : vwCl[ci]? = some (C, T, N)) (hst : stk = as.reverse ++ .ref b :: st) (hW : (st.map fun v => v.category).sum ≤ 8) (hcn : c + mc ≤ R.cells ∧ n + ms ≤ R.slots) (K : ∀ v w1, P v w1 → J k (w1 ++ wr) (c + mc) (n + ms) (pc + 3) lv (vlist v st)) : J k (wc ++ wr) c n pc lv stk := fun H locs ls hP hL =>
  run_cm F hw hP (a := (Value.ref b :: as).toArray) (va_runV (As := as) (rest := st) F.fix (hM H.size) (lkV F hk hR) ⟨PreM.blind, hP.recv F hq hc, (PreM.at F hw hP).2⟩ rfl rfl (hL.1.trans F.hn) hst (lv_room hW) hd (by rw [F.hR]; exact hcn)) (fun v w1 H1 locs1 hp h1 => K v w1 hp H1 locs1 ls h1 hL)
theorem j_cmS (F : Fx k cc own R nL) (hw : kw k = true) {y : MethodName} {ccy : ByteArray} {maxL : Nat} {ret : Option FieldType} {fr lo mc ms idx : Nat} {as : List Value} {P : Option Value → va_W → Prop} (hM : CM (kl k) (kD k) y ccy maxL ret fr lo mc ms wc as P) (hk : LkS own idx y ccy maxL ret as.length) (hd : decode cc pc = .ok (.invokestatic idx, 3)) (hR : fr + 1 ≤ R.frames ∧ 8 + (maxL + 11) + lo ≤ R.locals)
    (hst : stk = as.reverse ++ st) (hW : (st.map fun v => v.category).sum ≤ 8) (hcn : c + mc ≤ R.cells ∧ n + ms ≤ R.slots) (K : ∀ v w1, P v w1 → J k (w1 ++ wr) (c + mc) (n + ms) (pc + 3) lv (vlist v st)) : J k (wc ++ wr) c n pc lv stk := fun H locs ls hP hL =>
  run_cm F hw hP (a := as.toArray) (va_runS (As := as) (rest := st) F.fix (hM H.size) (lkS F hk hR) (PreM.at F hw hP) rfl rfl (hL.1.trans F.hn) hst (lv_room hW) hd (by rw [F.hR]; exact hcn)) (fun v w1 H1 locs1 hp h1 => K v w1 hp H1 locs1 ls h1 hL)
theorem j_cmI (F : Fx k cc own R nL) (hw : kw k = true) {y : MethodName} {ccy : ByteArray} {maxL : Nat} {fr lo mc ms idx b : Nat} {as : List Value} {P : Option Value → va_W → Prop} (hM : CM (kl k) (kD k) y ccy maxL none fr lo mc ms wc (.ref b :: as) P) (hk : LkI own idx y ccy maxL as.length) (hd : decode cc pc = .ok (.invokespecial idx, 3)) (hR : fr + 1 ≤ R.frames ∧ 8 + (maxL + 11) + lo ≤ R.locals)
    (hst : stk = as.reverse ++ .ref b :: st) (hW : (st.map fun v => v.category).sum ≤ 8) (hcn : c + mc ≤ R.cells ∧ n + ms ≤ R.slots) (K : ∀ v w1, P v w1 → J k (w1 ++ wr) (c + mc) (n + ms) (pc + 3) lv (vlist v st)) : J k (wc ++ wr) c n pc lv stk := fun H locs ls hP hL =>
  run_cm F hw hP (a := (Value.ref b :: as).toArray) (va_runI (As := as) (rest := st) F.fix (hM H.size) (lkI F hk hR) (PreM.at F hw hP) rfl rfl (hL.1.trans F.hn) hst (lv_room hW) hd (by rw [F.hR]; exact hcn)) (fun v w1 H1 locs1 hp h1 => K v w1 hp H1 locs1 ls h1 hL)
/-- Object's constructor -/
theorem j_objInit (F : Fx k cc own R nL) {idx a : Nat} (hl : Cond.methodLink own idx objectInit ∈ Uw) (hi : Cond.instanceMethod objectInit ∈ Uw) (hcd : Cond.code objectInit ⟨#[0xb1]⟩ 1 none ∈ Uw) (hd : decode cc pc = .ok (.invokespecial idx, 3)) (hR : 1 ≤ R.frames ∧ (st.map fun v => v.category).sum + 12 ≤ R.locals) (K : J k ws c n (pc + 3) lv st) : J k ws c n pc lv (.ref a :: st) := fun H locs ls hP hL =>
  W.objInit F.hx F.hb F.hown (F.hts hl) (F.hts hi) (F.hts hcd) rfl (hL.1.trans (F.hn.trans F.hml.symm)) rfl hd (by rw [F.hR]; exact hR.1) (by rw [F.hR]; show 2 * 0 + _ + 12 ≤ _; rw [Nat.mul_zero, Nat.zero_add]; exact hR.2) (K H locs ls hP hL)
theorem j_mmax (F : Fx k cc own R nL) {idx : Nat} {x y : Int32} (hl : Cond.methodLink own idx Lib.Math.max.name ∈ Uw) (hs : Cond.static Lib.Math.max.name ∈ Uw) (hi : Cond.initialized "java/lang/Math" ∈ Uw) (hcd : Cond.code Lib.Math.max.name Lib.Math.max.code 2 (some .int) ∈ Uw) (hd : decode cc pc = .ok (.invokestatic idx, 3)) (hR : 1 ≤ R.frames ∧ (st.map fun v => v.category).sum + 13 ≤ R.locals ∧ c ≤ R.cells ∧ n ≤ R.slots) (K : J k ws c n (pc + 3) lv (.int (if x < y then y else x) :: st)) : J k ws c n pc lv (.int y :: .int x :: st) := fun H locs ls hP hL =>
  va_mmax F.hx F.hb (F.hml.trans (F.hn.symm.trans hL.1.symm)) F.hown (F.hts hl) (F.hts hs) (F.hts hi) (F.hts hcd) (by rw [F.hR]; exact hR.1) (by rw [F.hR]; exact hR.2.1) (by rw [F.hR]; exact hR.2.2.1) (by rw [F.hR]; exact hR.2.2.2) hd (K H locs ls hP hL)
theorem j_mmin (F : Fx k cc own R nL) {idx : Nat} {x y : Int32} (hl : Cond.methodLink own idx Lib.Math.min.name ∈ Uw) (hs : Cond.static Lib.Math.min.name ∈ Uw) (hi : Cond.initialized "java/lang/Math" ∈ Uw) (hcd : Cond.code Lib.Math.min.name Lib.Math.min.code 2 (some .int) ∈ Uw) (hd : decode cc pc = .ok (.invokestatic idx, 3)) (hR : 1 ≤ R.frames ∧ (st.map fun v => v.category).sum + 13 ≤ R.locals ∧ c ≤ R.cells ∧ n ≤ R.slots) (K : J k ws c n (pc + 3) lv (.int (if y < x then y else x) :: st)) : J k ws c n pc lv (.int y :: .int x :: st) := fun H locs ls hP hL =>
  va_mmin F.hx F.hb (F.hml.trans (F.hn.symm.trans hL.1.symm)) F.hown (F.hts hl) (F.hts hs) (F.hts hi) (F.hts hcd) (by rw [F.hR]; exact hR.1) (by rw [F.hR]; exact hR.2.1) (by rw [F.hR]; exact hR.2.2.1) (by rw [F.hR]; exact hR.2.2.2) hd (K H locs ls hP hL)
/-- a new object -/
theorem j_new (F : Fx k cc own R nL) (hw : kw k = true) {C : String} {T : u_T} {N ci idx : Nat} {fs : List Value} (ty : Nat → FieldType) (hin : ∀ w ∈ u_ws C T N, w ∈ Uw) (hty : ∀ k, k < N → parseFieldDescriptor (T k).2.2.1 = some (ty k)) (hl : Cond.classLink own idx C ∈ Uw) (hi : Cond.instantiable C N ∈ Uw) (hini : Cond.initialized C ∈ Uw) (hc : vwCl[ci]? = some (C, T, N)) (hfs : ∀ j, j < N → defaultValue (ty j) = vp_V fs j) (hd : decode cc pc = .ok (.new idx, 3)) (hR : c + 1 ≤ R.cells ∧ n + N ≤ R.slots) (K : ∀ q, J k (ws ++ [(q, .inr (ci, fs))]) (c + 1) (n + N) (pc + 3) lv (.ref q :: st)) : J k ws c n pc lv st := fun H locs ls hP hL =>
  va_new F.hx F.hb (fun w h => F.hts h) hin ty hty F.hown (F.hts hl) (F.hts hi) (F.hts hini) F.hK.1 hP.1 (hP.2.1 hw) hP.2.2.1 (F.hA hw) hc hfs (by rw [F.hR]; exact hR.1) (by rw [F.hR]; exact hR.2) hd (fun q H1 h1 h2 h3 => K q H1 locs ls (hP.put hw h1 h2 h3) hL)
/-- a final field, in the constructor -/
theorem j_putfF (F : Fx k cc own R nL) (hw : kw k = true) (hin0 : (kmeth k).name = "<init>") {ref C : String} {T : u_T} {N ci idx a : Nat} {fs : List Value} {v : Value} {ty : FieldType} (f : Nat) (hin : ∀ w ∈ u_ws C T N, w ∈ Uw) (ty0 : Nat → FieldType) (hty : ∀ k, k < N → parseFieldDescriptor (T k).2.2.1 = some (ty0 k)) (hnm : ∀ a, a < N → ∀ b, b < N → a ≠ b → (T a).2.1 ≠ (T b).2.1) (hc : vwCl[ci]? = some (C, T, N)) (hf : f < N) (hu : Cond.fieldLink own idx ref (T f).2.1 (T f).2.2.1 ∈ Uw) (hs : ∀ x, (ks k).fieldFound? (T f).1 (T f).2.1 (T f).2.2.1 = some x → (ks k).fieldFound? ref (T f).2.1 (T f).2.2.1 = some x)
    (hfin : (T f).2.2.2 = true) (hown : (T f).1 = own) (hdt : parseFieldDescriptor (T f).2.2.1 = some ty) (hd : decode cc pc = .ok (.putfield idx, 3)) (hnr : narrow ty v = v) (hfit : fits ty v = true) (q : Nat) (hq : ws[q]? = some (a, .inr (ci, fs))) (hl : f < fs.length) (ws' : va_W) (he : ws.set q (a, .inr (ci, fs.set f v)) = ws') (K : J k ws' c n (pc + 3) lv st) : J k ws c n pc lv (v :: .ref a :: st) := fun H locs ls hP hL =>
  va_putF F.hx F.hb (fun w h => F.hts h) hin ty0 hty hnm F.hown F.hK.1 hP.1 (hP.2.1 hw) hP.2.2.1 q hq hc f hf (F.hts hu) hs hfin hin0 hown hdt hnr hfit hl hd (fun H1 locs1 h1 h2 h3 => by
    subst he
    exact K H1 locs1 ls (hP.put hw h1 h2 h3) hL)
/-! exceptions -/
theorem hat_of (F : Fx k cc own R nL) {L : List Cond} (h1 : ∀ w ∈ L.filter goodWord, w ∈ lw_tbl) (h2 : ∀ w ∈ L.filter (fun w => !goodWord w), w ∈ (cas.map fun q => Cond.castable q.1 q.2) ++ dcl.map Cond.declares) : ∀ w ∈ L, w.before (kargs k) (ks k) = true := by
  refine vx_hat (fun w hw => F.hts (List.mem_filter.mpr ⟨h1 w hw, (List.mem_filter.mp hw).2⟩)) h2 ?_
  intro w hw
  rcases List.mem_append.mp hw with h | h
  · obtain ⟨q, hq, rfl⟩ := List.mem_map.mp h
    exact va_Nw.use rfl (F.hK.2.2.2.1 q hq)
  · obtain ⟨x, hx, rfl⟩ := List.mem_map.mp h
    exact va_Nw.use rfl (F.hK.2.2.2.2.2.2.2.2.2 x hx)
/-- what 'throw new E(text)' links -/
def LkT (own : String) (ik ic : Nat) (E : String) : Prop := Cond.classLink own ik E ∈ Uw ∧ Cond.initialized E ∈ Uw ∧ Bundle.fit E = true ∧ (∀ w ∈ (vx_atS own ic E ["java/lang/RuntimeException", "java/lang/Exception"]).filter goodWord, w ∈ lw_tbl) ∧ (∀ w ∈ (vx_atS own ic E ["java/lang/RuntimeException", "java/lang/Exception"]).filter (fun w => !goodWord w), w ∈ (cas.map fun q => Cond.castable q.1 q.2) ++ dcl.map Cond.declares) ∧ ∀ w ∈ Cond.classLink own ik E :: Cond.initialized E :: vx_atS own ic E ["java/lang/RuntimeException", "java/lang/Exception"], vx_ot w = true
theorem j_throw (F : Fx k cc RX3 R nL) {mc ms : Nat} {PX : String → Prop} {ik is ic : Nat} {E text : String} (hX : XW k mc ms ws PX) (hNT : NT k) (hk : LkT RX3 ik ic E) (hs : (is, text) ∈ strs) (hE : PX E)
    (d0 : decode cc pc = .ok (.new ik, 3)) (d3 : decode cc (pc + 3) = .ok (.dup, 1)) (d4 : decode cc (pc + 4) = .ok (.ldc is, 2)) (d6 : decode cc (pc + 6) = .ok (.invokespecial ic, 3)) (d9 : decode cc (pc + 9) = .ok (.athrow, 1)) (hR : 5 < R.frames ∧ (st.map fun v => v.category).sum + 82 ≤ R.locals ∧ c + 1 ≤ R.cells ∧ n + 6 ≤ R.slots) (hc : c + 1 ≤ mc) (hn : n + 6 ≤ ms) : J k ws c n pc lv st := fun H locs ls hP hL => by
  obtain ⟨h1, h2, h3, h4, h5, h6⟩ := hk
  obtain ⟨sa, hsa⟩ := F.hK.2.2.2.2.2.2.2.2.1 (is, text) hs
  obtain ⟨hw, Qc, hQ⟩ := hX
  rw [hQ]
  exact vx_throwS F.hx F.hb F.hl F.hown h3 (by decide +kernel) (F.hts h1) (F.hts h2) hsa (hat_of F h4 h5) h6 (F.hZ hw).1 (F.hZ hw).2.1 hP.2.2.1 (hL.1.trans (F.hn.trans F.hml.symm)) d0 d3 d4 d6 d9 (fun x hx => (hNT x hx).elim) (by rw [F.hR]; exact hR.1) (by rw [F.hR]; exact hR.2.1) (by rw [F.hR]; exact hR.2.2.1) (by rw [F.hR]; exact hR.2.2.2) F.hlk
    (fun t ht hz hq => ⟨hE, fun i q hi => (hP.1 i q hi).kept (hq q.1 (hP.1 i q hi).lt), ⟨Nat.le_trans hP.2.2.1.1 hz, fun q h1 h2 => by rw [hq q (Nat.lt_of_lt_of_le h1 hP.2.2.1.1)]; exact hP.2.2.1.2.1 q h1 h2⟩⟩) hP.2.2.1.2.2 hc hn
theorem j_throwW (F : Fx k cc RX3 R nL) {mc ms : Nat} {PX : String → Prop} {ik is ic : Nat} {E text : String} (hX : XW k mc ms ws PX) (hNT : NT k) (hk : LkT RX3 ik ic E) (hs : (is, text) ∈ strs) (hE : PX E)
    (d0 : decode cc pc = .ok (.new ik, 3)) (d3 : decode cc (pc + 3) = .ok (.dup, 1)) (d4 : decode cc (pc + 4) = .ok (.ldc_w is, 3)) (d6 : decode cc (pc + 7) = .ok (.invokespecial ic, 3)) (d9 : decode cc (pc + 10) = .ok (.athrow, 1)) (hR : 5 < R.frames ∧ (st.map fun v => v.category).sum + 82 ≤ R.locals ∧ c + 1 ≤ R.cells ∧ n + 6 ≤ R.slots) (hc : c + 1 ≤ mc) (hn : n + 6 ≤ ms) : J k ws c n pc lv st := fun H locs ls hP hL => by
  obtain ⟨h1, h2, h3, h4, h5, h6⟩ := hk
  obtain ⟨sa, hsa⟩ := F.hK.2.2.2.2.2.2.2.2.1 (is, text) hs
  obtain ⟨hw, Qc, hQ⟩ := hX
  rw [hQ]
  exact vx_throwSW F.hx F.hb F.hl F.hown h3 (by decide +kernel) (F.hts h1) (F.hts h2) hsa (hat_of F h4 h5) h6 (F.hZ hw).1 (F.hZ hw).2.1 hP.2.2.1 (hL.1.trans (F.hn.trans F.hml.symm)) d0 d3 d4 d6 d9 (fun x hx => (hNT x hx).elim) (by rw [F.hR]; exact hR.1) (by rw [F.hR]; exact hR.2.1) (by rw [F.hR]; exact hR.2.2.1) (by rw [F.hR]; exact hR.2.2.2) F.hlk
    (fun t ht hz hq => ⟨hE, fun i q hi => (hP.1 i q hi).kept (hq q.1 (hP.1 i q hi).lt), ⟨Nat.le_trans hP.2.2.1.1 hz, fun q h1 h2 => by rw [hq q (Nat.lt_of_lt_of_le h1 hP.2.2.1.1)]; exact hP.2.2.1.2.1 q h1 h2⟩⟩) hP.2.2.1.2.2 hc hn
/-- an exception E is under way at pc -/
def JX (k : Kx) (ws : va_W) (c n pc : Nat) (lv : List (Option Value)) (st : List Value) (E : String) : Prop :=
  ∀ (H : Heap) (locs : List Loc) (ls : Array Slot) (q : Nat) (ce : Cell), Wd k ws H locs → lvh ls (kn k) lv → H[q]? = some ce → ce.vm = .none → (ks k).vm.findClass E = some ce.cls → vx_W (kp k) (kl k) (ke k) (kR k) (ks k) (km k) (kargs k) (kbelow k) (kmeth k) (kc k) H locs c n (kQ k) (F0 (km k) pc ls st) q
theorem run_cx (F : Fx k cc own R nL) (hw : kw k = true) {H : Heap} {locs : List Loc} {ls : Array Slot} {a : Array Value} {mc ms : Nat} {P : Option Value → va_W → Prop} {PX : String → Prop} (h : Wd k (wc ++ wr) H locs) (hL : lvh ls (kn k) lv) (hr : vx_Run (kp k) (kl k) (ke k) (kR k) (ks k) (km k) (kargs k) (kbelow k) (kmeth k) (kc k) H locs c n mc ms (F0 (km k) pc ls stk) st (PostM (kD k) wc H.size P a) (PostX (kD k) wc H.size PX) (va_A wc H.size))
    (K : ∀ (v : Option Value) (w1 : va_W), P v w1 → J k (w1 ++ wr) (c + mc) (n + ms) (pc + 3) lv (vlist v st)) (KX : ∀ E, PX E → JX k (wc ++ wr) (c + mc) (n + ms) pc lv st E) : W (kp k) (kl k) (ke k) (kR k) (ks k) (km k) (kargs k) (kbelow k) (kmeth k) (kc k) H locs c n (kQ k) (F0 (km k) pc ls stk) := by
  intro T hT X
  rcases hr T hT X with ⟨w, st₀, t, T', L, h0, X', hLL, e1, e2, ⟨v, w1, hv, hp, hP1, hD1, hF⟩, hg⟩ | ⟨q, st₀, t, T', L, E, ce, h0, X', hLL, e1, e2, ⟨hE, hP1, hF⟩, hce, hcv, hcl, hg⟩
  · cases hv
    subst h0
    obtain ⟨t2, a1, b1⟩ := K w w1 hp t.heap (locs ++ L) ls (h.call F hw hP1 hD1 hF.1 hF.2 hLL) hL T' e1 X'
    exact ⟨t2, hg t2 a1, b1⟩
  · subst h0
    have hDc : va_D (va_A wc st₀.heap.size) wc := by
      have hD := h.2.1 hw
      exact ⟨fun i j p q hp hq e => hD.1 i j p q (by rw [List.getElem?_append_left (List.getElem?_eq_some_iff.mp hp).1]; exact hp) (by rw [List.getElem?_append_left (List.getElem?_eq_some_iff.mp hq).1]; exact hq) e, fun i q hi => Or.inl ⟨i, q.2, hi⟩⟩
    obtain ⟨t2, a1, b1⟩ := KX E hE t.heap (locs ++ L) ls q ce (h.call F hw hP1 hDc hF.1 hF.2 hLL) hL hce hcv hcl T' e1 X'
    exact ⟨t2, hg.trans a1, b1⟩
theorem j_cxV (F : Fx k cc own R nL) (hw : kw k = true) {C : String} {y : MethodName} {ccy : ByteArray} {maxL : Nat} {ret : Option FieldType} {fr lo mc ms idx b : Nat} {as : List Value} {P : Option Value → va_W → Prop} {PX : String → Prop} (hM : CX (kl k) (kD k) y ccy maxL ret fr lo mc ms wc (.ref b :: as) P PX) (hk : LkV own idx C y ccy maxL ret as.length) (hd : decode cc pc = .ok (.invokevirtual idx, 3)) (hR : fr + 1 ≤ R.frames ∧ 8 + (maxL + 11) + lo ≤ R.locals)
    {T : u_T} {N ci : Nat} {fs : List Value} (q : Nat) (hq : (wc ++ wr)[q]? = some (b, .inr (ci, fs))) (hc : vwCl[ci]? = some (C, T, N)) (hst : stk = as.reverse ++ .ref b :: st) (hW : (st.map fun v => v.category).sum ≤ 8) (hcn : c + mc ≤ R.cells ∧ n + ms ≤ R.slots) (K : ∀ v w1, P v w1 → J k (w1 ++ wr) (c + mc) (n + ms) (pc + 3) lv (vlist v st)) (KX : ∀ E, PX E → JX k (wc ++ wr) (c + mc) (n + ms) pc lv st E) : J k (wc ++ wr) c n pc lv stk := fun H locs ls hP hL =>
  run_cx F hw hP hL (a := (Value.ref b :: as).toArray) (vx_runV (As := as) (rest := st) F.fix (hM H.size) (lkV F hk hR) ⟨PreM.blind, hP.recv F hq hc, (PreM.at F hw hP).2⟩ rfl rfl (hL.1.trans F.hn) hst (lv_room hW) hd (by rw [F.hR]; exact hcn)) K KX
/-- not caught: on to the caller -/
theorem jx_out {mc ms : Nat} {PX : String → Prop} {E : String} (F : Fx k cc own R nL) (hX : XW k mc ms ws PX) (hNT : NT k) (hE : PX E) (hc : c ≤ mc) (hn : n ≤ ms) : JX k ws c n pc lv st E := fun H locs ls q ce hP hL h1 h2 h3 => by
  obtain ⟨hw, Qc, hQ⟩ := hX
  rw [hQ]
  exact vx_out (fun x hx => (hNT x hx).elim) F.hlk h1 h2 h3 (fun t ht _ => ⟨hE, by rw [ht]; exact hP.1, hP.2.2.1.F ht⟩) hP.2.2.1.2.2 hc hn
end CROWS
end
section
/-! LINKS, by program: fields, methods, constants, classes to be made, exceptions; named by the class and its pool number -/
theorem inX0 : ∀ w ∈ u_ws RX0 TX0 8, w ∈ lw_tbl := by decide +kernel
theorem inX1 : ∀ w ∈ u_ws RX1 TX1 2, w ∈ lw_tbl := by decide +kernel
theorem inX2 : ∀ w ∈ u_ws RX2 TX2 15, w ∈ lw_tbl := by decide +kernel
theorem inX3 : ∀ w ∈ u_ws RX3 TX3 6, w ∈ lw_tbl := by decide +kernel
theorem inJx4a65c : ∀ w ∈ u_ws RJx4a65c TJx4a65c 3, w ∈ lw_tbl := by decide +kernel
theorem inU_X0 : ∀ w ∈ u_ws RX0 TX0 8, w ∈ Uw := fun w h => List.mem_filter.mpr ⟨inX0 w h, (List.all_eq_true.mp (show (u_ws RX0 TX0 8).all goodWord = true by decide +kernel)) w h⟩
theorem inU_X1 : ∀ w ∈ u_ws RX1 TX1 2, w ∈ Uw := fun w h => List.mem_filter.mpr ⟨inX1 w h, (List.all_eq_true.mp (show (u_ws RX1 TX1 2).all goodWord = true by decide +kernel)) w h⟩
theorem inU_X2 : ∀ w ∈ u_ws RX2 TX2 15, w ∈ Uw := fun w h => List.mem_filter.mpr ⟨inX2 w h, (List.all_eq_true.mp (show (u_ws RX2 TX2 15).all goodWord = true by decide +kernel)) w h⟩
theorem inU_X3 : ∀ w ∈ u_ws RX3 TX3 6, w ∈ Uw := fun w h => List.mem_filter.mpr ⟨inX3 w h, (List.all_eq_true.mp (show (u_ws RX3 TX3 6).all goodWord = true by decide +kernel)) w h⟩
theorem inU_Jx4a65c : ∀ w ∈ u_ws RJx4a65c TJx4a65c 3, w ∈ Uw := fun w h => List.mem_filter.mpr ⟨inJx4a65c w h, (List.all_eq_true.mp (show (u_ws RJx4a65c TJx4a65c 3).all goodWord = true by decide +kernel)) w h⟩
theorem um_J15_105 : Cond.methodLink RJ15 105 yJ3_checkIndex_8e157 ∈ Uw := Uw_of (i := 235) (by decide +kernel) (by decide +kernel)
theorem ul_J7_2 : Cond.classLink RJ7 2 "java/lang/Object" ∈ Uw := Uw_of (i := 492) (by decide +kernel) (by decide +kernel)
theorem um_J7_86 : Cond.methodLink RJ7 86 (⟨"java/lang/Object", "getClass", "()Ljava/lang/Class;"⟩ : MethodName) ∈ Uw := Uw_of (i := 475) (by decide +kernel) (by decide +kernel)
theorem ul_J7_110 : Cond.classLink RJ7 110 "[Ljava/lang/Object;" ∈ Uw := Uw_of (i := 490) (by decide +kernel) (by decide +kernel)
theorem um_J7_150 : Cond.methodLink RJ7 150 arraycopyName ∈ Uw := Uw_of (i := 494) (by decide +kernel) (by decide +kernel)
theorem um_J7_300 : Cond.methodLink RJ7 300 yJ7_copyOf_6403c ∈ Uw := Uw_of (i := 487) (by decide +kernel) (by decide +kernel)
theorem um_J7_304 : Cond.methodLink RJ7 304 Lib.Math.min.name ∈ Uw := Uw_of (i := 493) (by decide +kernel) (by decide +kernel)
theorem um_J8_194 : Cond.methodLink RJ8 194 Lib.Math.max.name ∈ Uw := Uw_of (i := 467) (by decide +kernel) (by decide +kernel)
theorem uc_J8_200 : Cond.constant RJ8 200 (2147483639) ∈ Uw := Uw_of (i := 468) (by decide +kernel) (by decide +kernel)
theorem um_J8_201 : Cond.methodLink RJ8 201 yJ8_hugeLength_7cf53 ∈ Uw := Uw_of (i := 469) (by decide +kernel) (by decide +kernel)
theorem um_Jx4a65c_1 : Cond.methodLink RJx4a65c 1 yJxc12de_init_da8c8 ∈ Uw := Uw_of (i := 65) (by decide +kernel) (by decide +kernel)
theorem ul_Jx4a65c_7 : Cond.classLink RJx4a65c 7 "java/lang/Object" ∈ Uw := Uw_of (i := 498) (by decide +kernel) (by decide +kernel)
theorem usame_modCount : Cond.sameField "java/util/ArrayList" "java/util/AbstractList" "modCount" "I" ∈ Uw := Uw_of (i := 78) (by decide +kernel) (by decide +kernel)
theorem uf_Jx4a65c_9 : Cond.fieldLink RJx4a65c 9 "java/util/ArrayList" "elementData" "[Ljava/lang/Object;" ∈ Uw := Uw_of (i := 74) (by decide +kernel) (by decide +kernel)
theorem gf_Jx4a65c_9 {k : Kx} {cc : ByteArray} {R : Room} {nL : Nat} {ws : va_W} {c n pc : Nat} {lv : List (Option Value)} {st : List Value} {a : Nat} {fs : List Value} {v : Value} (F : Fx k cc RJx4a65c R nL) (hd : decode cc pc = .ok (.getfield 9, 3)) (q : Nat) (hq : ws[q]? = some (a, .inr (0, fs))) (hv : fs[1]? = some v) (K : J k ws c n (pc + 3) lv (v :: st)) : J k ws c n pc lv (.ref a :: st) := j_getf F (C := RJx4a65c) (T := TJx4a65c) (N := 3) 1 inU_Jx4a65c rfl (by decide) uf_Jx4a65c_9 (fun _ h => h) hd q hq hv K
theorem pf_Jx4a65c_9 {k : Kx} {cc : ByteArray} {R : Room} {nL : Nat} {ws : va_W} {c n pc : Nat} {lv : List (Option Value)} {st : List Value} {a : Nat} {fs : List Value} {v : Value} (F : Fx k cc RJx4a65c R nL) (hw : kw k = true) (hd : decode cc pc = .ok (.putfield 9, 3)) (hn : narrow (.array (.object "java/lang/Object")) v = v) (hf : fits (.array (.object "java/lang/Object")) v = true) (q : Nat) (hq : ws[q]? = some (a, .inr (0, fs))) (hl : 1 < fs.length) (ws' : va_W) (he : ws.set q (a, .inr (0, fs.set 1 v)) = ws') (K : J k ws' c n (pc + 3) lv st) : J k ws c n pc lv (v :: .ref a :: st) := j_putf F hw (C := RJx4a65c) (T := TJx4a65c) (N := 3) 1 inU_Jx4a65c tyJx4a65c tyJx4a65c_ok nmJx4a65c rfl (by decide) uf_Jx4a65c_9 (fun _ h => h) rfl (by decide +kernel) hd hn hf q hq hl ws' he K
theorem uf_Jx4a65c_48 : Cond.fieldLink RJx4a65c 48 "java/util/ArrayList" "size" "I" ∈ Uw := Uw_of (i := 75) (by decide +kernel) (by decide +kernel)
theorem gf_Jx4a65c_48 {k : Kx} {cc : ByteArray} {R : Room} {nL : Nat} {ws : va_W} {c n pc : Nat} {lv : List (Option Value)} {st : List Value} {a : Nat} {fs : List Value} {v : Value} (F : Fx k cc RJx4a65c R nL) (hd : decode cc pc = .ok (.getfield 48, 3)) (q : Nat) (hq : ws[q]? = some (a, .inr (0, fs))) (hv : fs[2]? = some v) (K : J k ws c n (pc + 3) lv (v :: st)) : J k ws c n pc lv (.ref a :: st) := j_getf F (C := RJx4a65c) (T := TJx4a65c) (N := 3) 2 inU_Jx4a65c rfl (by decide) uf_Jx4a65c_48 (fun _ h => h) hd q hq hv K
theorem pf_Jx4a65c_48 {k : Kx} {cc : ByteArray} {R : Room} {nL : Nat} {ws : va_W} {c n pc : Nat} {lv : List (Option Value)} {st : List Value} {a : Nat} {fs : List Value} {v : Value} (F : Fx k cc RJx4a65c R nL) (hw : kw k = true) (hd : decode cc pc = .ok (.putfield 48, 3)) (hn : narrow (.int) v = v) (hf : fits (.int) v = true) (q : Nat) (hq : ws[q]? = some (a, .inr (0, fs))) (hl : 2 < fs.length) (ws' : va_W) (he : ws.set q (a, .inr (0, fs.set 2 v)) = ws') (K : J k ws' c n (pc + 3) lv st) : J k ws c n pc lv (v :: .ref a :: st) := j_putf F hw (C := RJx4a65c) (T := TJx4a65c) (N := 3) 2 inU_Jx4a65c tyJx4a65c tyJx4a65c_ok nmJx4a65c rfl (by decide) uf_Jx4a65c_48 (fun _ h => h) rfl (by decide +kernel) hd hn hf q hq hl ws' he K
theorem uf_Jx4a65c_63 : Cond.fieldLink RJx4a65c 63 "java/util/ArrayList" "modCount" "I" ∈ Uw := Uw_of (i := 77) (by decide +kernel) (by decide +kernel)
theorem gf_Jx4a65c_63 {k : Kx} {cc : ByteArray} {R : Room} {nL : Nat} {ws : va_W} {c n pc : Nat} {lv : List (Option Value)} {st : List Value} {a : Nat} {fs : List Value} {v : Value} (F : Fx k cc RJx4a65c R nL) (hd : decode cc pc = .ok (.getfield 63, 3)) (q : Nat) (hq : ws[q]? = some (a, .inr (0, fs))) (hv : fs[0]? = some v) (K : J k ws c n (pc + 3) lv (v :: st)) : J k ws c n pc lv (.ref a :: st) := j_getf F (C := RJx4a65c) (T := TJx4a65c) (N := 3) 0 inU_Jx4a65c rfl (by decide) uf_Jx4a65c_63 (fun x9 h9 => u_same (F.hts usame_modCount) x9 h9) hd q hq hv K
theorem pf_Jx4a65c_63 {k : Kx} {cc : ByteArray} {R : Room} {nL : Nat} {ws : va_W} {c n pc : Nat} {lv : List (Option Value)} {st : List Value} {a : Nat} {fs : List Value} {v : Value} (F : Fx k cc RJx4a65c R nL) (hw : kw k = true) (hd : decode cc pc = .ok (.putfield 63, 3)) (hn : narrow (.int) v = v) (hf : fits (.int) v = true) (q : Nat) (hq : ws[q]? = some (a, .inr (0, fs))) (hl : 0 < fs.length) (ws' : va_W) (he : ws.set q (a, .inr (0, fs.set 0 v)) = ws') (K : J k ws' c n (pc + 3) lv st) : J k ws c n pc lv (v :: .ref a :: st) := j_putf F hw (C := RJx4a65c) (T := TJx4a65c) (N := 3) 0 inU_Jx4a65c tyJx4a65c tyJx4a65c_ok nmJx4a65c rfl (by decide) uf_Jx4a65c_63 (fun x9 h9 => u_same (F.hts usame_modCount) x9 h9) rfl (by decide +kernel) hd hn hf q hq hl ws' he K
theorem um_Jx4a65c_66 : Cond.methodLink RJx4a65c 66 yJ7_copyOf_1904c ∈ Uw := Uw_of (i := 472) (by decide +kernel) (by decide +kernel)
theorem um_Jx4a65c_69 : Cond.methodLink RJx4a65c 69 yJx4a65c_grow_92f84 ∈ Uw := Uw_of (i := 460) (by decide +kernel) (by decide +kernel)
theorem um_Jx4a65c_73 : Cond.methodLink RJx4a65c 73 yJ8_newLength_cabcc ∈ Uw := Uw_of (i := 464) (by decide +kernel) (by decide +kernel)
theorem um_Jx4a65c_79 : Cond.methodLink RJx4a65c 79 Lib.Math.max.name ∈ Uw := Uw_of (i := 497) (by decide +kernel) (by decide +kernel)
theorem um_Jx4a65c_118 : Cond.methodLink RJx4a65c 118 yJ15_checkIndex_7cf53 ∈ Uw := Uw_of (i := 232) (by decide +kernel) (by decide +kernel)
theorem um_Jx4a65c_123 : Cond.methodLink RJx4a65c 123 yJx4a65c_elementData_915e3 ∈ Uw := Uw_of (i := 238) (by decide +kernel) (by decide +kernel)
theorem um_Jx4a65c_129 : Cond.methodLink RJx4a65c 129 yJx4a65c_grow_d5877 ∈ Uw := Uw_of (i := 456) (by decide +kernel) (by decide +kernel)
theorem um_Jx4a65c_131 : Cond.methodLink RJx4a65c 131 yJx4a65c_add_72be8 ∈ Uw := Uw_of (i := 452) (by decide +kernel) (by decide +kernel)
theorem um_Jxa1e45_1 : Cond.methodLink RJxa1e45 1 objectInit ∈ Uw := Uw_of (i := 71) (by decide +kernel) (by decide +kernel)
theorem um_Jxc12de_1 : Cond.methodLink RJxc12de 1 yJxa1e45_init_da8c8 ∈ Uw := Uw_of (i := 68) (by decide +kernel) (by decide +kernel)
theorem uf_Jxc12de_7 : Cond.fieldLink RJxc12de 7 "java/util/AbstractList" "modCount" "I" ∈ Uw := Uw_of (i := 76) (by decide +kernel) (by decide +kernel)
theorem pf_Jxc12de_7 {k : Kx} {cc : ByteArray} {R : Room} {nL : Nat} {ws : va_W} {c n pc : Nat} {lv : List (Option Value)} {st : List Value} {a : Nat} {fs : List Value} {v : Value} (F : Fx k cc RJxc12de R nL) (hw : kw k = true) (hd : decode cc pc = .ok (.putfield 7, 3)) (hn : narrow (.int) v = v) (hf : fits (.int) v = true) (q : Nat) (hq : ws[q]? = some (a, .inr (0, fs))) (hl : 0 < fs.length) (ws' : va_W) (he : ws.set q (a, .inr (0, fs.set 0 v)) = ws') (K : J k ws' c n (pc + 3) lv st) : J k ws c n pc lv (v :: .ref a :: st) := j_putf F hw (C := RJx4a65c) (T := TJx4a65c) (N := 3) 0 inU_Jx4a65c tyJx4a65c tyJx4a65c_ok nmJx4a65c rfl (by decide) uf_Jxc12de_7 (fun _ h => h) rfl (by decide +kernel) hd hn hf q hq hl ws' he K
theorem uc_L_7 : Cond.constant RL 7 (2147483647) ∈ Uw := Uw_of (i := 383) (by decide +kernel) (by decide +kernel)
theorem uc_L_8 : Cond.constant RL 8 (790386105) ∈ Uw := Uw_of (i := 387) (by decide +kernel) (by decide +kernel)
theorem um_L_9 : Cond.methodLink RL 9 yL_cell ∈ Uw := Uw_of (i := 384) (by decide +kernel) (by decide +kernel)
theorem um_L_15 : Cond.methodLink RL 15 yL_below ∈ Uw := Uw_of (i := 380) (by decide +kernel) (by decide +kernel)
theorem um_L_19 : Cond.methodLink RL 19 yX3_setHours ∈ Uw := Uw_of (i := 391) (by decide +kernel) (by decide +kernel)
theorem ul_L_20 : Cond.classLink RL 20 RX3 ∈ Uw := Uw_of (i := 37) (by decide +kernel) (by decide +kernel)
theorem um_L_25 : Cond.methodLink RL 25 yX3_setTargets ∈ Uw := Uw_of (i := 399) (by decide +kernel) (by decide +kernel)
theorem um_L_29 : Cond.methodLink RL 29 yX3_addAgent ∈ Uw := Uw_of (i := 408) (by decide +kernel) (by decide +kernel)
theorem um_L_33 : Cond.methodLink RL 33 yL_open ∈ Uw := Uw_of (i := 499) (by decide +kernel) (by decide +kernel)
theorem um_L_37 : Cond.methodLink RL 37 yX3_open ∈ Uw := Uw_of (i := 502) (by decide +kernel) (by decide +kernel)
theorem um_L_53 : Cond.methodLink RL 53 yX3_init ∈ Uw := Uw_of (i := 39) (by decide +kernel) (by decide +kernel)
theorem um_L_54 : Cond.methodLink RL 54 yL_build ∈ Uw := Uw_of (i := 388) (by decide +kernel) (by decide +kernel)
theorem um_L_58 : Cond.methodLink RL 58 yX3_ticket ∈ Uw := Uw_of (i := 308) (by decide +kernel) (by decide +kernel)
theorem um_L_61 : Cond.methodLink RL 61 yX3_pause ∈ Uw := Uw_of (i := 256) (by decide +kernel) (by decide +kernel)
theorem um_L_65 : Cond.methodLink RL 65 yX3_resume ∈ Uw := Uw_of (i := 285) (by decide +kernel) (by decide +kernel)
theorem um_L_68 : Cond.methodLink RL 68 yX3_reopen ∈ Uw := Uw_of (i := 302) (by decide +kernel) (by decide +kernel)
theorem um_L_71 : Cond.methodLink RL 71 yX3_merge ∈ Uw := Uw_of (i := 290) (by decide +kernel) (by decide +kernel)
theorem um_L_74 : Cond.methodLink RL 74 yX3_pass ∈ Uw := Uw_of (i := 319) (by decide +kernel) (by decide +kernel)
theorem um_L_77 : Cond.methodLink RL 77 yX3_agent ∈ Uw := Uw_of (i := 200) (by decide +kernel) (by decide +kernel)
theorem um_L_80 : Cond.methodLink RL 80 yX3_now ∈ Uw := Uw_of (i := 106) (by decide +kernel) (by decide +kernel)
theorem um_L_84 : Cond.methodLink RL 84 yX3_service ∈ Uw := Uw_of (i := 110) (by decide +kernel) (by decide +kernel)
theorem um_L_87 : Cond.methodLink RL 87 yX3_all ∈ Uw := Uw_of (i := 375) (by decide +kernel) (by decide +kernel)
theorem um_X0_3 : Cond.methodLink RX0 3 objectInit ∈ Uw := Uw_of (i := 421) (by decide +kernel) (by decide +kernel)
theorem uf_X0_9 : Cond.fieldLink RX0 9 "HelpDesk$Agent" "number" "I" ∈ Uw := Uw_of (i := 422) (by decide +kernel) (by decide +kernel)
theorem pf_X0_9 {k : Kx} {cc : ByteArray} {R : Room} {nL : Nat} {ws : va_W} {c n pc : Nat} {lv : List (Option Value)} {st : List Value} {a : Nat} {fs : List Value} {v : Value} (F : Fx k cc RX0 R nL) (hw : kw k = true) (hin : (kmeth k).name = "<init>") (hd : decode cc pc = .ok (.putfield 9, 3)) (hn : narrow (.int) v = v) (hf : fits (.int) v = true) (q : Nat) (hq : ws[q]? = some (a, .inr (1, fs))) (hl : 0 < fs.length) (ws' : va_W) (he : ws.set q (a, .inr (1, fs.set 0 v)) = ws') (K : J k ws' c n (pc + 3) lv st) : J k ws c n pc lv (v :: .ref a :: st) := j_putfF F hw hin (C := RX0) (T := TX0) (N := 8) 0 inU_X0 tyX0 tyX0_ok nmX0 rfl (by decide) uf_X0_9 (fun _ h => h) rfl rfl (by decide +kernel) hd hn hf q hq hl ws' he K
theorem uf_X0_15 : Cond.fieldLink RX0 15 "HelpDesk$Agent" "skills" "I" ∈ Uw := Uw_of (i := 427) (by decide +kernel) (by decide +kernel)
theorem gf_X0_15 {k : Kx} {cc : ByteArray} {R : Room} {nL : Nat} {ws : va_W} {c n pc : Nat} {lv : List (Option Value)} {st : List Value} {a : Nat} {fs : List Value} {v : Value} (F : Fx k cc RX0 R nL) (hd : decode cc pc = .ok (.getfield 15, 3)) (q : Nat) (hq : ws[q]? = some (a, .inr (1, fs))) (hv : fs[4]? = some v) (K : J k ws c n (pc + 3) lv (v :: st)) : J k ws c n pc lv (.ref a :: st) := j_getf F (C := RX0) (T := TX0) (N := 8) 4 inU_X0 rfl (by decide) uf_X0_15 (fun _ h => h) hd q hq hv K
theorem pf_X0_15 {k : Kx} {cc : ByteArray} {R : Room} {nL : Nat} {ws : va_W} {c n pc : Nat} {lv : List (Option Value)} {st : List Value} {a : Nat} {fs : List Value} {v : Value} (F : Fx k cc RX0 R nL) (hw : kw k = true) (hd : decode cc pc = .ok (.putfield 15, 3)) (hn : narrow (.int) v = v) (hf : fits (.int) v = true) (q : Nat) (hq : ws[q]? = some (a, .inr (1, fs))) (hl : 4 < fs.length) (ws' : va_W) (he : ws.set q (a, .inr (1, fs.set 4 v)) = ws') (K : J k ws' c n (pc + 3) lv st) : J k ws c n pc lv (v :: .ref a :: st) := j_putf F hw (C := RX0) (T := TX0) (N := 8) 4 inU_X0 tyX0 tyX0_ok nmX0 rfl (by decide) uf_X0_15 (fun _ h => h) rfl (by decide +kernel) hd hn hf q hq hl ws' he K
theorem uf_X0_18 : Cond.fieldLink RX0 18 "HelpDesk$Agent" "days" "I" ∈ Uw := Uw_of (i := 424) (by decide +kernel) (by decide +kernel)
theorem gf_X0_18 {k : Kx} {cc : ByteArray} {R : Room} {nL : Nat} {ws : va_W} {c n pc : Nat} {lv : List (Option Value)} {st : List Value} {a : Nat} {fs : List Value} {v : Value} (F : Fx k cc RX0 R nL) (hd : decode cc pc = .ok (.getfield 18, 3)) (q : Nat) (hq : ws[q]? = some (a, .inr (1, fs))) (hv : fs[1]? = some v) (K : J k ws c n (pc + 3) lv (v :: st)) : J k ws c n pc lv (.ref a :: st) := j_getf F (C := RX0) (T := TX0) (N := 8) 1 inU_X0 rfl (by decide) uf_X0_18 (fun _ h => h) hd q hq hv K
theorem pf_X0_18 {k : Kx} {cc : ByteArray} {R : Room} {nL : Nat} {ws : va_W} {c n pc : Nat} {lv : List (Option Value)} {st : List Value} {a : Nat} {fs : List Value} {v : Value} (F : Fx k cc RX0 R nL) (hw : kw k = true) (hin : (kmeth k).name = "<init>") (hd : decode cc pc = .ok (.putfield 18, 3)) (hn : narrow (.int) v = v) (hf : fits (.int) v = true) (q : Nat) (hq : ws[q]? = some (a, .inr (1, fs))) (hl : 1 < fs.length) (ws' : va_W) (he : ws.set q (a, .inr (1, fs.set 1 v)) = ws') (K : J k ws' c n (pc + 3) lv st) : J k ws c n pc lv (v :: .ref a :: st) := j_putfF F hw hin (C := RX0) (T := TX0) (N := 8) 1 inU_X0 tyX0 tyX0_ok nmX0 rfl (by decide) uf_X0_18 (fun _ h => h) rfl rfl (by decide +kernel) hd hn hf q hq hl ws' he K
theorem uf_X0_21 : Cond.fieldLink RX0 21 "HelpDesk$Agent" "begin" "I" ∈ Uw := Uw_of (i := 425) (by decide +kernel) (by decide +kernel)
theorem gf_X0_21 {k : Kx} {cc : ByteArray} {R : Room} {nL : Nat} {ws : va_W} {c n pc : Nat} {lv : List (Option Value)} {st : List Value} {a : Nat} {fs : List Value} {v : Value} (F : Fx k cc RX0 R nL) (hd : decode cc pc = .ok (.getfield 21, 3)) (q : Nat) (hq : ws[q]? = some (a, .inr (1, fs))) (hv : fs[2]? = some v) (K : J k ws c n (pc + 3) lv (v :: st)) : J k ws c n pc lv (.ref a :: st) := j_getf F (C := RX0) (T := TX0) (N := 8) 2 inU_X0 rfl (by decide) uf_X0_21 (fun _ h => h) hd q hq hv K
theorem pf_X0_21 {k : Kx} {cc : ByteArray} {R : Room} {nL : Nat} {ws : va_W} {c n pc : Nat} {lv : List (Option Value)} {st : List Value} {a : Nat} {fs : List Value} {v : Value} (F : Fx k cc RX0 R nL) (hw : kw k = true) (hin : (kmeth k).name = "<init>") (hd : decode cc pc = .ok (.putfield 21, 3)) (hn : narrow (.int) v = v) (hf : fits (.int) v = true) (q : Nat) (hq : ws[q]? = some (a, .inr (1, fs))) (hl : 2 < fs.length) (ws' : va_W) (he : ws.set q (a, .inr (1, fs.set 2 v)) = ws') (K : J k ws' c n (pc + 3) lv st) : J k ws c n pc lv (v :: .ref a :: st) := j_putfF F hw hin (C := RX0) (T := TX0) (N := 8) 2 inU_X0 tyX0 tyX0_ok nmX0 rfl (by decide) uf_X0_21 (fun _ h => h) rfl rfl (by decide +kernel) hd hn hf q hq hl ws' he K
theorem uf_X0_24 : Cond.fieldLink RX0 24 "HelpDesk$Agent" "end" "I" ∈ Uw := Uw_of (i := 426) (by decide +kernel) (by decide +kernel)
theorem gf_X0_24 {k : Kx} {cc : ByteArray} {R : Room} {nL : Nat} {ws : va_W} {c n pc : Nat} {lv : List (Option Value)} {st : List Value} {a : Nat} {fs : List Value} {v : Value} (F : Fx k cc RX0 R nL) (hd : decode cc pc = .ok (.getfield 24, 3)) (q : Nat) (hq : ws[q]? = some (a, .inr (1, fs))) (hv : fs[3]? = some v) (K : J k ws c n (pc + 3) lv (v :: st)) : J k ws c n pc lv (.ref a :: st) := j_getf F (C := RX0) (T := TX0) (N := 8) 3 inU_X0 rfl (by decide) uf_X0_24 (fun _ h => h) hd q hq hv K
theorem pf_X0_24 {k : Kx} {cc : ByteArray} {R : Room} {nL : Nat} {ws : va_W} {c n pc : Nat} {lv : List (Option Value)} {st : List Value} {a : Nat} {fs : List Value} {v : Value} (F : Fx k cc RX0 R nL) (hw : kw k = true) (hin : (kmeth k).name = "<init>") (hd : decode cc pc = .ok (.putfield 24, 3)) (hn : narrow (.int) v = v) (hf : fits (.int) v = true) (q : Nat) (hq : ws[q]? = some (a, .inr (1, fs))) (hl : 3 < fs.length) (ws' : va_W) (he : ws.set q (a, .inr (1, fs.set 3 v)) = ws') (K : J k ws' c n (pc + 3) lv st) : J k ws c n pc lv (v :: .ref a :: st) := j_putfF F hw hin (C := RX0) (T := TX0) (N := 8) 3 inU_X0 tyX0 tyX0_ok nmX0 rfl (by decide) uf_X0_24 (fun _ h => h) rfl rfl (by decide +kernel) hd hn hf q hq hl ws' he K
theorem um_X1_3 : Cond.methodLink RX1 3 objectInit ∈ Uw := Uw_of (i := 50) (by decide +kernel) (by decide +kernel)
theorem uf_X1_9 : Cond.fieldLink RX1 9 "HelpDesk$Hours" "opening" "I" ∈ Uw := Uw_of (i := 51) (by decide +kernel) (by decide +kernel)
theorem gf_X1_9 {k : Kx} {cc : ByteArray} {R : Room} {nL : Nat} {ws : va_W} {c n pc : Nat} {lv : List (Option Value)} {st : List Value} {a : Nat} {fs : List Value} {v : Value} (F : Fx k cc RX1 R nL) (hd : decode cc pc = .ok (.getfield 9, 3)) (q : Nat) (hq : ws[q]? = some (a, .inr (2, fs))) (hv : fs[0]? = some v) (K : J k ws c n (pc + 3) lv (v :: st)) : J k ws c n pc lv (.ref a :: st) := j_getf F (C := RX1) (T := TX1) (N := 2) 0 inU_X1 rfl (by decide) uf_X1_9 (fun _ h => h) hd q hq hv K
theorem pf_X1_9 {k : Kx} {cc : ByteArray} {R : Room} {nL : Nat} {ws : va_W} {c n pc : Nat} {lv : List (Option Value)} {st : List Value} {a : Nat} {fs : List Value} {v : Value} (F : Fx k cc RX1 R nL) (hw : kw k = true) (hd : decode cc pc = .ok (.putfield 9, 3)) (hn : narrow (.int) v = v) (hf : fits (.int) v = true) (q : Nat) (hq : ws[q]? = some (a, .inr (2, fs))) (hl : 0 < fs.length) (ws' : va_W) (he : ws.set q (a, .inr (2, fs.set 0 v)) = ws') (K : J k ws' c n (pc + 3) lv st) : J k ws c n pc lv (v :: .ref a :: st) := j_putf F hw (C := RX1) (T := TX1) (N := 2) 0 inU_X1 tyX1 tyX1_ok nmX1 rfl (by decide) uf_X1_9 (fun _ h => h) rfl (by decide +kernel) hd hn hf q hq hl ws' he K
theorem uf_X1_15 : Cond.fieldLink RX1 15 "HelpDesk$Hours" "closing" "I" ∈ Uw := Uw_of (i := 53) (by decide +kernel) (by decide +kernel)
theorem gf_X1_15 {k : Kx} {cc : ByteArray} {R : Room} {nL : Nat} {ws : va_W} {c n pc : Nat} {lv : List (Option Value)} {st : List Value} {a : Nat} {fs : List Value} {v : Value} (F : Fx k cc RX1 R nL) (hd : decode cc pc = .ok (.getfield 15, 3)) (q : Nat) (hq : ws[q]? = some (a, .inr (2, fs))) (hv : fs[1]? = some v) (K : J k ws c n (pc + 3) lv (v :: st)) : J k ws c n pc lv (.ref a :: st) := j_getf F (C := RX1) (T := TX1) (N := 2) 1 inU_X1 rfl (by decide) uf_X1_15 (fun _ h => h) hd q hq hv K
theorem pf_X1_15 {k : Kx} {cc : ByteArray} {R : Room} {nL : Nat} {ws : va_W} {c n pc : Nat} {lv : List (Option Value)} {st : List Value} {a : Nat} {fs : List Value} {v : Value} (F : Fx k cc RX1 R nL) (hw : kw k = true) (hd : decode cc pc = .ok (.putfield 15, 3)) (hn : narrow (.int) v = v) (hf : fits (.int) v = true) (q : Nat) (hq : ws[q]? = some (a, .inr (2, fs))) (hl : 1 < fs.length) (ws' : va_W) (he : ws.set q (a, .inr (2, fs.set 1 v)) = ws') (K : J k ws' c n (pc + 3) lv st) : J k ws c n pc lv (v :: .ref a :: st) := j_putf F hw (C := RX1) (T := TX1) (N := 2) 1 inU_X1 tyX1 tyX1_ok nmX1 rfl (by decide) uf_X1_15 (fun _ h => h) rfl (by decide +kernel) hd hn hf q hq hl ws' he K
theorem um_X1_22 : Cond.methodLink RX1 22 yX1_minutesOfDay ∈ Uw := Uw_of (i := 187) (by decide +kernel) (by decide +kernel)
theorem um_X1_28 : Cond.methodLink RX1 28 Lib.Math.max.name ∈ Uw := Uw_of (i := 194) (by decide +kernel) (by decide +kernel)
theorem um_X1_34 : Cond.methodLink RX1 34 Lib.Math.min.name ∈ Uw := Uw_of (i := 197) (by decide +kernel) (by decide +kernel)
theorem um_X2_3 : Cond.methodLink RX2 3 objectInit ∈ Uw := Uw_of (i := 512) (by decide +kernel) (by decide +kernel)
theorem uf_X2_9 : Cond.fieldLink RX2 9 "HelpDesk$Ticket" "number" "I" ∈ Uw := Uw_of (i := 513) (by decide +kernel) (by decide +kernel)
theorem pf_X2_9 {k : Kx} {cc : ByteArray} {R : Room} {nL : Nat} {ws : va_W} {c n pc : Nat} {lv : List (Option Value)} {st : List Value} {a : Nat} {fs : List Value} {v : Value} (F : Fx k cc RX2 R nL) (hw : kw k = true) (hin : (kmeth k).name = "<init>") (hd : decode cc pc = .ok (.putfield 9, 3)) (hn : narrow (.int) v = v) (hf : fits (.int) v = true) (q : Nat) (hq : ws[q]? = some (a, .inr (3, fs))) (hl : 0 < fs.length) (ws' : va_W) (he : ws.set q (a, .inr (3, fs.set 0 v)) = ws') (K : J k ws' c n (pc + 3) lv st) : J k ws c n pc lv (v :: .ref a :: st) := j_putfF F hw hin (C := RX2) (T := TX2) (N := 15) 0 inU_X2 tyX2 tyX2_ok nmX2 rfl (by decide) uf_X2_9 (fun _ h => h) rfl rfl (by decide +kernel) hd hn hf q hq hl ws' he K
theorem uf_X2_15 : Cond.fieldLink RX2 15 "HelpDesk$Ticket" "skill" "I" ∈ Uw := Uw_of (i := 515) (by decide +kernel) (by decide +kernel)
theorem pf_X2_15 {k : Kx} {cc : ByteArray} {R : Room} {nL : Nat} {ws : va_W} {c n pc : Nat} {lv : List (Option Value)} {st : List Value} {a : Nat} {fs : List Value} {v : Value} (F : Fx k cc RX2 R nL) (hw : kw k = true) (hin : (kmeth k).name = "<init>") (hd : decode cc pc = .ok (.putfield 15, 3)) (hn : narrow (.int) v = v) (hf : fits (.int) v = true) (q : Nat) (hq : ws[q]? = some (a, .inr (3, fs))) (hl : 1 < fs.length) (ws' : va_W) (he : ws.set q (a, .inr (3, fs.set 1 v)) = ws') (K : J k ws' c n (pc + 3) lv st) : J k ws c n pc lv (v :: .ref a :: st) := j_putfF F hw hin (C := RX2) (T := TX2) (N := 15) 1 inU_X2 tyX2 tyX2_ok nmX2 rfl (by decide) uf_X2_15 (fun _ h => h) rfl rfl (by decide +kernel) hd hn hf q hq hl ws' he K
theorem uf_X2_18 : Cond.fieldLink RX2 18 "HelpDesk$Ticket" "priority" "I" ∈ Uw := Uw_of (i := 517) (by decide +kernel) (by decide +kernel)
theorem pf_X2_18 {k : Kx} {cc : ByteArray} {R : Room} {nL : Nat} {ws : va_W} {c n pc : Nat} {lv : List (Option Value)} {st : List Value} {a : Nat} {fs : List Value} {v : Value} (F : Fx k cc RX2 R nL) (hw : kw k = true) (hd : decode cc pc = .ok (.putfield 18, 3)) (hn : narrow (.int) v = v) (hf : fits (.int) v = true) (q : Nat) (hq : ws[q]? = some (a, .inr (3, fs))) (hl : 2 < fs.length) (ws' : va_W) (he : ws.set q (a, .inr (3, fs.set 2 v)) = ws') (K : J k ws' c n (pc + 3) lv st) : J k ws c n pc lv (v :: .ref a :: st) := j_putf F hw (C := RX2) (T := TX2) (N := 15) 2 inU_X2 tyX2 tyX2_ok nmX2 rfl (by decide) uf_X2_18 (fun _ h => h) rfl (by decide +kernel) hd hn hf q hq hl ws' he K
theorem uf_X2_21 : Cond.fieldLink RX2 21 "HelpDesk$Ticket" "effort" "I" ∈ Uw := Uw_of (i := 519) (by decide +kernel) (by decide +kernel)
theorem pf_X2_21 {k : Kx} {cc : ByteArray} {R : Room} {nL : Nat} {ws : va_W} {c n pc : Nat} {lv : List (Option Value)} {st : List Value} {a : Nat} {fs : List Value} {v : Value} (F : Fx k cc RX2 R nL) (hw : kw k = true) (hd : decode cc pc = .ok (.putfield 21, 3)) (hn : narrow (.int) v = v) (hf : fits (.int) v = true) (q : Nat) (hq : ws[q]? = some (a, .inr (3, fs))) (hl : 3 < fs.length) (ws' : va_W) (he : ws.set q (a, .inr (3, fs.set 3 v)) = ws') (K : J k ws' c n (pc + 3) lv st) : J k ws c n pc lv (v :: .ref a :: st) := j_putf F hw (C := RX2) (T := TX2) (N := 15) 3 inU_X2 tyX2 tyX2_ok nmX2 rfl (by decide) uf_X2_21 (fun _ h => h) rfl (by decide +kernel) hd hn hf q hq hl ws' he K
theorem uf_X2_24 : Cond.fieldLink RX2 24 "HelpDesk$Ticket" "state" "I" ∈ Uw := Uw_of (i := 521) (by decide +kernel) (by decide +kernel)
theorem gf_X2_24 {k : Kx} {cc : ByteArray} {R : Room} {nL : Nat} {ws : va_W} {c n pc : Nat} {lv : List (Option Value)} {st : List Value} {a : Nat} {fs : List Value} {v : Value} (F : Fx k cc RX2 R nL) (hd : decode cc pc = .ok (.getfield 24, 3)) (q : Nat) (hq : ws[q]? = some (a, .inr (3, fs))) (hv : fs[4]? = some v) (K : J k ws c n (pc + 3) lv (v :: st)) : J k ws c n pc lv (.ref a :: st) := j_getf F (C := RX2) (T := TX2) (N := 15) 4 inU_X2 rfl (by decide) uf_X2_24 (fun _ h => h) hd q hq hv K
theorem pf_X2_24 {k : Kx} {cc : ByteArray} {R : Room} {nL : Nat} {ws : va_W} {c n pc : Nat} {lv : List (Option Value)} {st : List Value} {a : Nat} {fs : List Value} {v : Value} (F : Fx k cc RX2 R nL) (hw : kw k = true) (hd : decode cc pc = .ok (.putfield 24, 3)) (hn : narrow (.int) v = v) (hf : fits (.int) v = true) (q : Nat) (hq : ws[q]? = some (a, .inr (3, fs))) (hl : 4 < fs.length) (ws' : va_W) (he : ws.set q (a, .inr (3, fs.set 4 v)) = ws') (K : J k ws' c n (pc + 3) lv st) : J k ws c n pc lv (v :: .ref a :: st) := j_putf F hw (C := RX2) (T := TX2) (N := 15) 4 inU_X2 tyX2 tyX2_ok nmX2 rfl (by decide) uf_X2_24 (fun _ h => h) rfl (by decide +kernel) hd hn hf q hq hl ws' he K
theorem uf_X2_27 : Cond.fieldLink RX2 27 "HelpDesk$Ticket" "answerAge" "I" ∈ Uw := Uw_of (i := 525) (by decide +kernel) (by decide +kernel)
theorem pf_X2_27 {k : Kx} {cc : ByteArray} {R : Room} {nL : Nat} {ws : va_W} {c n pc : Nat} {lv : List (Option Value)} {st : List Value} {a : Nat} {fs : List Value} {v : Value} (F : Fx k cc RX2 R nL) (hw : kw k = true) (hd : decode cc pc = .ok (.putfield 27, 3)) (hn : narrow (.int) v = v) (hf : fits (.int) v = true) (q : Nat) (hq : ws[q]? = some (a, .inr (3, fs))) (hl : 7 < fs.length) (ws' : va_W) (he : ws.set q (a, .inr (3, fs.set 7 v)) = ws') (K : J k ws' c n (pc + 3) lv st) : J k ws c n pc lv (v :: .ref a :: st) := j_putf F hw (C := RX2) (T := TX2) (N := 15) 7 inU_X2 tyX2 tyX2_ok nmX2 rfl (by decide) uf_X2_27 (fun _ h => h) rfl (by decide +kernel) hd hn hf q hq hl ws' he K
theorem uf_X2_30 : Cond.fieldLink RX2 30 "HelpDesk$Ticket" "customerSet" "I" ∈ Uw := Uw_of (i := 530) (by decide +kernel) (by decide +kernel)
theorem pf_X2_30 {k : Kx} {cc : ByteArray} {R : Room} {nL : Nat} {ws : va_W} {c n pc : Nat} {lv : List (Option Value)} {st : List Value} {a : Nat} {fs : List Value} {v : Value} (F : Fx k cc RX2 R nL) (hw : kw k = true) (hd : decode cc pc = .ok (.putfield 30, 3)) (hn : narrow (.int) v = v) (hf : fits (.int) v = true) (q : Nat) (hq : ws[q]? = some (a, .inr (3, fs))) (hl : 11 < fs.length) (ws' : va_W) (he : ws.set q (a, .inr (3, fs.set 11 v)) = ws') (K : J k ws' c n (pc + 3) lv st) : J k ws c n pc lv (v :: .ref a :: st) := j_putf F hw (C := RX2) (T := TX2) (N := 15) 11 inU_X2 tyX2 tyX2_ok nmX2 rfl (by decide) uf_X2_30 (fun _ h => h) rfl (by decide +kernel) hd hn hf q hq hl ws' he K
theorem um_X3_1 : Cond.methodLink RX3 1 objectInit ∈ Uw := Uw_of (i := 42) (by decide +kernel) (by decide +kernel)
theorem ul_X3_7 : Cond.classLink RX3 7 RX1 ∈ Uw := Uw_of (i := 45) (by decide +kernel) (by decide +kernel)
theorem um_X3_9 : Cond.methodLink RX3 9 yX1_init ∈ Uw := Uw_of (i := 47) (by decide +kernel) (by decide +kernel)
theorem uf_X3_10 : Cond.fieldLink RX3 10 "HelpDesk" "hours" "LHelpDesk$Hours;" ∈ Uw := Uw_of (i := 87) (by decide +kernel) (by decide +kernel)
theorem gf_X3_10 {k : Kx} {cc : ByteArray} {R : Room} {nL : Nat} {ws : va_W} {c n pc : Nat} {lv : List (Option Value)} {st : List Value} {a : Nat} {fs : List Value} {v : Value} (F : Fx k cc RX3 R nL) (hd : decode cc pc = .ok (.getfield 10, 3)) (q : Nat) (hq : ws[q]? = some (a, .inr (4, fs))) (hv : fs[0]? = some v) (K : J k ws c n (pc + 3) lv (v :: st)) : J k ws c n pc lv (.ref a :: st) := j_getf F (C := RX3) (T := TX3) (N := 6) 0 inU_X3 rfl (by decide) uf_X3_10 (fun _ h => h) hd q hq hv K
theorem pf_X3_10 {k : Kx} {cc : ByteArray} {R : Room} {nL : Nat} {ws : va_W} {c n pc : Nat} {lv : List (Option Value)} {st : List Value} {a : Nat} {fs : List Value} {v : Value} (F : Fx k cc RX3 R nL) (hw : kw k = true) (hin : (kmeth k).name = "<init>") (hd : decode cc pc = .ok (.putfield 10, 3)) (hn : narrow (.object "HelpDesk$Hours") v = v) (hf : fits (.object "HelpDesk$Hours") v = true) (q : Nat) (hq : ws[q]? = some (a, .inr (4, fs))) (hl : 0 < fs.length) (ws' : va_W) (he : ws.set q (a, .inr (4, fs.set 0 v)) = ws') (K : J k ws' c n (pc + 3) lv st) : J k ws c n pc lv (v :: .ref a :: st) := j_putfF F hw hin (C := RX3) (T := TX3) (N := 6) 0 inU_X3 tyX3 tyX3_ok nmX3 rfl (by decide) uf_X3_10 (fun _ h => h) rfl rfl (by decide +kernel) hd hn hf q hq hl ws' he K
theorem uf_X3_16 : Cond.fieldLink RX3 16 "HelpDesk" "answerTargets" "[I" ∈ Uw := Uw_of (i := 88) (by decide +kernel) (by decide +kernel)
theorem gf_X3_16 {k : Kx} {cc : ByteArray} {R : Room} {nL : Nat} {ws : va_W} {c n pc : Nat} {lv : List (Option Value)} {st : List Value} {a : Nat} {fs : List Value} {v : Value} (F : Fx k cc RX3 R nL) (hd : decode cc pc = .ok (.getfield 16, 3)) (q : Nat) (hq : ws[q]? = some (a, .inr (4, fs))) (hv : fs[1]? = some v) (K : J k ws c n (pc + 3) lv (v :: st)) : J k ws c n pc lv (.ref a :: st) := j_getf F (C := RX3) (T := TX3) (N := 6) 1 inU_X3 rfl (by decide) uf_X3_16 (fun _ h => h) hd q hq hv K
theorem pf_X3_16 {k : Kx} {cc : ByteArray} {R : Room} {nL : Nat} {ws : va_W} {c n pc : Nat} {lv : List (Option Value)} {st : List Value} {a : Nat} {fs : List Value} {v : Value} (F : Fx k cc RX3 R nL) (hw : kw k = true) (hin : (kmeth k).name = "<init>") (hd : decode cc pc = .ok (.putfield 16, 3)) (hn : narrow (.array .int) v = v) (hf : fits (.array .int) v = true) (q : Nat) (hq : ws[q]? = some (a, .inr (4, fs))) (hl : 1 < fs.length) (ws' : va_W) (he : ws.set q (a, .inr (4, fs.set 1 v)) = ws') (K : J k ws' c n (pc + 3) lv st) : J k ws c n pc lv (v :: .ref a :: st) := j_putfF F hw hin (C := RX3) (T := TX3) (N := 6) 1 inU_X3 tyX3 tyX3_ok nmX3 rfl (by decide) uf_X3_16 (fun _ h => h) rfl rfl (by decide +kernel) hd hn hf q hq hl ws' he K
theorem uf_X3_20 : Cond.fieldLink RX3 20 "HelpDesk" "solutionTargets" "[I" ∈ Uw := Uw_of (i := 89) (by decide +kernel) (by decide +kernel)
theorem gf_X3_20 {k : Kx} {cc : ByteArray} {R : Room} {nL : Nat} {ws : va_W} {c n pc : Nat} {lv : List (Option Value)} {st : List Value} {a : Nat} {fs : List Value} {v : Value} (F : Fx k cc RX3 R nL) (hd : decode cc pc = .ok (.getfield 20, 3)) (q : Nat) (hq : ws[q]? = some (a, .inr (4, fs))) (hv : fs[2]? = some v) (K : J k ws c n (pc + 3) lv (v :: st)) : J k ws c n pc lv (.ref a :: st) := j_getf F (C := RX3) (T := TX3) (N := 6) 2 inU_X3 rfl (by decide) uf_X3_20 (fun _ h => h) hd q hq hv K
theorem pf_X3_20 {k : Kx} {cc : ByteArray} {R : Room} {nL : Nat} {ws : va_W} {c n pc : Nat} {lv : List (Option Value)} {st : List Value} {a : Nat} {fs : List Value} {v : Value} (F : Fx k cc RX3 R nL) (hw : kw k = true) (hin : (kmeth k).name = "<init>") (hd : decode cc pc = .ok (.putfield 20, 3)) (hn : narrow (.array .int) v = v) (hf : fits (.array .int) v = true) (q : Nat) (hq : ws[q]? = some (a, .inr (4, fs))) (hl : 2 < fs.length) (ws' : va_W) (he : ws.set q (a, .inr (4, fs.set 2 v)) = ws') (K : J k ws' c n (pc + 3) lv st) : J k ws c n pc lv (v :: .ref a :: st) := j_putfF F hw hin (C := RX3) (T := TX3) (N := 6) 2 inU_X3 tyX3 tyX3_ok nmX3 rfl (by decide) uf_X3_20 (fun _ h => h) rfl rfl (by decide +kernel) hd hn hf q hq hl ws' he K
theorem ul_X3_23 : Cond.classLink RX3 23 RJx4a65c ∈ Uw := Uw_of (i := 60) (by decide +kernel) (by decide +kernel)
theorem um_X3_25 : Cond.methodLink RX3 25 yJx4a65c_init_da8c8 ∈ Uw := Uw_of (i := 62) (by decide +kernel) (by decide +kernel)
theorem uf_X3_26 : Cond.fieldLink RX3 26 "HelpDesk" "agents" "Ljava/util/ArrayList;" ∈ Uw := Uw_of (i := 90) (by decide +kernel) (by decide +kernel)
theorem gf_X3_26 {k : Kx} {cc : ByteArray} {R : Room} {nL : Nat} {ws : va_W} {c n pc : Nat} {lv : List (Option Value)} {st : List Value} {a : Nat} {fs : List Value} {v : Value} (F : Fx k cc RX3 R nL) (hd : decode cc pc = .ok (.getfield 26, 3)) (q : Nat) (hq : ws[q]? = some (a, .inr (4, fs))) (hv : fs[3]? = some v) (K : J k ws c n (pc + 3) lv (v :: st)) : J k ws c n pc lv (.ref a :: st) := j_getf F (C := RX3) (T := TX3) (N := 6) 3 inU_X3 rfl (by decide) uf_X3_26 (fun _ h => h) hd q hq hv K
theorem pf_X3_26 {k : Kx} {cc : ByteArray} {R : Room} {nL : Nat} {ws : va_W} {c n pc : Nat} {lv : List (Option Value)} {st : List Value} {a : Nat} {fs : List Value} {v : Value} (F : Fx k cc RX3 R nL) (hw : kw k = true) (hin : (kmeth k).name = "<init>") (hd : decode cc pc = .ok (.putfield 26, 3)) (hn : narrow (.object "java/util/ArrayList") v = v) (hf : fits (.object "java/util/ArrayList") v = true) (q : Nat) (hq : ws[q]? = some (a, .inr (4, fs))) (hl : 3 < fs.length) (ws' : va_W) (he : ws.set q (a, .inr (4, fs.set 3 v)) = ws') (K : J k ws' c n (pc + 3) lv st) : J k ws c n pc lv (v :: .ref a :: st) := j_putfF F hw hin (C := RX3) (T := TX3) (N := 6) 3 inU_X3 tyX3 tyX3_ok nmX3 rfl (by decide) uf_X3_26 (fun _ h => h) rfl rfl (by decide +kernel) hd hn hf q hq hl ws' he K
theorem uf_X3_30 : Cond.fieldLink RX3 30 "HelpDesk" "tickets" "Ljava/util/ArrayList;" ∈ Uw := Uw_of (i := 91) (by decide +kernel) (by decide +kernel)
theorem gf_X3_30 {k : Kx} {cc : ByteArray} {R : Room} {nL : Nat} {ws : va_W} {c n pc : Nat} {lv : List (Option Value)} {st : List Value} {a : Nat} {fs : List Value} {v : Value} (F : Fx k cc RX3 R nL) (hd : decode cc pc = .ok (.getfield 30, 3)) (q : Nat) (hq : ws[q]? = some (a, .inr (4, fs))) (hv : fs[4]? = some v) (K : J k ws c n (pc + 3) lv (v :: st)) : J k ws c n pc lv (.ref a :: st) := j_getf F (C := RX3) (T := TX3) (N := 6) 4 inU_X3 rfl (by decide) uf_X3_30 (fun _ h => h) hd q hq hv K
theorem pf_X3_30 {k : Kx} {cc : ByteArray} {R : Room} {nL : Nat} {ws : va_W} {c n pc : Nat} {lv : List (Option Value)} {st : List Value} {a : Nat} {fs : List Value} {v : Value} (F : Fx k cc RX3 R nL) (hw : kw k = true) (hin : (kmeth k).name = "<init>") (hd : decode cc pc = .ok (.putfield 30, 3)) (hn : narrow (.object "java/util/ArrayList") v = v) (hf : fits (.object "java/util/ArrayList") v = true) (q : Nat) (hq : ws[q]? = some (a, .inr (4, fs))) (hl : 4 < fs.length) (ws' : va_W) (he : ws.set q (a, .inr (4, fs.set 4 v)) = ws') (K : J k ws' c n (pc + 3) lv st) : J k ws c n pc lv (v :: .ref a :: st) := j_putfF F hw hin (C := RX3) (T := TX3) (N := 6) 4 inU_X3 tyX3 tyX3_ok nmX3 rfl (by decide) uf_X3_30 (fun _ h => h) rfl rfl (by decide +kernel) hd hn hf q hq hl ws' he K
theorem uf_X3_33 : Cond.fieldLink RX3 33 "HelpDesk" "minute" "I" ∈ Uw := Uw_of (i := 92) (by decide +kernel) (by decide +kernel)
theorem gf_X3_33 {k : Kx} {cc : ByteArray} {R : Room} {nL : Nat} {ws : va_W} {c n pc : Nat} {lv : List (Option Value)} {st : List Value} {a : Nat} {fs : List Value} {v : Value} (F : Fx k cc RX3 R nL) (hd : decode cc pc = .ok (.getfield 33, 3)) (q : Nat) (hq : ws[q]? = some (a, .inr (4, fs))) (hv : fs[5]? = some v) (K : J k ws c n (pc + 3) lv (v :: st)) : J k ws c n pc lv (.ref a :: st) := j_getf F (C := RX3) (T := TX3) (N := 6) 5 inU_X3 rfl (by decide) uf_X3_33 (fun _ h => h) hd q hq hv K
theorem pf_X3_33 {k : Kx} {cc : ByteArray} {R : Room} {nL : Nat} {ws : va_W} {c n pc : Nat} {lv : List (Option Value)} {st : List Value} {a : Nat} {fs : List Value} {v : Value} (F : Fx k cc RX3 R nL) (hw : kw k = true) (hd : decode cc pc = .ok (.putfield 33, 3)) (hn : narrow (.int) v = v) (hf : fits (.int) v = true) (q : Nat) (hq : ws[q]? = some (a, .inr (4, fs))) (hl : 5 < fs.length) (ws' : va_W) (he : ws.set q (a, .inr (4, fs.set 5 v)) = ws') (K : J k ws' c n (pc + 3) lv st) : J k ws c n pc lv (v :: .ref a :: st) := j_putf F hw (C := RX3) (T := TX3) (N := 6) 5 inU_X3 tyX3 tyX3_ok nmX3 rfl (by decide) uf_X3_33 (fun _ h => h) rfl (by decide +kernel) hd hn hf q hq hl ws' he K
theorem um_X3_37 : Cond.methodLink RX3 37 yX3_isSpanOfDay ∈ Uw := Uw_of (i := 395) (by decide +kernel) (by decide +kernel)
theorem ul_X3_41 : Cond.classLink RX3 41 "java/lang/IllegalArgumentException" ∈ Uw := Uw_of (i := 115) (by decide +kernel) (by decide +kernel)
theorem um_X3_45 : Cond.methodLink RX3 45 (⟨"java/lang/IllegalArgumentException", "<init>", "(Ljava/lang/String;)V"⟩ : MethodName) ∈ Uw := Uw_of (i := 157) (by decide +kernel) (by decide +kernel)
theorem uf_X3_48 : Cond.fieldLink RX3 48 "HelpDesk$Hours" "opening" "I" ∈ Uw := Uw_of (i := 52) (by decide +kernel) (by decide +kernel)
theorem gf_X3_48 {k : Kx} {cc : ByteArray} {R : Room} {nL : Nat} {ws : va_W} {c n pc : Nat} {lv : List (Option Value)} {st : List Value} {a : Nat} {fs : List Value} {v : Value} (F : Fx k cc RX3 R nL) (hd : decode cc pc = .ok (.getfield 48, 3)) (q : Nat) (hq : ws[q]? = some (a, .inr (2, fs))) (hv : fs[0]? = some v) (K : J k ws c n (pc + 3) lv (v :: st)) : J k ws c n pc lv (.ref a :: st) := j_getf F (C := RX1) (T := TX1) (N := 2) 0 inU_X1 rfl (by decide) uf_X3_48 (fun _ h => h) hd q hq hv K
theorem pf_X3_48 {k : Kx} {cc : ByteArray} {R : Room} {nL : Nat} {ws : va_W} {c n pc : Nat} {lv : List (Option Value)} {st : List Value} {a : Nat} {fs : List Value} {v : Value} (F : Fx k cc RX3 R nL) (hw : kw k = true) (hd : decode cc pc = .ok (.putfield 48, 3)) (hn : narrow (.int) v = v) (hf : fits (.int) v = true) (q : Nat) (hq : ws[q]? = some (a, .inr (2, fs))) (hl : 0 < fs.length) (ws' : va_W) (he : ws.set q (a, .inr (2, fs.set 0 v)) = ws') (K : J k ws' c n (pc + 3) lv st) : J k ws c n pc lv (v :: .ref a :: st) := j_putf F hw (C := RX1) (T := TX1) (N := 2) 0 inU_X1 tyX1 tyX1_ok nmX1 rfl (by decide) uf_X3_48 (fun _ h => h) rfl (by decide +kernel) hd hn hf q hq hl ws' he K
theorem uf_X3_51 : Cond.fieldLink RX3 51 "HelpDesk$Hours" "closing" "I" ∈ Uw := Uw_of (i := 54) (by decide +kernel) (by decide +kernel)
theorem gf_X3_51 {k : Kx} {cc : ByteArray} {R : Room} {nL : Nat} {ws : va_W} {c n pc : Nat} {lv : List (Option Value)} {st : List Value} {a : Nat} {fs : List Value} {v : Value} (F : Fx k cc RX3 R nL) (hd : decode cc pc = .ok (.getfield 51, 3)) (q : Nat) (hq : ws[q]? = some (a, .inr (2, fs))) (hv : fs[1]? = some v) (K : J k ws c n (pc + 3) lv (v :: st)) : J k ws c n pc lv (.ref a :: st) := j_getf F (C := RX1) (T := TX1) (N := 2) 1 inU_X1 rfl (by decide) uf_X3_51 (fun _ h => h) hd q hq hv K
theorem pf_X3_51 {k : Kx} {cc : ByteArray} {R : Room} {nL : Nat} {ws : va_W} {c n pc : Nat} {lv : List (Option Value)} {st : List Value} {a : Nat} {fs : List Value} {v : Value} (F : Fx k cc RX3 R nL) (hw : kw k = true) (hd : decode cc pc = .ok (.putfield 51, 3)) (hn : narrow (.int) v = v) (hf : fits (.int) v = true) (q : Nat) (hq : ws[q]? = some (a, .inr (2, fs))) (hl : 1 < fs.length) (ws' : va_W) (he : ws.set q (a, .inr (2, fs.set 1 v)) = ws') (K : J k ws' c n (pc + 3) lv st) : J k ws c n pc lv (v :: .ref a :: st) := j_putf F hw (C := RX1) (T := TX1) (N := 2) 1 inU_X1 tyX1 tyX1_ok nmX1 rfl (by decide) uf_X3_51 (fun _ h => h) rfl (by decide +kernel) hd hn hf q hq hl ws' he K
theorem um_X3_54 : Cond.methodLink RX3 54 yX3_isPriority ∈ Uw := Uw_of (i := 403) (by decide +kernel) (by decide +kernel)
theorem ul_X3_58 : Cond.classLink RX3 58 "java/lang/IndexOutOfBoundsException" ∈ Uw := Uw_of (i := 212) (by decide +kernel) (by decide +kernel)
theorem um_X3_62 : Cond.methodLink RX3 62 (⟨"java/lang/IndexOutOfBoundsException", "<init>", "(Ljava/lang/String;)V"⟩ : MethodName) ∈ Uw := Uw_of (i := 222) (by decide +kernel) (by decide +kernel)
theorem uc_X3_65 : Cond.constant RX3 65 (99999) ∈ Uw := Uw_of (i := 114) (by decide +kernel) (by decide +kernel)
theorem um_X3_68 : Cond.methodLink RX3 68 yX1_minutesBetween ∈ Uw := Uw_of (i := 183) (by decide +kernel) (by decide +kernel)
theorem um_X3_72 : Cond.methodLink RX3 72 yX3_isSetOfSkills ∈ Uw := Uw_of (i := 412) (by decide +kernel) (by decide +kernel)
theorem um_X3_77 : Cond.methodLink RX3 77 yJx4a65c_size_8abf5 ∈ Uw := Uw_of (i := 208) (by decide +kernel) (by decide +kernel)
theorem ul_X3_81 : Cond.classLink RX3 81 "java/lang/IllegalStateException" ∈ Uw := Uw_of (i := 266) (by decide +kernel) (by decide +kernel)
theorem um_X3_85 : Cond.methodLink RX3 85 (⟨"java/lang/IllegalStateException", "<init>", "(Ljava/lang/String;)V"⟩ : MethodName) ∈ Uw := Uw_of (i := 276) (by decide +kernel) (by decide +kernel)
theorem ul_X3_86 : Cond.classLink RX3 86 RX0 ∈ Uw := Uw_of (i := 242) (by decide +kernel) (by decide +kernel)
theorem um_X3_88 : Cond.methodLink RX3 88 yX0_init ∈ Uw := Uw_of (i := 418) (by decide +kernel) (by decide +kernel)
theorem um_X3_91 : Cond.methodLink RX3 91 yJx4a65c_add_9ea2d ∈ Uw := Uw_of (i := 448) (by decide +kernel) (by decide +kernel)
theorem uf_X3_95 : Cond.fieldLink RX3 95 "HelpDesk$Agent" "number" "I" ∈ Uw := Uw_of (i := 423) (by decide +kernel) (by decide +kernel)
theorem gf_X3_95 {k : Kx} {cc : ByteArray} {R : Room} {nL : Nat} {ws : va_W} {c n pc : Nat} {lv : List (Option Value)} {st : List Value} {a : Nat} {fs : List Value} {v : Value} (F : Fx k cc RX3 R nL) (hd : decode cc pc = .ok (.getfield 95, 3)) (q : Nat) (hq : ws[q]? = some (a, .inr (1, fs))) (hv : fs[0]? = some v) (K : J k ws c n (pc + 3) lv (v :: st)) : J k ws c n pc lv (.ref a :: st) := j_getf F (C := RX0) (T := TX0) (N := 8) 0 inU_X0 rfl (by decide) uf_X3_95 (fun _ h => h) hd q hq hv K
theorem um_X3_98 : Cond.methodLink RX3 98 yX3_agentAt ∈ Uw := Uw_of (i := 204) (by decide +kernel) (by decide +kernel)
theorem uf_X3_107 : Cond.fieldLink RX3 107 "HelpDesk$Agent" "held" "LHelpDesk$Ticket;" ∈ Uw := Uw_of (i := 428) (by decide +kernel) (by decide +kernel)
theorem gf_X3_107 {k : Kx} {cc : ByteArray} {R : Room} {nL : Nat} {ws : va_W} {c n pc : Nat} {lv : List (Option Value)} {st : List Value} {a : Nat} {fs : List Value} {v : Value} (F : Fx k cc RX3 R nL) (hd : decode cc pc = .ok (.getfield 107, 3)) (q : Nat) (hq : ws[q]? = some (a, .inr (1, fs))) (hv : fs[5]? = some v) (K : J k ws c n (pc + 3) lv (v :: st)) : J k ws c n pc lv (.ref a :: st) := j_getf F (C := RX0) (T := TX0) (N := 8) 5 inU_X0 rfl (by decide) uf_X3_107 (fun _ h => h) hd q hq hv K
theorem pf_X3_107 {k : Kx} {cc : ByteArray} {R : Room} {nL : Nat} {ws : va_W} {c n pc : Nat} {lv : List (Option Value)} {st : List Value} {a : Nat} {fs : List Value} {v : Value} (F : Fx k cc RX3 R nL) (hw : kw k = true) (hd : decode cc pc = .ok (.putfield 107, 3)) (hn : narrow (.object "HelpDesk$Ticket") v = v) (hf : fits (.object "HelpDesk$Ticket") v = true) (q : Nat) (hq : ws[q]? = some (a, .inr (1, fs))) (hl : 5 < fs.length) (ws' : va_W) (he : ws.set q (a, .inr (1, fs.set 5 v)) = ws') (K : J k ws' c n (pc + 3) lv st) : J k ws c n pc lv (v :: .ref a :: st) := j_putf F hw (C := RX0) (T := TX0) (N := 8) 5 inU_X0 tyX0 tyX0_ok nmX0 rfl (by decide) uf_X3_107 (fun _ h => h) rfl (by decide +kernel) hd hn hf q hq hl ws' he K
theorem uf_X3_111 : Cond.fieldLink RX3 111 "HelpDesk$Ticket" "skill" "I" ∈ Uw := Uw_of (i := 516) (by decide +kernel) (by decide +kernel)
theorem gf_X3_111 {k : Kx} {cc : ByteArray} {R : Room} {nL : Nat} {ws : va_W} {c n pc : Nat} {lv : List (Option Value)} {st : List Value} {a : Nat} {fs : List Value} {v : Value} (F : Fx k cc RX3 R nL) (hd : decode cc pc = .ok (.getfield 111, 3)) (q : Nat) (hq : ws[q]? = some (a, .inr (3, fs))) (hv : fs[1]? = some v) (K : J k ws c n (pc + 3) lv (v :: st)) : J k ws c n pc lv (.ref a :: st) := j_getf F (C := RX2) (T := TX2) (N := 15) 1 inU_X2 rfl (by decide) uf_X3_111 (fun _ h => h) hd q hq hv K
theorem ul_X3_112 : Cond.classLink RX3 112 RX2 ∈ Uw := Uw_of (i := 265) (by decide +kernel) (by decide +kernel)
theorem um_X3_116 : Cond.methodLink RX3 116 yX0_hasSkill ∈ Uw := Uw_of (i := 344) (by decide +kernel) (by decide +kernel)
theorem um_X3_119 : Cond.methodLink RX3 119 yX3_handBack ∈ Uw := Uw_of (i := 333) (by decide +kernel) (by decide +kernel)
theorem um_X3_125 : Cond.methodLink RX3 125 yX3_toldOfAgent ∈ Uw := Uw_of (i := 244) (by decide +kernel) (by decide +kernel)
theorem um_X3_129 : Cond.methodLink RX3 129 yX3_firstByLiking ∈ Uw := Uw_of (i := 340) (by decide +kernel) (by decide +kernel)
theorem um_X3_133 : Cond.methodLink RX3 133 yX3_numberOfTicket ∈ Uw := Uw_of (i := 248) (by decide +kernel) (by decide +kernel)
theorem um_X3_141 : Cond.methodLink RX3 141 yX2_init ∈ Uw := Uw_of (i := 509) (by decide +kernel) (by decide +kernel)
theorem uf_X3_142 : Cond.fieldLink RX3 142 "HelpDesk$Ticket" "number" "I" ∈ Uw := Uw_of (i := 514) (by decide +kernel) (by decide +kernel)
theorem gf_X3_142 {k : Kx} {cc : ByteArray} {R : Room} {nL : Nat} {ws : va_W} {c n pc : Nat} {lv : List (Option Value)} {st : List Value} {a : Nat} {fs : List Value} {v : Value} (F : Fx k cc RX3 R nL) (hd : decode cc pc = .ok (.getfield 142, 3)) (q : Nat) (hq : ws[q]? = some (a, .inr (3, fs))) (hv : fs[0]? = some v) (K : J k ws c n (pc + 3) lv (v :: st)) : J k ws c n pc lv (.ref a :: st) := j_getf F (C := RX2) (T := TX2) (N := 15) 0 inU_X2 rfl (by decide) uf_X3_142 (fun _ h => h) hd q hq hv K
theorem um_X3_143 : Cond.methodLink RX3 143 yX3_ticketAt ∈ Uw := Uw_of (i := 260) (by decide +kernel) (by decide +kernel)
theorem uf_X3_147 : Cond.fieldLink RX3 147 "HelpDesk$Ticket" "state" "I" ∈ Uw := Uw_of (i := 522) (by decide +kernel) (by decide +kernel)
theorem gf_X3_147 {k : Kx} {cc : ByteArray} {R : Room} {nL : Nat} {ws : va_W} {c n pc : Nat} {lv : List (Option Value)} {st : List Value} {a : Nat} {fs : List Value} {v : Value} (F : Fx k cc RX3 R nL) (hd : decode cc pc = .ok (.getfield 147, 3)) (q : Nat) (hq : ws[q]? = some (a, .inr (3, fs))) (hv : fs[4]? = some v) (K : J k ws c n (pc + 3) lv (v :: st)) : J k ws c n pc lv (.ref a :: st) := j_getf F (C := RX2) (T := TX2) (N := 15) 4 inU_X2 rfl (by decide) uf_X3_147 (fun _ h => h) hd q hq hv K
theorem pf_X3_147 {k : Kx} {cc : ByteArray} {R : Room} {nL : Nat} {ws : va_W} {c n pc : Nat} {lv : List (Option Value)} {st : List Value} {a : Nat} {fs : List Value} {v : Value} (F : Fx k cc RX3 R nL) (hw : kw k = true) (hd : decode cc pc = .ok (.putfield 147, 3)) (hn : narrow (.int) v = v) (hf : fits (.int) v = true) (q : Nat) (hq : ws[q]? = some (a, .inr (3, fs))) (hl : 4 < fs.length) (ws' : va_W) (he : ws.set q (a, .inr (3, fs.set 4 v)) = ws') (K : J k ws' c n (pc + 3) lv st) : J k ws c n pc lv (v :: .ref a :: st) := j_putf F hw (C := RX2) (T := TX2) (N := 15) 4 inU_X2 tyX2 tyX2_ok nmX2 rfl (by decide) uf_X3_147 (fun _ h => h) rfl (by decide +kernel) hd hn hf q hq hl ws' he K
theorem uf_X3_152 : Cond.fieldLink RX3 152 "HelpDesk$Ticket" "priority" "I" ∈ Uw := Uw_of (i := 518) (by decide +kernel) (by decide +kernel)
theorem gf_X3_152 {k : Kx} {cc : ByteArray} {R : Room} {nL : Nat} {ws : va_W} {c n pc : Nat} {lv : List (Option Value)} {st : List Value} {a : Nat} {fs : List Value} {v : Value} (F : Fx k cc RX3 R nL) (hd : decode cc pc = .ok (.getfield 152, 3)) (q : Nat) (hq : ws[q]? = some (a, .inr (3, fs))) (hv : fs[2]? = some v) (K : J k ws c n (pc + 3) lv (v :: st)) : J k ws c n pc lv (.ref a :: st) := j_getf F (C := RX2) (T := TX2) (N := 15) 2 inU_X2 rfl (by decide) uf_X3_152 (fun _ h => h) hd q hq hv K
theorem pf_X3_152 {k : Kx} {cc : ByteArray} {R : Room} {nL : Nat} {ws : va_W} {c n pc : Nat} {lv : List (Option Value)} {st : List Value} {a : Nat} {fs : List Value} {v : Value} (F : Fx k cc RX3 R nL) (hw : kw k = true) (hd : decode cc pc = .ok (.putfield 152, 3)) (hn : narrow (.int) v = v) (hf : fits (.int) v = true) (q : Nat) (hq : ws[q]? = some (a, .inr (3, fs))) (hl : 2 < fs.length) (ws' : va_W) (he : ws.set q (a, .inr (3, fs.set 2 v)) = ws') (K : J k ws' c n (pc + 3) lv st) : J k ws c n pc lv (v :: .ref a :: st) := j_putf F hw (C := RX2) (T := TX2) (N := 15) 2 inU_X2 tyX2 tyX2_ok nmX2 rfl (by decide) uf_X3_152 (fun _ h => h) rfl (by decide +kernel) hd hn hf q hq hl ws' he K
theorem um_X3_157 : Cond.methodLink RX3 157 yX3_takeFromHolder ∈ Uw := Uw_of (i := 282) (by decide +kernel) (by decide +kernel)
theorem uf_X3_160 : Cond.fieldLink RX3 160 "HelpDesk$Ticket" "pausedAt" "I" ∈ Uw := Uw_of (i := 528) (by decide +kernel) (by decide +kernel)
theorem gf_X3_160 {k : Kx} {cc : ByteArray} {R : Room} {nL : Nat} {ws : va_W} {c n pc : Nat} {lv : List (Option Value)} {st : List Value} {a : Nat} {fs : List Value} {v : Value} (F : Fx k cc RX3 R nL) (hd : decode cc pc = .ok (.getfield 160, 3)) (q : Nat) (hq : ws[q]? = some (a, .inr (3, fs))) (hv : fs[9]? = some v) (K : J k ws c n (pc + 3) lv (v :: st)) : J k ws c n pc lv (.ref a :: st) := j_getf F (C := RX2) (T := TX2) (N := 15) 9 inU_X2 rfl (by decide) uf_X3_160 (fun _ h => h) hd q hq hv K
theorem pf_X3_160 {k : Kx} {cc : ByteArray} {R : Room} {nL : Nat} {ws : va_W} {c n pc : Nat} {lv : List (Option Value)} {st : List Value} {a : Nat} {fs : List Value} {v : Value} (F : Fx k cc RX3 R nL) (hw : kw k = true) (hd : decode cc pc = .ok (.putfield 160, 3)) (hn : narrow (.int) v = v) (hf : fits (.int) v = true) (q : Nat) (hq : ws[q]? = some (a, .inr (3, fs))) (hl : 9 < fs.length) (ws' : va_W) (he : ws.set q (a, .inr (3, fs.set 9 v)) = ws') (K : J k ws' c n (pc + 3) lv st) : J k ws c n pc lv (v :: .ref a :: st) := j_putf F hw (C := RX2) (T := TX2) (N := 15) 9 inU_X2 tyX2 tyX2_ok nmX2 rfl (by decide) uf_X3_160 (fun _ h => h) rfl (by decide +kernel) hd hn hf q hq hl ws' he K
theorem uf_X3_163 : Cond.fieldLink RX3 163 "HelpDesk$Ticket" "effort" "I" ∈ Uw := Uw_of (i := 520) (by decide +kernel) (by decide +kernel)
theorem gf_X3_163 {k : Kx} {cc : ByteArray} {R : Room} {nL : Nat} {ws : va_W} {c n pc : Nat} {lv : List (Option Value)} {st : List Value} {a : Nat} {fs : List Value} {v : Value} (F : Fx k cc RX3 R nL) (hd : decode cc pc = .ok (.getfield 163, 3)) (q : Nat) (hq : ws[q]? = some (a, .inr (3, fs))) (hv : fs[3]? = some v) (K : J k ws c n (pc + 3) lv (v :: st)) : J k ws c n pc lv (.ref a :: st) := j_getf F (C := RX2) (T := TX2) (N := 15) 3 inU_X2 rfl (by decide) uf_X3_163 (fun _ h => h) hd q hq hv K
theorem pf_X3_163 {k : Kx} {cc : ByteArray} {R : Room} {nL : Nat} {ws : va_W} {c n pc : Nat} {lv : List (Option Value)} {st : List Value} {a : Nat} {fs : List Value} {v : Value} (F : Fx k cc RX3 R nL) (hw : kw k = true) (hd : decode cc pc = .ok (.putfield 163, 3)) (hn : narrow (.int) v = v) (hf : fits (.int) v = true) (q : Nat) (hq : ws[q]? = some (a, .inr (3, fs))) (hl : 3 < fs.length) (ws' : va_W) (he : ws.set q (a, .inr (3, fs.set 3 v)) = ws') (K : J k ws' c n (pc + 3) lv st) : J k ws c n pc lv (v :: .ref a :: st) := j_putf F hw (C := RX2) (T := TX2) (N := 15) 3 inU_X2 tyX2 tyX2_ok nmX2 rfl (by decide) uf_X3_163 (fun _ h => h) rfl (by decide +kernel) hd hn hf q hq hl ws' he K
theorem uf_X3_166 : Cond.fieldLink RX3 166 "HelpDesk$Ticket" "done" "I" ∈ Uw := Uw_of (i := 524) (by decide +kernel) (by decide +kernel)
theorem gf_X3_166 {k : Kx} {cc : ByteArray} {R : Room} {nL : Nat} {ws : va_W} {c n pc : Nat} {lv : List (Option Value)} {st : List Value} {a : Nat} {fs : List Value} {v : Value} (F : Fx k cc RX3 R nL) (hd : decode cc pc = .ok (.getfield 166, 3)) (q : Nat) (hq : ws[q]? = some (a, .inr (3, fs))) (hv : fs[6]? = some v) (K : J k ws c n (pc + 3) lv (v :: st)) : J k ws c n pc lv (.ref a :: st) := j_getf F (C := RX2) (T := TX2) (N := 15) 6 inU_X2 rfl (by decide) uf_X3_166 (fun _ h => h) hd q hq hv K
theorem pf_X3_166 {k : Kx} {cc : ByteArray} {R : Room} {nL : Nat} {ws : va_W} {c n pc : Nat} {lv : List (Option Value)} {st : List Value} {a : Nat} {fs : List Value} {v : Value} (F : Fx k cc RX3 R nL) (hw : kw k = true) (hd : decode cc pc = .ok (.putfield 166, 3)) (hn : narrow (.int) v = v) (hf : fits (.int) v = true) (q : Nat) (hq : ws[q]? = some (a, .inr (3, fs))) (hl : 6 < fs.length) (ws' : va_W) (he : ws.set q (a, .inr (3, fs.set 6 v)) = ws') (K : J k ws' c n (pc + 3) lv st) : J k ws c n pc lv (v :: .ref a :: st) := j_putf F hw (C := RX2) (T := TX2) (N := 15) 6 inU_X2 tyX2 tyX2_ok nmX2 rfl (by decide) uf_X3_166 (fun _ h => h) rfl (by decide +kernel) hd hn hf q hq hl ws' he K
theorem um_X3_173 : Cond.methodLink RX3 173 yX2_isOpen ∈ Uw := Uw_of (i := 295) (by decide +kernel) (by decide +kernel)
theorem uf_X3_179 : Cond.fieldLink RX3 179 "HelpDesk$Ticket" "mergedInto" "LHelpDesk$Ticket;" ∈ Uw := Uw_of (i := 534) (by decide +kernel) (by decide +kernel)
theorem pf_X3_179 {k : Kx} {cc : ByteArray} {R : Room} {nL : Nat} {ws : va_W} {c n pc : Nat} {lv : List (Option Value)} {st : List Value} {a : Nat} {fs : List Value} {v : Value} (F : Fx k cc RX3 R nL) (hw : kw k = true) (hd : decode cc pc = .ok (.putfield 179, 3)) (hn : narrow (.object "HelpDesk$Ticket") v = v) (hf : fits (.object "HelpDesk$Ticket") v = true) (q : Nat) (hq : ws[q]? = some (a, .inr (3, fs))) (hl : 14 < fs.length) (ws' : va_W) (he : ws.set q (a, .inr (3, fs.set 14 v)) = ws') (K : J k ws' c n (pc + 3) lv st) : J k ws c n pc lv (v :: .ref a :: st) := j_putf F hw (C := RX2) (T := TX2) (N := 15) 14 inU_X2 tyX2 tyX2_ok nmX2 rfl (by decide) uf_X3_179 (fun _ h => h) rfl (by decide +kernel) hd hn hf q hq hl ws' he K
theorem um_X3_182 : Cond.methodLink RX3 182 Lib.Math.min.name ∈ Uw := Uw_of (i := 300) (by decide +kernel) (by decide +kernel)
theorem uf_X3_187 : Cond.fieldLink RX3 187 "HelpDesk$Ticket" "age" "I" ∈ Uw := Uw_of (i := 523) (by decide +kernel) (by decide +kernel)
theorem gf_X3_187 {k : Kx} {cc : ByteArray} {R : Room} {nL : Nat} {ws : va_W} {c n pc : Nat} {lv : List (Option Value)} {st : List Value} {a : Nat} {fs : List Value} {v : Value} (F : Fx k cc RX3 R nL) (hd : decode cc pc = .ok (.getfield 187, 3)) (q : Nat) (hq : ws[q]? = some (a, .inr (3, fs))) (hv : fs[5]? = some v) (K : J k ws c n (pc + 3) lv (v :: st)) : J k ws c n pc lv (.ref a :: st) := j_getf F (C := RX2) (T := TX2) (N := 15) 5 inU_X2 rfl (by decide) uf_X3_187 (fun _ h => h) hd q hq hv K
theorem pf_X3_187 {k : Kx} {cc : ByteArray} {R : Room} {nL : Nat} {ws : va_W} {c n pc : Nat} {lv : List (Option Value)} {st : List Value} {a : Nat} {fs : List Value} {v : Value} (F : Fx k cc RX3 R nL) (hw : kw k = true) (hd : decode cc pc = .ok (.putfield 187, 3)) (hn : narrow (.int) v = v) (hf : fits (.int) v = true) (q : Nat) (hq : ws[q]? = some (a, .inr (3, fs))) (hl : 5 < fs.length) (ws' : va_W) (he : ws.set q (a, .inr (3, fs.set 5 v)) = ws') (K : J k ws' c n (pc + 3) lv st) : J k ws c n pc lv (v :: .ref a :: st) := j_putf F hw (C := RX2) (T := TX2) (N := 15) 5 inU_X2 tyX2 tyX2_ok nmX2 rfl (by decide) uf_X3_187 (fun _ h => h) rfl (by decide +kernel) hd hn hf q hq hl ws' he K
theorem um_X3_190 : Cond.methodLink RX3 190 Lib.Math.max.name ∈ Uw := Uw_of (i := 301) (by decide +kernel) (by decide +kernel)
theorem uf_X3_193 : Cond.fieldLink RX3 193 "HelpDesk$Ticket" "customerSet" "I" ∈ Uw := Uw_of (i := 531) (by decide +kernel) (by decide +kernel)
theorem gf_X3_193 {k : Kx} {cc : ByteArray} {R : Room} {nL : Nat} {ws : va_W} {c n pc : Nat} {lv : List (Option Value)} {st : List Value} {a : Nat} {fs : List Value} {v : Value} (F : Fx k cc RX3 R nL) (hd : decode cc pc = .ok (.getfield 193, 3)) (q : Nat) (hq : ws[q]? = some (a, .inr (3, fs))) (hv : fs[11]? = some v) (K : J k ws c n (pc + 3) lv (v :: st)) : J k ws c n pc lv (.ref a :: st) := j_getf F (C := RX2) (T := TX2) (N := 15) 11 inU_X2 rfl (by decide) uf_X3_193 (fun _ h => h) hd q hq hv K
theorem pf_X3_193 {k : Kx} {cc : ByteArray} {R : Room} {nL : Nat} {ws : va_W} {c n pc : Nat} {lv : List (Option Value)} {st : List Value} {a : Nat} {fs : List Value} {v : Value} (F : Fx k cc RX3 R nL) (hw : kw k = true) (hd : decode cc pc = .ok (.putfield 193, 3)) (hn : narrow (.int) v = v) (hf : fits (.int) v = true) (q : Nat) (hq : ws[q]? = some (a, .inr (3, fs))) (hl : 11 < fs.length) (ws' : va_W) (he : ws.set q (a, .inr (3, fs.set 11 v)) = ws') (K : J k ws' c n (pc + 3) lv st) : J k ws c n pc lv (v :: .ref a :: st) := j_putf F hw (C := RX2) (T := TX2) (N := 15) 11 inU_X2 tyX2 tyX2_ok nmX2 rfl (by decide) uf_X3_193 (fun _ h => h) rfl (by decide +kernel) hd hn hf q hq hl ws' he K
theorem uf_X3_198 : Cond.fieldLink RX3 198 "HelpDesk$Ticket" "solvedAt" "I" ∈ Uw := Uw_of (i := 529) (by decide +kernel) (by decide +kernel)
theorem gf_X3_198 {k : Kx} {cc : ByteArray} {R : Room} {nL : Nat} {ws : va_W} {c n pc : Nat} {lv : List (Option Value)} {st : List Value} {a : Nat} {fs : List Value} {v : Value} (F : Fx k cc RX3 R nL) (hd : decode cc pc = .ok (.getfield 198, 3)) (q : Nat) (hq : ws[q]? = some (a, .inr (3, fs))) (hv : fs[10]? = some v) (K : J k ws c n (pc + 3) lv (v :: st)) : J k ws c n pc lv (.ref a :: st) := j_getf F (C := RX2) (T := TX2) (N := 15) 10 inU_X2 rfl (by decide) uf_X3_198 (fun _ h => h) hd q hq hv K
theorem pf_X3_198 {k : Kx} {cc : ByteArray} {R : Room} {nL : Nat} {ws : va_W} {c n pc : Nat} {lv : List (Option Value)} {st : List Value} {a : Nat} {fs : List Value} {v : Value} (F : Fx k cc RX3 R nL) (hw : kw k = true) (hd : decode cc pc = .ok (.putfield 198, 3)) (hn : narrow (.int) v = v) (hf : fits (.int) v = true) (q : Nat) (hq : ws[q]? = some (a, .inr (3, fs))) (hl : 10 < fs.length) (ws' : va_W) (he : ws.set q (a, .inr (3, fs.set 10 v)) = ws') (K : J k ws' c n (pc + 3) lv st) : J k ws c n pc lv (v :: .ref a :: st) := j_putf F hw (C := RX2) (T := TX2) (N := 15) 10 inU_X2 tyX2 tyX2_ok nmX2 rfl (by decide) uf_X3_198 (fun _ h => h) rfl (by decide +kernel) hd hn hf q hq hl ws' he K
theorem uf_X3_203 : Cond.fieldLink RX3 203 "HelpDesk$Ticket" "timesReopened" "I" ∈ Uw := Uw_of (i := 527) (by decide +kernel) (by decide +kernel)
theorem gf_X3_203 {k : Kx} {cc : ByteArray} {R : Room} {nL : Nat} {ws : va_W} {c n pc : Nat} {lv : List (Option Value)} {st : List Value} {a : Nat} {fs : List Value} {v : Value} (F : Fx k cc RX3 R nL) (hd : decode cc pc = .ok (.getfield 203, 3)) (q : Nat) (hq : ws[q]? = some (a, .inr (3, fs))) (hv : fs[8]? = some v) (K : J k ws c n (pc + 3) lv (v :: st)) : J k ws c n pc lv (.ref a :: st) := j_getf F (C := RX2) (T := TX2) (N := 15) 8 inU_X2 rfl (by decide) uf_X3_203 (fun _ h => h) hd q hq hv K
theorem pf_X3_203 {k : Kx} {cc : ByteArray} {R : Room} {nL : Nat} {ws : va_W} {c n pc : Nat} {lv : List (Option Value)} {st : List Value} {a : Nat} {fs : List Value} {v : Value} (F : Fx k cc RX3 R nL) (hw : kw k = true) (hd : decode cc pc = .ok (.putfield 203, 3)) (hn : narrow (.int) v = v) (hf : fits (.int) v = true) (q : Nat) (hq : ws[q]? = some (a, .inr (3, fs))) (hl : 8 < fs.length) (ws' : va_W) (he : ws.set q (a, .inr (3, fs.set 8 v)) = ws') (K : J k ws' c n (pc + 3) lv st) : J k ws c n pc lv (v :: .ref a :: st) := j_putf F hw (C := RX2) (T := TX2) (N := 15) 8 inU_X2 tyX2 tyX2_ok nmX2 rfl (by decide) uf_X3_203 (fun _ h => h) rfl (by decide +kernel) hd hn hf q hq hl ws' he K
theorem um_X3_208 : Cond.methodLink RX3 208 yX3_toldOfTicket ∈ Uw := Uw_of (i := 313) (by decide +kernel) (by decide +kernel)
theorem um_X3_216 : Cond.methodLink RX3 216 yX3_slackOf ∈ Uw := Uw_of (i := 352) (by decide +kernel) (by decide +kernel)
theorem um_X3_226 : Cond.methodLink RX3 226 yX3_passMinute ∈ Uw := Uw_of (i := 325) (by decide +kernel) (by decide +kernel)
theorem um_X3_231 : Cond.methodLink RX3 231 yJx4a65c_get_915e3 ∈ Uw := Uw_of (i := 228) (by decide +kernel) (by decide +kernel)
theorem um_X3_256 : Cond.methodLink RX3 256 yX3_sendHomeAgents ∈ Uw := Uw_of (i := 329) (by decide +kernel) (by decide +kernel)
theorem um_X3_259 : Cond.methodLink RX3 259 yX3_giveOutTickets ∈ Uw := Uw_of (i := 336) (by decide +kernel) (by decide +kernel)
theorem um_X3_262 : Cond.methodLink RX3 262 yX1_isService ∈ Uw := Uw_of (i := 359) (by decide +kernel) (by decide +kernel)
theorem um_X3_265 : Cond.methodLink RX3 265 yX3_ageTickets ∈ Uw := Uw_of (i := 363) (by decide +kernel) (by decide +kernel)
theorem um_X3_268 : Cond.methodLink RX3 268 yX3_work ∈ Uw := Uw_of (i := 367) (by decide +kernel) (by decide +kernel)
theorem um_X3_271 : Cond.methodLink RX3 271 yX0_isThere ∈ Uw := Uw_of (i := 251) (by decide +kernel) (by decide +kernel)
theorem um_X3_274 : Cond.methodLink RX3 274 yX3_give ∈ Uw := Uw_of (i := 356) (by decide +kernel) (by decide +kernel)
theorem uf_X3_278 : Cond.fieldLink RX3 278 "HelpDesk$Agent" "minutesWorked" "I" ∈ Uw := Uw_of (i := 429) (by decide +kernel) (by decide +kernel)
theorem gf_X3_278 {k : Kx} {cc : ByteArray} {R : Room} {nL : Nat} {ws : va_W} {c n pc : Nat} {lv : List (Option Value)} {st : List Value} {a : Nat} {fs : List Value} {v : Value} (F : Fx k cc RX3 R nL) (hd : decode cc pc = .ok (.getfield 278, 3)) (q : Nat) (hq : ws[q]? = some (a, .inr (1, fs))) (hv : fs[6]? = some v) (K : J k ws c n (pc + 3) lv (v :: st)) : J k ws c n pc lv (.ref a :: st) := j_getf F (C := RX0) (T := TX0) (N := 8) 6 inU_X0 rfl (by decide) uf_X3_278 (fun _ h => h) hd q hq hv K
theorem pf_X3_278 {k : Kx} {cc : ByteArray} {R : Room} {nL : Nat} {ws : va_W} {c n pc : Nat} {lv : List (Option Value)} {st : List Value} {a : Nat} {fs : List Value} {v : Value} (F : Fx k cc RX3 R nL) (hw : kw k = true) (hd : decode cc pc = .ok (.putfield 278, 3)) (hn : narrow (.int) v = v) (hf : fits (.int) v = true) (q : Nat) (hq : ws[q]? = some (a, .inr (1, fs))) (hl : 6 < fs.length) (ws' : va_W) (he : ws.set q (a, .inr (1, fs.set 6 v)) = ws') (K : J k ws' c n (pc + 3) lv st) : J k ws c n pc lv (v :: .ref a :: st) := j_putf F hw (C := RX0) (T := TX0) (N := 8) 6 inU_X0 tyX0 tyX0_ok nmX0 rfl (by decide) uf_X3_278 (fun _ h => h) rfl (by decide +kernel) hd hn hf q hq hl ws' he K
theorem um_X3_281 : Cond.methodLink RX3 281 yX3_solve ∈ Uw := Uw_of (i := 371) (by decide +kernel) (by decide +kernel)
theorem uf_X3_284 : Cond.fieldLink RX3 284 "HelpDesk$Agent" "timesSolved" "I" ∈ Uw := Uw_of (i := 430) (by decide +kernel) (by decide +kernel)
theorem gf_X3_284 {k : Kx} {cc : ByteArray} {R : Room} {nL : Nat} {ws : va_W} {c n pc : Nat} {lv : List (Option Value)} {st : List Value} {a : Nat} {fs : List Value} {v : Value} (F : Fx k cc RX3 R nL) (hd : decode cc pc = .ok (.getfield 284, 3)) (q : Nat) (hq : ws[q]? = some (a, .inr (1, fs))) (hv : fs[7]? = some v) (K : J k ws c n (pc + 3) lv (v :: st)) : J k ws c n pc lv (.ref a :: st) := j_getf F (C := RX0) (T := TX0) (N := 8) 7 inU_X0 rfl (by decide) uf_X3_284 (fun _ h => h) hd q hq hv K
theorem pf_X3_284 {k : Kx} {cc : ByteArray} {R : Room} {nL : Nat} {ws : va_W} {c n pc : Nat} {lv : List (Option Value)} {st : List Value} {a : Nat} {fs : List Value} {v : Value} (F : Fx k cc RX3 R nL) (hw : kw k = true) (hd : decode cc pc = .ok (.putfield 284, 3)) (hn : narrow (.int) v = v) (hf : fits (.int) v = true) (q : Nat) (hq : ws[q]? = some (a, .inr (1, fs))) (hl : 7 < fs.length) (ws' : va_W) (he : ws.set q (a, .inr (1, fs.set 7 v)) = ws') (K : J k ws' c n (pc + 3) lv st) : J k ws c n pc lv (v :: .ref a :: st) := j_putf F hw (C := RX0) (T := TX0) (N := 8) 7 inU_X0 tyX0 tyX0_ok nmX0 rfl (by decide) uf_X3_284 (fun _ h => h) rfl (by decide +kernel) hd hn hf q hq hl ws' he K
theorem uf_X3_287 : Cond.fieldLink RX3 287 "HelpDesk$Ticket" "holder" "LHelpDesk$Agent;" ∈ Uw := Uw_of (i := 532) (by decide +kernel) (by decide +kernel)
theorem gf_X3_287 {k : Kx} {cc : ByteArray} {R : Room} {nL : Nat} {ws : va_W} {c n pc : Nat} {lv : List (Option Value)} {st : List Value} {a : Nat} {fs : List Value} {v : Value} (F : Fx k cc RX3 R nL) (hd : decode cc pc = .ok (.getfield 287, 3)) (q : Nat) (hq : ws[q]? = some (a, .inr (3, fs))) (hv : fs[12]? = some v) (K : J k ws c n (pc + 3) lv (v :: st)) : J k ws c n pc lv (.ref a :: st) := j_getf F (C := RX2) (T := TX2) (N := 15) 12 inU_X2 rfl (by decide) uf_X3_287 (fun _ h => h) hd q hq hv K
theorem pf_X3_287 {k : Kx} {cc : ByteArray} {R : Room} {nL : Nat} {ws : va_W} {c n pc : Nat} {lv : List (Option Value)} {st : List Value} {a : Nat} {fs : List Value} {v : Value} (F : Fx k cc RX3 R nL) (hw : kw k = true) (hd : decode cc pc = .ok (.putfield 287, 3)) (hn : narrow (.object "HelpDesk$Agent") v = v) (hf : fits (.object "HelpDesk$Agent") v = true) (q : Nat) (hq : ws[q]? = some (a, .inr (3, fs))) (hl : 12 < fs.length) (ws' : va_W) (he : ws.set q (a, .inr (3, fs.set 12 v)) = ws') (K : J k ws' c n (pc + 3) lv st) : J k ws c n pc lv (v :: .ref a :: st) := j_putf F hw (C := RX2) (T := TX2) (N := 15) 12 inU_X2 tyX2 tyX2_ok nmX2 rfl (by decide) uf_X3_287 (fun _ h => h) rfl (by decide +kernel) hd hn hf q hq hl ws' he K
theorem uf_X3_291 : Cond.fieldLink RX3 291 "HelpDesk$Ticket" "latestHolder" "LHelpDesk$Agent;" ∈ Uw := Uw_of (i := 533) (by decide +kernel) (by decide +kernel)
theorem gf_X3_291 {k : Kx} {cc : ByteArray} {R : Room} {nL : Nat} {ws : va_W} {c n pc : Nat} {lv : List (Option Value)} {st : List Value} {a : Nat} {fs : List Value} {v : Value} (F : Fx k cc RX3 R nL) (hd : decode cc pc = .ok (.getfield 291, 3)) (q : Nat) (hq : ws[q]? = some (a, .inr (3, fs))) (hv : fs[13]? = some v) (K : J k ws c n (pc + 3) lv (v :: st)) : J k ws c n pc lv (.ref a :: st) := j_getf F (C := RX2) (T := TX2) (N := 15) 13 inU_X2 rfl (by decide) uf_X3_291 (fun _ h => h) hd q hq hv K
theorem pf_X3_291 {k : Kx} {cc : ByteArray} {R : Room} {nL : Nat} {ws : va_W} {c n pc : Nat} {lv : List (Option Value)} {st : List Value} {a : Nat} {fs : List Value} {v : Value} (F : Fx k cc RX3 R nL) (hw : kw k = true) (hd : decode cc pc = .ok (.putfield 291, 3)) (hn : narrow (.object "HelpDesk$Agent") v = v) (hf : fits (.object "HelpDesk$Agent") v = true) (q : Nat) (hq : ws[q]? = some (a, .inr (3, fs))) (hl : 13 < fs.length) (ws' : va_W) (he : ws.set q (a, .inr (3, fs.set 13 v)) = ws') (K : J k ws' c n (pc + 3) lv st) : J k ws c n pc lv (v :: .ref a :: st) := j_putf F hw (C := RX2) (T := TX2) (N := 15) 13 inU_X2 tyX2 tyX2_ok nmX2 rfl (by decide) uf_X3_291 (fun _ h => h) rfl (by decide +kernel) hd hn hf q hq hl ws' he K
theorem uf_X3_294 : Cond.fieldLink RX3 294 "HelpDesk$Ticket" "answerAge" "I" ∈ Uw := Uw_of (i := 526) (by decide +kernel) (by decide +kernel)
theorem gf_X3_294 {k : Kx} {cc : ByteArray} {R : Room} {nL : Nat} {ws : va_W} {c n pc : Nat} {lv : List (Option Value)} {st : List Value} {a : Nat} {fs : List Value} {v : Value} (F : Fx k cc RX3 R nL) (hd : decode cc pc = .ok (.getfield 294, 3)) (q : Nat) (hq : ws[q]? = some (a, .inr (3, fs))) (hv : fs[7]? = some v) (K : J k ws c n (pc + 3) lv (v :: st)) : J k ws c n pc lv (.ref a :: st) := j_getf F (C := RX2) (T := TX2) (N := 15) 7 inU_X2 rfl (by decide) uf_X3_294 (fun _ h => h) hd q hq hv K
theorem pf_X3_294 {k : Kx} {cc : ByteArray} {R : Room} {nL : Nat} {ws : va_W} {c n pc : Nat} {lv : List (Option Value)} {st : List Value} {a : Nat} {fs : List Value} {v : Value} (F : Fx k cc RX3 R nL) (hw : kw k = true) (hd : decode cc pc = .ok (.putfield 294, 3)) (hn : narrow (.int) v = v) (hf : fits (.int) v = true) (q : Nat) (hq : ws[q]? = some (a, .inr (3, fs))) (hl : 7 < fs.length) (ws' : va_W) (he : ws.set q (a, .inr (3, fs.set 7 v)) = ws') (K : J k ws' c n (pc + 3) lv st) : J k ws c n pc lv (v :: .ref a :: st) := j_putf F hw (C := RX2) (T := TX2) (N := 15) 7 inU_X2 tyX2 tyX2_ok nmX2 rfl (by decide) uf_X3_294 (fun _ h => h) rfl (by decide +kernel) hd hn hf q hq hl ws' he K
theorem um_X3_297 : Cond.methodLink RX3 297 yX3_isLikedMore ∈ Uw := Uw_of (i := 348) (by decide +kernel) (by decide +kernel)
theorem um_X3_301 : Cond.methodLink RX3 301 yX3_numberOfAgent ∈ Uw := Uw_of (i := 316) (by decide +kernel) (by decide +kernel)
theorem ui_J15 : Cond.initialized RJ15 ∈ Uw := Uw_of (i := 35) (by decide +kernel) (by decide +kernel)
theorem ui_J3 : Cond.initialized RJ3 ∈ Uw := Uw_of (i := 36) (by decide +kernel) (by decide +kernel)
theorem ui_J7 : Cond.initialized RJ7 ∈ Uw := Uw_of (i := 32) (by decide +kernel) (by decide +kernel)
theorem ui_J8 : Cond.initialized RJ8 ∈ Uw := Uw_of (i := 30) (by decide +kernel) (by decide +kernel)
theorem ui_J9 : Cond.initialized RJ9 ∈ Uw := Uw_of (i := 31) (by decide +kernel) (by decide +kernel)
theorem ui_Jx4a65c : Cond.initialized RJx4a65c ∈ Uw := Uw_of (i := 22) (by decide +kernel) (by decide +kernel)
theorem ui_Jxa1e45 : Cond.initialized RJxa1e45 ∈ Uw := Uw_of (i := 20) (by decide +kernel) (by decide +kernel)
theorem ui_Jxc12de : Cond.initialized RJxc12de ∈ Uw := Uw_of (i := 21) (by decide +kernel) (by decide +kernel)
theorem ui_L : Cond.initialized RL ∈ Uw := Uw_of (i := 17) (by decide +kernel) (by decide +kernel)
theorem ui_X0 : Cond.initialized RX0 ∈ Uw := Uw_of (i := 29) (by decide +kernel) (by decide +kernel)
theorem ui_X1 : Cond.initialized RX1 ∈ Uw := Uw_of (i := 19) (by decide +kernel) (by decide +kernel)
theorem ui_X2 : Cond.initialized RX2 ∈ Uw := Uw_of (i := 34) (by decide +kernel) (by decide +kernel)
theorem ui_X3 : Cond.initialized RX3 ∈ Uw := Uw_of (i := 18) (by decide +kernel) (by decide +kernel)
theorem ui_Math : Cond.initialized "java/lang/Math" ∈ Uw := Uw_of (i := 31) (by decide +kernel) (by decide +kernel)
theorem ui_IllegalArgumentException : Cond.initialized "java/lang/IllegalArgumentException" ∈ Uw := Uw_of (i := 26) (by decide +kernel) (by decide +kernel)
theorem ui_IllegalStateException : Cond.initialized "java/lang/IllegalStateException" ∈ Uw := Uw_of (i := 28) (by decide +kernel) (by decide +kernel)
theorem ui_IndexOutOfBoundsException : Cond.initialized "java/lang/IndexOutOfBoundsException" ∈ Uw := Uw_of (i := 27) (by decide +kernel) (by decide +kernel)
theorem un_objectInit : Cond.instanceMethod objectInit ∈ Uw := Uw_of (i := 43) (by decide +kernel) (by decide +kernel)
theorem ud_objectInit : Cond.code objectInit ⟨#[0xb1]⟩ 1 none ∈ Uw := Uw_of (i := 44) (by decide +kernel) (by decide +kernel)
theorem us_max : Cond.static Lib.Math.max.name ∈ Uw := Uw_of (i := 195) (by decide +kernel) (by decide +kernel)
theorem ud_max : Cond.code Lib.Math.max.name Lib.Math.max.code 2 (some .int) ∈ Uw := Uw_of (i := 196) (by decide +kernel) (by decide +kernel)
theorem us_min : Cond.static Lib.Math.min.name ∈ Uw := Uw_of (i := 198) (by decide +kernel) (by decide +kernel)
theorem ud_min : Cond.code Lib.Math.min.name Lib.Math.min.code 2 (some .int) ∈ Uw := Uw_of (i := 199) (by decide +kernel) (by decide +kernel)
theorem ud_J15_checkIndex_7cf53 : Cond.code yJ15_checkIndex_7cf53 cJ15_checkIndex_7cf53 2 (some .int) ∈ Uw := Uw_of (i := 234) (by decide +kernel) (by decide +kernel)
theorem us_J15_checkIndex_7cf53 : Cond.static yJ15_checkIndex_7cf53 ∈ Uw := Uw_of (i := 233) (by decide +kernel) (by decide +kernel)
theorem ud_J3_checkIndex_8e157 : Cond.code yJ3_checkIndex_8e157 cJ3_checkIndex_8e157 3 (some .int) ∈ Uw := Uw_of (i := 237) (by decide +kernel) (by decide +kernel)
theorem us_J3_checkIndex_8e157 : Cond.static yJ3_checkIndex_8e157 ∈ Uw := Uw_of (i := 236) (by decide +kernel) (by decide +kernel)
theorem ud_J7_copyOf_1904c : Cond.code yJ7_copyOf_1904c cJ7_copyOf_1904c 2 (some (.array (.object "java/lang/Object"))) ∈ Uw := Uw_of (i := 474) (by decide +kernel) (by decide +kernel)
theorem us_J7_copyOf_1904c : Cond.static yJ7_copyOf_1904c ∈ Uw := Uw_of (i := 473) (by decide +kernel) (by decide +kernel)
theorem ud_J7_copyOf_6403c : Cond.code yJ7_copyOf_6403c cJ7_copyOf_6403c 4 (some (.array (.object "java/lang/Object"))) ∈ Uw := Uw_of (i := 489) (by decide +kernel) (by decide +kernel)
theorem us_J7_copyOf_6403c : Cond.static yJ7_copyOf_6403c ∈ Uw := Uw_of (i := 488) (by decide +kernel) (by decide +kernel)
theorem ud_J8_hugeLength_7cf53 : Cond.code yJ8_hugeLength_7cf53 cJ8_hugeLength_7cf53 3 (some .int) ∈ Uw := Uw_of (i := 471) (by decide +kernel) (by decide +kernel)
theorem us_J8_hugeLength_7cf53 : Cond.static yJ8_hugeLength_7cf53 ∈ Uw := Uw_of (i := 470) (by decide +kernel) (by decide +kernel)
theorem ud_J8_newLength_cabcc : Cond.code yJ8_newLength_cabcc cJ8_newLength_cabcc 4 (some .int) ∈ Uw := Uw_of (i := 466) (by decide +kernel) (by decide +kernel)
theorem us_J8_newLength_cabcc : Cond.static yJ8_newLength_cabcc ∈ Uw := Uw_of (i := 465) (by decide +kernel) (by decide +kernel)
theorem ud_J9_max_7cf53 : Cond.code yJ9_max_7cf53 cJ9_max_7cf53 2 (some .int) ∈ Uw := Uw_of (i := 196) (by decide +kernel) (by decide +kernel)
theorem us_J9_max_7cf53 : Cond.static yJ9_max_7cf53 ∈ Uw := Uw_of (i := 195) (by decide +kernel) (by decide +kernel)
theorem ud_J9_min_7cf53 : Cond.code yJ9_min_7cf53 cJ9_min_7cf53 2 (some .int) ∈ Uw := Uw_of (i := 199) (by decide +kernel) (by decide +kernel)
theorem us_J9_min_7cf53 : Cond.static yJ9_min_7cf53 ∈ Uw := Uw_of (i := 198) (by decide +kernel) (by decide +kernel)
theorem ud_Jx4a65c_add_72be8 : Cond.code yJx4a65c_add_72be8 cJx4a65c_add_72be8 4 none ∈ Uw := Uw_of (i := 455) (by decide +kernel) (by decide +kernel)
theorem un_Jx4a65c_add_72be8 : Cond.instanceMethod yJx4a65c_add_72be8 ∈ Uw := Uw_of (i := 454) (by decide +kernel) (by decide +kernel)
theorem ue_Jx4a65c_add_72be8 : Cond.selects RJx4a65c yJx4a65c_add_72be8 yJx4a65c_add_72be8 ∈ Uw := Uw_of (i := 14) (by decide +kernel) (by decide +kernel)
theorem ud_Jx4a65c_add_9ea2d : Cond.code yJx4a65c_add_9ea2d cJx4a65c_add_9ea2d 2 (some .boolean) ∈ Uw := Uw_of (i := 451) (by decide +kernel) (by decide +kernel)
theorem un_Jx4a65c_add_9ea2d : Cond.instanceMethod yJx4a65c_add_9ea2d ∈ Uw := Uw_of (i := 449) (by decide +kernel) (by decide +kernel)
theorem ue_Jx4a65c_add_9ea2d : Cond.selects RJx4a65c yJx4a65c_add_9ea2d yJx4a65c_add_9ea2d ∈ Uw := Uw_of (i := 450) (by decide +kernel) (by decide +kernel)
theorem ud_Jx4a65c_elementData_915e3 : Cond.code yJx4a65c_elementData_915e3 cJx4a65c_elementData_915e3 2 (some (.object "java/lang/Object")) ∈ Uw := Uw_of (i := 241) (by decide +kernel) (by decide +kernel)
theorem un_Jx4a65c_elementData_915e3 : Cond.instanceMethod yJx4a65c_elementData_915e3 ∈ Uw := Uw_of (i := 239) (by decide +kernel) (by decide +kernel)
theorem ue_Jx4a65c_elementData_915e3 : Cond.selects RJx4a65c yJx4a65c_elementData_915e3 yJx4a65c_elementData_915e3 ∈ Uw := Uw_of (i := 240) (by decide +kernel) (by decide +kernel)
theorem ud_Jx4a65c_get_915e3 : Cond.code yJx4a65c_get_915e3 cJx4a65c_get_915e3 2 (some (.object "java/lang/Object")) ∈ Uw := Uw_of (i := 231) (by decide +kernel) (by decide +kernel)
theorem un_Jx4a65c_get_915e3 : Cond.instanceMethod yJx4a65c_get_915e3 ∈ Uw := Uw_of (i := 229) (by decide +kernel) (by decide +kernel)
theorem ue_Jx4a65c_get_915e3 : Cond.selects RJx4a65c yJx4a65c_get_915e3 yJx4a65c_get_915e3 ∈ Uw := Uw_of (i := 230) (by decide +kernel) (by decide +kernel)
theorem ud_Jx4a65c_grow_92f84 : Cond.code yJx4a65c_grow_92f84 cJx4a65c_grow_92f84 4 (some (.array (.object "java/lang/Object"))) ∈ Uw := Uw_of (i := 463) (by decide +kernel) (by decide +kernel)
theorem un_Jx4a65c_grow_92f84 : Cond.instanceMethod yJx4a65c_grow_92f84 ∈ Uw := Uw_of (i := 462) (by decide +kernel) (by decide +kernel)
theorem ue_Jx4a65c_grow_92f84 : Cond.selects RJx4a65c yJx4a65c_grow_92f84 yJx4a65c_grow_92f84 ∈ Uw := Uw_of (i := 16) (by decide +kernel) (by decide +kernel)
theorem ud_Jx4a65c_grow_d5877 : Cond.code yJx4a65c_grow_d5877 cJx4a65c_grow_d5877 1 (some (.array (.object "java/lang/Object"))) ∈ Uw := Uw_of (i := 459) (by decide +kernel) (by decide +kernel)
theorem un_Jx4a65c_grow_d5877 : Cond.instanceMethod yJx4a65c_grow_d5877 ∈ Uw := Uw_of (i := 458) (by decide +kernel) (by decide +kernel)
theorem ue_Jx4a65c_grow_d5877 : Cond.selects RJx4a65c yJx4a65c_grow_d5877 yJx4a65c_grow_d5877 ∈ Uw := Uw_of (i := 15) (by decide +kernel) (by decide +kernel)
theorem ud_Jx4a65c_init_da8c8 : Cond.code yJx4a65c_init_da8c8 cJx4a65c_init_da8c8 1 none ∈ Uw := Uw_of (i := 64) (by decide +kernel) (by decide +kernel)
theorem un_Jx4a65c_init_da8c8 : Cond.instanceMethod yJx4a65c_init_da8c8 ∈ Uw := Uw_of (i := 63) (by decide +kernel) (by decide +kernel)
theorem ud_Jx4a65c_size_8abf5 : Cond.code yJx4a65c_size_8abf5 cJx4a65c_size_8abf5 1 (some .int) ∈ Uw := Uw_of (i := 211) (by decide +kernel) (by decide +kernel)
theorem un_Jx4a65c_size_8abf5 : Cond.instanceMethod yJx4a65c_size_8abf5 ∈ Uw := Uw_of (i := 209) (by decide +kernel) (by decide +kernel)
theorem ue_Jx4a65c_size_8abf5 : Cond.selects RJx4a65c yJx4a65c_size_8abf5 yJx4a65c_size_8abf5 ∈ Uw := Uw_of (i := 210) (by decide +kernel) (by decide +kernel)
theorem ud_Jxa1e45_init_da8c8 : Cond.code yJxa1e45_init_da8c8 cJxa1e45_init_da8c8 1 none ∈ Uw := Uw_of (i := 70) (by decide +kernel) (by decide +kernel)
theorem un_Jxa1e45_init_da8c8 : Cond.instanceMethod yJxa1e45_init_da8c8 ∈ Uw := Uw_of (i := 69) (by decide +kernel) (by decide +kernel)
theorem ud_Jxc12de_init_da8c8 : Cond.code yJxc12de_init_da8c8 cJxc12de_init_da8c8 1 none ∈ Uw := Uw_of (i := 67) (by decide +kernel) (by decide +kernel)
theorem un_Jxc12de_init_da8c8 : Cond.instanceMethod yJxc12de_init_da8c8 ∈ Uw := Uw_of (i := 66) (by decide +kernel) (by decide +kernel)
theorem ud_L_below : Cond.code yL_below cL_below 2 (some .int) ∈ Uw := Uw_of (i := 382) (by decide +kernel) (by decide +kernel)
theorem us_L_below : Cond.static yL_below ∈ Uw := Uw_of (i := 381) (by decide +kernel) (by decide +kernel)
theorem ud_L_build : Cond.code yL_build cL_build 8 (some (.array .int)) ∈ Uw := Uw_of (i := 390) (by decide +kernel) (by decide +kernel)
theorem us_L_build : Cond.static yL_build ∈ Uw := Uw_of (i := 389) (by decide +kernel) (by decide +kernel)
theorem ud_L_cell : Cond.code yL_cell cL_cell 2 (some .int) ∈ Uw := Uw_of (i := 386) (by decide +kernel) (by decide +kernel)
theorem us_L_cell : Cond.static yL_cell ∈ Uw := Uw_of (i := 385) (by decide +kernel) (by decide +kernel)
theorem ud_L_open : Cond.code yL_open cL_open 4 (some .boolean) ∈ Uw := Uw_of (i := 501) (by decide +kernel) (by decide +kernel)
theorem us_L_open : Cond.static yL_open ∈ Uw := Uw_of (i := 500) (by decide +kernel) (by decide +kernel)
theorem ud_X0_hasSkill : Cond.code yX0_hasSkill cX0_hasSkill 2 (some .boolean) ∈ Uw := Uw_of (i := 347) (by decide +kernel) (by decide +kernel)
theorem un_X0_hasSkill : Cond.instanceMethod yX0_hasSkill ∈ Uw := Uw_of (i := 345) (by decide +kernel) (by decide +kernel)
theorem ue_X0_hasSkill : Cond.selects RX0 yX0_hasSkill yX0_hasSkill ∈ Uw := Uw_of (i := 346) (by decide +kernel) (by decide +kernel)
theorem ud_X0_init : Cond.code yX0_init cX0_init 6 none ∈ Uw := Uw_of (i := 420) (by decide +kernel) (by decide +kernel)
theorem un_X0_init : Cond.instanceMethod yX0_init ∈ Uw := Uw_of (i := 419) (by decide +kernel) (by decide +kernel)
theorem ud_X0_isThere : Cond.code yX0_isThere cX0_isThere 3 (some .boolean) ∈ Uw := Uw_of (i := 254) (by decide +kernel) (by decide +kernel)
theorem un_X0_isThere : Cond.instanceMethod yX0_isThere ∈ Uw := Uw_of (i := 252) (by decide +kernel) (by decide +kernel)
theorem ue_X0_isThere : Cond.selects RX0 yX0_isThere yX0_isThere ∈ Uw := Uw_of (i := 253) (by decide +kernel) (by decide +kernel)
theorem ud_X1_init : Cond.code yX1_init cX1_init 1 none ∈ Uw := Uw_of (i := 49) (by decide +kernel) (by decide +kernel)
theorem un_X1_init : Cond.instanceMethod yX1_init ∈ Uw := Uw_of (i := 48) (by decide +kernel) (by decide +kernel)
theorem ud_X1_isService : Cond.code yX1_isService cX1_isService 3 (some .boolean) ∈ Uw := Uw_of (i := 362) (by decide +kernel) (by decide +kernel)
theorem un_X1_isService : Cond.instanceMethod yX1_isService ∈ Uw := Uw_of (i := 360) (by decide +kernel) (by decide +kernel)
theorem ue_X1_isService : Cond.selects RX1 yX1_isService yX1_isService ∈ Uw := Uw_of (i := 361) (by decide +kernel) (by decide +kernel)
theorem ud_X1_minutesBetween : Cond.code yX1_minutesBetween cX1_minutesBetween 5 (some .int) ∈ Uw := Uw_of (i := 186) (by decide +kernel) (by decide +kernel)
theorem un_X1_minutesBetween : Cond.instanceMethod yX1_minutesBetween ∈ Uw := Uw_of (i := 184) (by decide +kernel) (by decide +kernel)
theorem ue_X1_minutesBetween : Cond.selects RX1 yX1_minutesBetween yX1_minutesBetween ∈ Uw := Uw_of (i := 185) (by decide +kernel) (by decide +kernel)
theorem ud_X1_minutesOfDay : Cond.code yX1_minutesOfDay cX1_minutesOfDay 6 (some .int) ∈ Uw := Uw_of (i := 190) (by decide +kernel) (by decide +kernel)
theorem un_X1_minutesOfDay : Cond.instanceMethod yX1_minutesOfDay ∈ Uw := Uw_of (i := 189) (by decide +kernel) (by decide +kernel)
theorem ue_X1_minutesOfDay : Cond.selects RX1 yX1_minutesOfDay yX1_minutesOfDay ∈ Uw := Uw_of (i := 1) (by decide +kernel) (by decide +kernel)
theorem ud_X2_init : Cond.code yX2_init cX2_init 6 none ∈ Uw := Uw_of (i := 511) (by decide +kernel) (by decide +kernel)
theorem un_X2_init : Cond.instanceMethod yX2_init ∈ Uw := Uw_of (i := 510) (by decide +kernel) (by decide +kernel)
theorem ud_X2_isOpen : Cond.code yX2_isOpen cX2_isOpen 1 (some .boolean) ∈ Uw := Uw_of (i := 298) (by decide +kernel) (by decide +kernel)
theorem un_X2_isOpen : Cond.instanceMethod yX2_isOpen ∈ Uw := Uw_of (i := 296) (by decide +kernel) (by decide +kernel)
theorem ue_X2_isOpen : Cond.selects RX2 yX2_isOpen yX2_isOpen ∈ Uw := Uw_of (i := 297) (by decide +kernel) (by decide +kernel)
theorem ud_X3_addAgent : Cond.code yX3_addAgent cX3_addAgent 6 (some .int) ∈ Uw := Uw_of (i := 411) (by decide +kernel) (by decide +kernel)
theorem un_X3_addAgent : Cond.instanceMethod yX3_addAgent ∈ Uw := Uw_of (i := 409) (by decide +kernel) (by decide +kernel)
theorem ue_X3_addAgent : Cond.selects RX3 yX3_addAgent yX3_addAgent ∈ Uw := Uw_of (i := 410) (by decide +kernel) (by decide +kernel)
theorem ud_X3_ageTickets : Cond.code yX3_ageTickets cX3_ageTickets 3 none ∈ Uw := Uw_of (i := 366) (by decide +kernel) (by decide +kernel)
theorem un_X3_ageTickets : Cond.instanceMethod yX3_ageTickets ∈ Uw := Uw_of (i := 365) (by decide +kernel) (by decide +kernel)
theorem ue_X3_ageTickets : Cond.selects RX3 yX3_ageTickets yX3_ageTickets ∈ Uw := Uw_of (i := 11) (by decide +kernel) (by decide +kernel)
theorem ud_X3_agent : Cond.code yX3_agent cX3_agent 4 (some .int) ∈ Uw := Uw_of (i := 203) (by decide +kernel) (by decide +kernel)
theorem un_X3_agent : Cond.instanceMethod yX3_agent ∈ Uw := Uw_of (i := 201) (by decide +kernel) (by decide +kernel)
theorem ue_X3_agent : Cond.selects RX3 yX3_agent yX3_agent ∈ Uw := Uw_of (i := 202) (by decide +kernel) (by decide +kernel)
theorem ud_X3_agentAt : Cond.code yX3_agentAt cX3_agentAt 2 (some (.object "HelpDesk$Agent")) ∈ Uw := Uw_of (i := 207) (by decide +kernel) (by decide +kernel)
theorem un_X3_agentAt : Cond.instanceMethod yX3_agentAt ∈ Uw := Uw_of (i := 206) (by decide +kernel) (by decide +kernel)
theorem ue_X3_agentAt : Cond.selects RX3 yX3_agentAt yX3_agentAt ∈ Uw := Uw_of (i := 2) (by decide +kernel) (by decide +kernel)
theorem ud_X3_all : Cond.code yX3_all cX3_all 4 (some .int) ∈ Uw := Uw_of (i := 378) (by decide +kernel) (by decide +kernel)
theorem un_X3_all : Cond.instanceMethod yX3_all ∈ Uw := Uw_of (i := 376) (by decide +kernel) (by decide +kernel)
theorem ue_X3_all : Cond.selects RX3 yX3_all yX3_all ∈ Uw := Uw_of (i := 377) (by decide +kernel) (by decide +kernel)
theorem ud_X3_firstByLiking : Cond.code yX3_firstByLiking cX3_firstByLiking 5 (some (.object "HelpDesk$Ticket")) ∈ Uw := Uw_of (i := 343) (by decide +kernel) (by decide +kernel)
theorem un_X3_firstByLiking : Cond.instanceMethod yX3_firstByLiking ∈ Uw := Uw_of (i := 342) (by decide +kernel) (by decide +kernel)
theorem ue_X3_firstByLiking : Cond.selects RX3 yX3_firstByLiking yX3_firstByLiking ∈ Uw := Uw_of (i := 8) (by decide +kernel) (by decide +kernel)
theorem ud_X3_give : Cond.code yX3_give cX3_give 2 none ∈ Uw := Uw_of (i := 358) (by decide +kernel) (by decide +kernel)
theorem us_X3_give : Cond.static yX3_give ∈ Uw := Uw_of (i := 357) (by decide +kernel) (by decide +kernel)
theorem ud_X3_giveOutTickets : Cond.code yX3_giveOutTickets cX3_giveOutTickets 4 none ∈ Uw := Uw_of (i := 339) (by decide +kernel) (by decide +kernel)
theorem un_X3_giveOutTickets : Cond.instanceMethod yX3_giveOutTickets ∈ Uw := Uw_of (i := 338) (by decide +kernel) (by decide +kernel)
theorem ue_X3_giveOutTickets : Cond.selects RX3 yX3_giveOutTickets yX3_giveOutTickets ∈ Uw := Uw_of (i := 7) (by decide +kernel) (by decide +kernel)
theorem ud_X3_handBack : Cond.code yX3_handBack cX3_handBack 1 none ∈ Uw := Uw_of (i := 335) (by decide +kernel) (by decide +kernel)
theorem us_X3_handBack : Cond.static yX3_handBack ∈ Uw := Uw_of (i := 334) (by decide +kernel) (by decide +kernel)
theorem ud_X3_init : Cond.code yX3_init cX3_init 1 none ∈ Uw := Uw_of (i := 41) (by decide +kernel) (by decide +kernel)
theorem un_X3_init : Cond.instanceMethod yX3_init ∈ Uw := Uw_of (i := 40) (by decide +kernel) (by decide +kernel)
theorem ud_X3_isLikedMore : Cond.code yX3_isLikedMore cX3_isLikedMore 6 (some .boolean) ∈ Uw := Uw_of (i := 351) (by decide +kernel) (by decide +kernel)
theorem un_X3_isLikedMore : Cond.instanceMethod yX3_isLikedMore ∈ Uw := Uw_of (i := 350) (by decide +kernel) (by decide +kernel)
theorem ue_X3_isLikedMore : Cond.selects RX3 yX3_isLikedMore yX3_isLikedMore ∈ Uw := Uw_of (i := 9) (by decide +kernel) (by decide +kernel)
theorem ud_X3_isPriority : Cond.code yX3_isPriority cX3_isPriority 1 (some .boolean) ∈ Uw := Uw_of (i := 405) (by decide +kernel) (by decide +kernel)
theorem us_X3_isPriority : Cond.static yX3_isPriority ∈ Uw := Uw_of (i := 404) (by decide +kernel) (by decide +kernel)
theorem ud_X3_isSetOfSkills : Cond.code yX3_isSetOfSkills cX3_isSetOfSkills 1 (some .boolean) ∈ Uw := Uw_of (i := 414) (by decide +kernel) (by decide +kernel)
theorem us_X3_isSetOfSkills : Cond.static yX3_isSetOfSkills ∈ Uw := Uw_of (i := 413) (by decide +kernel) (by decide +kernel)
theorem ud_X3_isSpanOfDay : Cond.code yX3_isSpanOfDay cX3_isSpanOfDay 2 (some .boolean) ∈ Uw := Uw_of (i := 397) (by decide +kernel) (by decide +kernel)
theorem us_X3_isSpanOfDay : Cond.static yX3_isSpanOfDay ∈ Uw := Uw_of (i := 396) (by decide +kernel) (by decide +kernel)
theorem ud_X3_merge : Cond.code yX3_merge cX3_merge 5 (some .int) ∈ Uw := Uw_of (i := 293) (by decide +kernel) (by decide +kernel)
theorem un_X3_merge : Cond.instanceMethod yX3_merge ∈ Uw := Uw_of (i := 291) (by decide +kernel) (by decide +kernel)
theorem ue_X3_merge : Cond.selects RX3 yX3_merge yX3_merge ∈ Uw := Uw_of (i := 292) (by decide +kernel) (by decide +kernel)
theorem ud_X3_now : Cond.code yX3_now cX3_now 1 (some .int) ∈ Uw := Uw_of (i := 109) (by decide +kernel) (by decide +kernel)
theorem un_X3_now : Cond.instanceMethod yX3_now ∈ Uw := Uw_of (i := 107) (by decide +kernel) (by decide +kernel)
theorem ue_X3_now : Cond.selects RX3 yX3_now yX3_now ∈ Uw := Uw_of (i := 108) (by decide +kernel) (by decide +kernel)
theorem ud_X3_numberOfAgent : Cond.code yX3_numberOfAgent cX3_numberOfAgent 1 (some .int) ∈ Uw := Uw_of (i := 318) (by decide +kernel) (by decide +kernel)
theorem us_X3_numberOfAgent : Cond.static yX3_numberOfAgent ∈ Uw := Uw_of (i := 317) (by decide +kernel) (by decide +kernel)
theorem ud_X3_numberOfTicket : Cond.code yX3_numberOfTicket cX3_numberOfTicket 1 (some .int) ∈ Uw := Uw_of (i := 250) (by decide +kernel) (by decide +kernel)
theorem us_X3_numberOfTicket : Cond.static yX3_numberOfTicket ∈ Uw := Uw_of (i := 249) (by decide +kernel) (by decide +kernel)
theorem ud_X3_open : Cond.code yX3_open cX3_open 6 (some .int) ∈ Uw := Uw_of (i := 505) (by decide +kernel) (by decide +kernel)
theorem un_X3_open : Cond.instanceMethod yX3_open ∈ Uw := Uw_of (i := 503) (by decide +kernel) (by decide +kernel)
theorem ue_X3_open : Cond.selects RX3 yX3_open yX3_open ∈ Uw := Uw_of (i := 504) (by decide +kernel) (by decide +kernel)
theorem ud_X3_pass : Cond.code yX3_pass cX3_pass 4 (some .int) ∈ Uw := Uw_of (i := 322) (by decide +kernel) (by decide +kernel)
theorem un_X3_pass : Cond.instanceMethod yX3_pass ∈ Uw := Uw_of (i := 320) (by decide +kernel) (by decide +kernel)
theorem ue_X3_pass : Cond.selects RX3 yX3_pass yX3_pass ∈ Uw := Uw_of (i := 321) (by decide +kernel) (by decide +kernel)
theorem ud_X3_passMinute : Cond.code yX3_passMinute cX3_passMinute 2 (some .int) ∈ Uw := Uw_of (i := 328) (by decide +kernel) (by decide +kernel)
theorem un_X3_passMinute : Cond.instanceMethod yX3_passMinute ∈ Uw := Uw_of (i := 327) (by decide +kernel) (by decide +kernel)
theorem ue_X3_passMinute : Cond.selects RX3 yX3_passMinute yX3_passMinute ∈ Uw := Uw_of (i := 5) (by decide +kernel) (by decide +kernel)
theorem ud_X3_pause : Cond.code yX3_pause cX3_pause 3 (some .int) ∈ Uw := Uw_of (i := 259) (by decide +kernel) (by decide +kernel)
theorem un_X3_pause : Cond.instanceMethod yX3_pause ∈ Uw := Uw_of (i := 257) (by decide +kernel) (by decide +kernel)
theorem ue_X3_pause : Cond.selects RX3 yX3_pause yX3_pause ∈ Uw := Uw_of (i := 258) (by decide +kernel) (by decide +kernel)
theorem ud_X3_reopen : Cond.code yX3_reopen cX3_reopen 4 (some .int) ∈ Uw := Uw_of (i := 305) (by decide +kernel) (by decide +kernel)
theorem un_X3_reopen : Cond.instanceMethod yX3_reopen ∈ Uw := Uw_of (i := 303) (by decide +kernel) (by decide +kernel)
theorem ue_X3_reopen : Cond.selects RX3 yX3_reopen yX3_reopen ∈ Uw := Uw_of (i := 304) (by decide +kernel) (by decide +kernel)
theorem ud_X3_resume : Cond.code yX3_resume cX3_resume 3 (some .int) ∈ Uw := Uw_of (i := 288) (by decide +kernel) (by decide +kernel)
theorem un_X3_resume : Cond.instanceMethod yX3_resume ∈ Uw := Uw_of (i := 286) (by decide +kernel) (by decide +kernel)
theorem ue_X3_resume : Cond.selects RX3 yX3_resume yX3_resume ∈ Uw := Uw_of (i := 287) (by decide +kernel) (by decide +kernel)
theorem ud_X3_sendHomeAgents : Cond.code yX3_sendHomeAgents cX3_sendHomeAgents 4 none ∈ Uw := Uw_of (i := 332) (by decide +kernel) (by decide +kernel)
theorem un_X3_sendHomeAgents : Cond.instanceMethod yX3_sendHomeAgents ∈ Uw := Uw_of (i := 331) (by decide +kernel) (by decide +kernel)
theorem ue_X3_sendHomeAgents : Cond.selects RX3 yX3_sendHomeAgents yX3_sendHomeAgents ∈ Uw := Uw_of (i := 6) (by decide +kernel) (by decide +kernel)
theorem ud_X3_service : Cond.code yX3_service cX3_service 3 (some .int) ∈ Uw := Uw_of (i := 113) (by decide +kernel) (by decide +kernel)
theorem un_X3_service : Cond.instanceMethod yX3_service ∈ Uw := Uw_of (i := 111) (by decide +kernel) (by decide +kernel)
theorem ue_X3_service : Cond.selects RX3 yX3_service yX3_service ∈ Uw := Uw_of (i := 112) (by decide +kernel) (by decide +kernel)
theorem ud_X3_setHours : Cond.code yX3_setHours cX3_setHours 4 (some .boolean) ∈ Uw := Uw_of (i := 394) (by decide +kernel) (by decide +kernel)
theorem un_X3_setHours : Cond.instanceMethod yX3_setHours ∈ Uw := Uw_of (i := 392) (by decide +kernel) (by decide +kernel)
theorem ue_X3_setHours : Cond.selects RX3 yX3_setHours yX3_setHours ∈ Uw := Uw_of (i := 393) (by decide +kernel) (by decide +kernel)
theorem ud_X3_setTargets : Cond.code yX3_setTargets cX3_setTargets 5 (some .int) ∈ Uw := Uw_of (i := 402) (by decide +kernel) (by decide +kernel)
theorem un_X3_setTargets : Cond.instanceMethod yX3_setTargets ∈ Uw := Uw_of (i := 400) (by decide +kernel) (by decide +kernel)
theorem ue_X3_setTargets : Cond.selects RX3 yX3_setTargets yX3_setTargets ∈ Uw := Uw_of (i := 401) (by decide +kernel) (by decide +kernel)
theorem ud_X3_slackOf : Cond.code yX3_slackOf cX3_slackOf 2 (some .int) ∈ Uw := Uw_of (i := 355) (by decide +kernel) (by decide +kernel)
theorem un_X3_slackOf : Cond.instanceMethod yX3_slackOf ∈ Uw := Uw_of (i := 354) (by decide +kernel) (by decide +kernel)
theorem ue_X3_slackOf : Cond.selects RX3 yX3_slackOf yX3_slackOf ∈ Uw := Uw_of (i := 10) (by decide +kernel) (by decide +kernel)
theorem ud_X3_solve : Cond.code yX3_solve cX3_solve 3 none ∈ Uw := Uw_of (i := 374) (by decide +kernel) (by decide +kernel)
theorem un_X3_solve : Cond.instanceMethod yX3_solve ∈ Uw := Uw_of (i := 373) (by decide +kernel) (by decide +kernel)
theorem ue_X3_solve : Cond.selects RX3 yX3_solve yX3_solve ∈ Uw := Uw_of (i := 13) (by decide +kernel) (by decide +kernel)
theorem ud_X3_takeFromHolder : Cond.code yX3_takeFromHolder cX3_takeFromHolder 2 none ∈ Uw := Uw_of (i := 284) (by decide +kernel) (by decide +kernel)
theorem us_X3_takeFromHolder : Cond.static yX3_takeFromHolder ∈ Uw := Uw_of (i := 283) (by decide +kernel) (by decide +kernel)
theorem ud_X3_ticket : Cond.code yX3_ticket cX3_ticket 4 (some .int) ∈ Uw := Uw_of (i := 311) (by decide +kernel) (by decide +kernel)
theorem un_X3_ticket : Cond.instanceMethod yX3_ticket ∈ Uw := Uw_of (i := 309) (by decide +kernel) (by decide +kernel)
theorem ue_X3_ticket : Cond.selects RX3 yX3_ticket yX3_ticket ∈ Uw := Uw_of (i := 310) (by decide +kernel) (by decide +kernel)
theorem ud_X3_ticketAt : Cond.code yX3_ticketAt cX3_ticketAt 2 (some (.object "HelpDesk$Ticket")) ∈ Uw := Uw_of (i := 263) (by decide +kernel) (by decide +kernel)
theorem un_X3_ticketAt : Cond.instanceMethod yX3_ticketAt ∈ Uw := Uw_of (i := 262) (by decide +kernel) (by decide +kernel)
theorem ue_X3_ticketAt : Cond.selects RX3 yX3_ticketAt yX3_ticketAt ∈ Uw := Uw_of (i := 4) (by decide +kernel) (by decide +kernel)
theorem ud_X3_toldOfAgent : Cond.code yX3_toldOfAgent cX3_toldOfAgent 3 (some .int) ∈ Uw := Uw_of (i := 247) (by decide +kernel) (by decide +kernel)
theorem un_X3_toldOfAgent : Cond.instanceMethod yX3_toldOfAgent ∈ Uw := Uw_of (i := 246) (by decide +kernel) (by decide +kernel)
theorem ue_X3_toldOfAgent : Cond.selects RX3 yX3_toldOfAgent yX3_toldOfAgent ∈ Uw := Uw_of (i := 3) (by decide +kernel) (by decide +kernel)
theorem ud_X3_toldOfTicket : Cond.code yX3_toldOfTicket cX3_toldOfTicket 2 (some .int) ∈ Uw := Uw_of (i := 315) (by decide +kernel) (by decide +kernel)
theorem us_X3_toldOfTicket : Cond.static yX3_toldOfTicket ∈ Uw := Uw_of (i := 314) (by decide +kernel) (by decide +kernel)
theorem ud_X3_work : Cond.code yX3_work cX3_work 5 (some .int) ∈ Uw := Uw_of (i := 370) (by decide +kernel) (by decide +kernel)
theorem un_X3_work : Cond.instanceMethod yX3_work ∈ Uw := Uw_of (i := 369) (by decide +kernel) (by decide +kernel)
theorem ue_X3_work : Cond.selects RX3 yX3_work yX3_work ∈ Uw := Uw_of (i := 12) (by decide +kernel) (by decide +kernel)
theorem lk_J15_105 : LkS RJ15 105 yJ3_checkIndex_8e157 cJ3_checkIndex_8e157 3 (some .int) 3 := ⟨⟨um_J15_105, ui_J3, ud_J3_checkIndex_8e157, by decide +kernel⟩, us_J3_checkIndex_8e157⟩
theorem lk_J7_300 : LkS RJ7 300 yJ7_copyOf_6403c cJ7_copyOf_6403c 4 (some (.array (.object "java/lang/Object"))) 3 := ⟨⟨um_J7_300, ui_J7, ud_J7_copyOf_6403c, by decide +kernel⟩, us_J7_copyOf_6403c⟩
theorem lk_J7_304 : LkS RJ7 304 yJ9_min_7cf53 cJ9_min_7cf53 2 (some .int) 2 := ⟨⟨um_J7_304, ui_J9, ud_J9_min_7cf53, by decide +kernel⟩, us_J9_min_7cf53⟩
theorem lk_J8_194 : LkS RJ8 194 yJ9_max_7cf53 cJ9_max_7cf53 2 (some .int) 2 := ⟨⟨um_J8_194, ui_J9, ud_J9_max_7cf53, by decide +kernel⟩, us_J9_max_7cf53⟩
theorem lk_J8_201 : LkS RJ8 201 yJ8_hugeLength_7cf53 cJ8_hugeLength_7cf53 3 (some .int) 2 := ⟨⟨um_J8_201, ui_J8, ud_J8_hugeLength_7cf53, by decide +kernel⟩, us_J8_hugeLength_7cf53⟩
theorem lk_Jx4a65c_1 : LkI RJx4a65c 1 yJxc12de_init_da8c8 cJxc12de_init_da8c8 1 0 := ⟨⟨um_Jx4a65c_1, ui_Jxc12de, ud_Jxc12de_init_da8c8, by decide +kernel⟩, by decide +kernel, un_Jxc12de_init_da8c8⟩
theorem lk_Jx4a65c_66 : LkS RJx4a65c 66 yJ7_copyOf_1904c cJ7_copyOf_1904c 2 (some (.array (.object "java/lang/Object"))) 2 := ⟨⟨um_Jx4a65c_66, ui_J7, ud_J7_copyOf_1904c, by decide +kernel⟩, us_J7_copyOf_1904c⟩
theorem lk_Jx4a65c_69 : LkV RJx4a65c 69 RJx4a65c yJx4a65c_grow_92f84 cJx4a65c_grow_92f84 4 (some (.array (.object "java/lang/Object"))) 1 := ⟨⟨um_Jx4a65c_69, ui_Jx4a65c, ud_Jx4a65c_grow_92f84, by decide +kernel⟩, un_Jx4a65c_grow_92f84, ue_Jx4a65c_grow_92f84⟩
theorem lk_Jx4a65c_73 : LkS RJx4a65c 73 yJ8_newLength_cabcc cJ8_newLength_cabcc 4 (some .int) 3 := ⟨⟨um_Jx4a65c_73, ui_J8, ud_J8_newLength_cabcc, by decide +kernel⟩, us_J8_newLength_cabcc⟩
theorem lk_Jx4a65c_79 : LkS RJx4a65c 79 yJ9_max_7cf53 cJ9_max_7cf53 2 (some .int) 2 := ⟨⟨um_Jx4a65c_79, ui_J9, ud_J9_max_7cf53, by decide +kernel⟩, us_J9_max_7cf53⟩
theorem lk_Jx4a65c_118 : LkS RJx4a65c 118 yJ15_checkIndex_7cf53 cJ15_checkIndex_7cf53 2 (some .int) 2 := ⟨⟨um_Jx4a65c_118, ui_J15, ud_J15_checkIndex_7cf53, by decide +kernel⟩, us_J15_checkIndex_7cf53⟩
theorem lk_Jx4a65c_123 : LkV RJx4a65c 123 RJx4a65c yJx4a65c_elementData_915e3 cJx4a65c_elementData_915e3 2 (some (.object "java/lang/Object")) 1 := ⟨⟨um_Jx4a65c_123, ui_Jx4a65c, ud_Jx4a65c_elementData_915e3, by decide +kernel⟩, un_Jx4a65c_elementData_915e3, ue_Jx4a65c_elementData_915e3⟩
theorem lk_Jx4a65c_129 : LkV RJx4a65c 129 RJx4a65c yJx4a65c_grow_d5877 cJx4a65c_grow_d5877 1 (some (.array (.object "java/lang/Object"))) 0 := ⟨⟨um_Jx4a65c_129, ui_Jx4a65c, ud_Jx4a65c_grow_d5877, by decide +kernel⟩, un_Jx4a65c_grow_d5877, ue_Jx4a65c_grow_d5877⟩
theorem lk_Jx4a65c_131 : LkV RJx4a65c 131 RJx4a65c yJx4a65c_add_72be8 cJx4a65c_add_72be8 4 none 3 := ⟨⟨um_Jx4a65c_131, ui_Jx4a65c, ud_Jx4a65c_add_72be8, by decide +kernel⟩, un_Jx4a65c_add_72be8, ue_Jx4a65c_add_72be8⟩
theorem lk_Jxc12de_1 : LkI RJxc12de 1 yJxa1e45_init_da8c8 cJxa1e45_init_da8c8 1 0 := ⟨⟨um_Jxc12de_1, ui_Jxa1e45, ud_Jxa1e45_init_da8c8, by decide +kernel⟩, by decide +kernel, un_Jxa1e45_init_da8c8⟩
theorem lk_L_9 : LkS RL 9 yL_cell cL_cell 2 (some .int) 2 := ⟨⟨um_L_9, ui_L, ud_L_cell, by decide +kernel⟩, us_L_cell⟩
theorem lk_L_15 : LkS RL 15 yL_below cL_below 2 (some .int) 2 := ⟨⟨um_L_15, ui_L, ud_L_below, by decide +kernel⟩, us_L_below⟩
theorem lk_L_19 : LkV RL 19 RX3 yX3_setHours cX3_setHours 4 (some .boolean) 2 := ⟨⟨um_L_19, ui_X3, ud_X3_setHours, by decide +kernel⟩, un_X3_setHours, ue_X3_setHours⟩
theorem lk_L_25 : LkV RL 25 RX3 yX3_setTargets cX3_setTargets 5 (some .int) 3 := ⟨⟨um_L_25, ui_X3, ud_X3_setTargets, by decide +kernel⟩, un_X3_setTargets, ue_X3_setTargets⟩
theorem lk_L_29 : LkV RL 29 RX3 yX3_addAgent cX3_addAgent 6 (some .int) 4 := ⟨⟨um_L_29, ui_X3, ud_X3_addAgent, by decide +kernel⟩, un_X3_addAgent, ue_X3_addAgent⟩
theorem lk_L_33 : LkS RL 33 yL_open cL_open 4 (some .boolean) 3 := ⟨⟨um_L_33, ui_L, ud_L_open, by decide +kernel⟩, us_L_open⟩
theorem lk_L_37 : LkV RL 37 RX3 yX3_open cX3_open 6 (some .int) 4 := ⟨⟨um_L_37, ui_X3, ud_X3_open, by decide +kernel⟩, un_X3_open, ue_X3_open⟩
theorem lk_L_53 : LkI RL 53 yX3_init cX3_init 1 0 := ⟨⟨um_L_53, ui_X3, ud_X3_init, by decide +kernel⟩, by decide +kernel, un_X3_init⟩
theorem lk_L_54 : LkS RL 54 yL_build cL_build 8 (some (.array .int)) 4 := ⟨⟨um_L_54, ui_L, ud_L_build, by decide +kernel⟩, us_L_build⟩
theorem lk_L_58 : LkV RL 58 RX3 yX3_ticket cX3_ticket 4 (some .int) 2 := ⟨⟨um_L_58, ui_X3, ud_X3_ticket, by decide +kernel⟩, un_X3_ticket, ue_X3_ticket⟩
theorem lk_L_61 : LkV RL 61 RX3 yX3_pause cX3_pause 3 (some .int) 1 := ⟨⟨um_L_61, ui_X3, ud_X3_pause, by decide +kernel⟩, un_X3_pause, ue_X3_pause⟩
theorem lk_L_65 : LkV RL 65 RX3 yX3_resume cX3_resume 3 (some .int) 1 := ⟨⟨um_L_65, ui_X3, ud_X3_resume, by decide +kernel⟩, un_X3_resume, ue_X3_resume⟩
theorem lk_L_68 : LkV RL 68 RX3 yX3_reopen cX3_reopen 4 (some .int) 2 := ⟨⟨um_L_68, ui_X3, ud_X3_reopen, by decide +kernel⟩, un_X3_reopen, ue_X3_reopen⟩
theorem lk_L_71 : LkV RL 71 RX3 yX3_merge cX3_merge 5 (some .int) 2 := ⟨⟨um_L_71, ui_X3, ud_X3_merge, by decide +kernel⟩, un_X3_merge, ue_X3_merge⟩
theorem lk_L_74 : LkV RL 74 RX3 yX3_pass cX3_pass 4 (some .int) 1 := ⟨⟨um_L_74, ui_X3, ud_X3_pass, by decide +kernel⟩, un_X3_pass, ue_X3_pass⟩
theorem lk_L_77 : LkV RL 77 RX3 yX3_agent cX3_agent 4 (some .int) 2 := ⟨⟨um_L_77, ui_X3, ud_X3_agent, by decide +kernel⟩, un_X3_agent, ue_X3_agent⟩
theorem lk_L_80 : LkV RL 80 RX3 yX3_now cX3_now 1 (some .int) 0 := ⟨⟨um_L_80, ui_X3, ud_X3_now, by decide +kernel⟩, un_X3_now, ue_X3_now⟩
theorem lk_L_84 : LkV RL 84 RX3 yX3_service cX3_service 3 (some .int) 2 := ⟨⟨um_L_84, ui_X3, ud_X3_service, by decide +kernel⟩, un_X3_service, ue_X3_service⟩
theorem lk_L_87 : LkV RL 87 RX3 yX3_all cX3_all 4 (some .int) 1 := ⟨⟨um_L_87, ui_X3, ud_X3_all, by decide +kernel⟩, un_X3_all, ue_X3_all⟩
theorem lk_X1_22 : LkV RX1 22 RX1 yX1_minutesOfDay cX1_minutesOfDay 6 (some .int) 3 := ⟨⟨um_X1_22, ui_X1, ud_X1_minutesOfDay, by decide +kernel⟩, un_X1_minutesOfDay, ue_X1_minutesOfDay⟩
theorem lk_X1_28 : LkS RX1 28 yJ9_max_7cf53 cJ9_max_7cf53 2 (some .int) 2 := ⟨⟨um_X1_28, ui_J9, ud_J9_max_7cf53, by decide +kernel⟩, us_J9_max_7cf53⟩
theorem lk_X1_34 : LkS RX1 34 yJ9_min_7cf53 cJ9_min_7cf53 2 (some .int) 2 := ⟨⟨um_X1_34, ui_J9, ud_J9_min_7cf53, by decide +kernel⟩, us_J9_min_7cf53⟩
theorem lk_X3_9 : LkI RX3 9 yX1_init cX1_init 1 0 := ⟨⟨um_X3_9, ui_X1, ud_X1_init, by decide +kernel⟩, by decide +kernel, un_X1_init⟩
theorem lk_X3_25 : LkI RX3 25 yJx4a65c_init_da8c8 cJx4a65c_init_da8c8 1 0 := ⟨⟨um_X3_25, ui_Jx4a65c, ud_Jx4a65c_init_da8c8, by decide +kernel⟩, by decide +kernel, un_Jx4a65c_init_da8c8⟩
theorem lk_X3_37 : LkS RX3 37 yX3_isSpanOfDay cX3_isSpanOfDay 2 (some .boolean) 2 := ⟨⟨um_X3_37, ui_X3, ud_X3_isSpanOfDay, by decide +kernel⟩, us_X3_isSpanOfDay⟩
theorem lk_X3_54 : LkS RX3 54 yX3_isPriority cX3_isPriority 1 (some .boolean) 1 := ⟨⟨um_X3_54, ui_X3, ud_X3_isPriority, by decide +kernel⟩, us_X3_isPriority⟩
theorem lk_X3_68 : LkV RX3 68 RX1 yX1_minutesBetween cX1_minutesBetween 5 (some .int) 2 := ⟨⟨um_X3_68, ui_X1, ud_X1_minutesBetween, by decide +kernel⟩, un_X1_minutesBetween, ue_X1_minutesBetween⟩
theorem lk_X3_72 : LkS RX3 72 yX3_isSetOfSkills cX3_isSetOfSkills 1 (some .boolean) 1 := ⟨⟨um_X3_72, ui_X3, ud_X3_isSetOfSkills, by decide +kernel⟩, us_X3_isSetOfSkills⟩
theorem lk_X3_77 : LkV RX3 77 RJx4a65c yJx4a65c_size_8abf5 cJx4a65c_size_8abf5 1 (some .int) 0 := ⟨⟨um_X3_77, ui_Jx4a65c, ud_Jx4a65c_size_8abf5, by decide +kernel⟩, un_Jx4a65c_size_8abf5, ue_Jx4a65c_size_8abf5⟩
theorem lk_X3_88 : LkI RX3 88 yX0_init cX0_init 6 5 := ⟨⟨um_X3_88, ui_X0, ud_X0_init, by decide +kernel⟩, by decide +kernel, un_X0_init⟩
theorem lk_X3_91 : LkV RX3 91 RJx4a65c yJx4a65c_add_9ea2d cJx4a65c_add_9ea2d 2 (some .boolean) 1 := ⟨⟨um_X3_91, ui_Jx4a65c, ud_Jx4a65c_add_9ea2d, by decide +kernel⟩, un_Jx4a65c_add_9ea2d, ue_Jx4a65c_add_9ea2d⟩
theorem lk_X3_98 : LkV RX3 98 RX3 yX3_agentAt cX3_agentAt 2 (some (.object "HelpDesk$Agent")) 1 := ⟨⟨um_X3_98, ui_X3, ud_X3_agentAt, by decide +kernel⟩, un_X3_agentAt, ue_X3_agentAt⟩
theorem lk_X3_116 : LkV RX3 116 RX0 yX0_hasSkill cX0_hasSkill 2 (some .boolean) 1 := ⟨⟨um_X3_116, ui_X0, ud_X0_hasSkill, by decide +kernel⟩, un_X0_hasSkill, ue_X0_hasSkill⟩
theorem lk_X3_119 : LkS RX3 119 yX3_handBack cX3_handBack 1 none 1 := ⟨⟨um_X3_119, ui_X3, ud_X3_handBack, by decide +kernel⟩, us_X3_handBack⟩
theorem lk_X3_125 : LkV RX3 125 RX3 yX3_toldOfAgent cX3_toldOfAgent 3 (some .int) 2 := ⟨⟨um_X3_125, ui_X3, ud_X3_toldOfAgent, by decide +kernel⟩, un_X3_toldOfAgent, ue_X3_toldOfAgent⟩
theorem lk_X3_129 : LkV RX3 129 RX3 yX3_firstByLiking cX3_firstByLiking 5 (some (.object "HelpDesk$Ticket")) 1 := ⟨⟨um_X3_129, ui_X3, ud_X3_firstByLiking, by decide +kernel⟩, un_X3_firstByLiking, ue_X3_firstByLiking⟩
theorem lk_X3_133 : LkS RX3 133 yX3_numberOfTicket cX3_numberOfTicket 1 (some .int) 1 := ⟨⟨um_X3_133, ui_X3, ud_X3_numberOfTicket, by decide +kernel⟩, us_X3_numberOfTicket⟩
theorem lk_X3_141 : LkI RX3 141 yX2_init cX2_init 6 5 := ⟨⟨um_X3_141, ui_X2, ud_X2_init, by decide +kernel⟩, by decide +kernel, un_X2_init⟩
theorem lk_X3_143 : LkV RX3 143 RX3 yX3_ticketAt cX3_ticketAt 2 (some (.object "HelpDesk$Ticket")) 1 := ⟨⟨um_X3_143, ui_X3, ud_X3_ticketAt, by decide +kernel⟩, un_X3_ticketAt, ue_X3_ticketAt⟩
theorem lk_X3_157 : LkS RX3 157 yX3_takeFromHolder cX3_takeFromHolder 2 none 1 := ⟨⟨um_X3_157, ui_X3, ud_X3_takeFromHolder, by decide +kernel⟩, us_X3_takeFromHolder⟩
theorem lk_X3_173 : LkV RX3 173 RX2 yX2_isOpen cX2_isOpen 1 (some .boolean) 0 := ⟨⟨um_X3_173, ui_X2, ud_X2_isOpen, by decide +kernel⟩, un_X2_isOpen, ue_X2_isOpen⟩
theorem lk_X3_182 : LkS RX3 182 yJ9_min_7cf53 cJ9_min_7cf53 2 (some .int) 2 := ⟨⟨um_X3_182, ui_J9, ud_J9_min_7cf53, by decide +kernel⟩, us_J9_min_7cf53⟩
theorem lk_X3_190 : LkS RX3 190 yJ9_max_7cf53 cJ9_max_7cf53 2 (some .int) 2 := ⟨⟨um_X3_190, ui_J9, ud_J9_max_7cf53, by decide +kernel⟩, us_J9_max_7cf53⟩
theorem lk_X3_208 : LkS RX3 208 yX3_toldOfTicket cX3_toldOfTicket 2 (some .int) 2 := ⟨⟨um_X3_208, ui_X3, ud_X3_toldOfTicket, by decide +kernel⟩, us_X3_toldOfTicket⟩
theorem lk_X3_216 : LkV RX3 216 RX3 yX3_slackOf cX3_slackOf 2 (some .int) 1 := ⟨⟨um_X3_216, ui_X3, ud_X3_slackOf, by decide +kernel⟩, un_X3_slackOf, ue_X3_slackOf⟩
theorem lk_X3_226 : LkV RX3 226 RX3 yX3_passMinute cX3_passMinute 2 (some .int) 0 := ⟨⟨um_X3_226, ui_X3, ud_X3_passMinute, by decide +kernel⟩, un_X3_passMinute, ue_X3_passMinute⟩
theorem lk_X3_231 : LkV RX3 231 RJx4a65c yJx4a65c_get_915e3 cJx4a65c_get_915e3 2 (some (.object "java/lang/Object")) 1 := ⟨⟨um_X3_231, ui_Jx4a65c, ud_Jx4a65c_get_915e3, by decide +kernel⟩, un_Jx4a65c_get_915e3, ue_Jx4a65c_get_915e3⟩
theorem lk_X3_256 : LkV RX3 256 RX3 yX3_sendHomeAgents cX3_sendHomeAgents 4 none 0 := ⟨⟨um_X3_256, ui_X3, ud_X3_sendHomeAgents, by decide +kernel⟩, un_X3_sendHomeAgents, ue_X3_sendHomeAgents⟩
theorem lk_X3_259 : LkV RX3 259 RX3 yX3_giveOutTickets cX3_giveOutTickets 4 none 0 := ⟨⟨um_X3_259, ui_X3, ud_X3_giveOutTickets, by decide +kernel⟩, un_X3_giveOutTickets, ue_X3_giveOutTickets⟩
theorem lk_X3_262 : LkV RX3 262 RX1 yX1_isService cX1_isService 3 (some .boolean) 1 := ⟨⟨um_X3_262, ui_X1, ud_X1_isService, by decide +kernel⟩, un_X1_isService, ue_X1_isService⟩
theorem lk_X3_265 : LkV RX3 265 RX3 yX3_ageTickets cX3_ageTickets 3 none 0 := ⟨⟨um_X3_265, ui_X3, ud_X3_ageTickets, by decide +kernel⟩, un_X3_ageTickets, ue_X3_ageTickets⟩
theorem lk_X3_268 : LkV RX3 268 RX3 yX3_work cX3_work 5 (some .int) 0 := ⟨⟨um_X3_268, ui_X3, ud_X3_work, by decide +kernel⟩, un_X3_work, ue_X3_work⟩
theorem lk_X3_271 : LkV RX3 271 RX0 yX0_isThere cX0_isThere 3 (some .boolean) 1 := ⟨⟨um_X3_271, ui_X0, ud_X0_isThere, by decide +kernel⟩, un_X0_isThere, ue_X0_isThere⟩
theorem lk_X3_274 : LkS RX3 274 yX3_give cX3_give 2 none 2 := ⟨⟨um_X3_274, ui_X3, ud_X3_give, by decide +kernel⟩, us_X3_give⟩
theorem lk_X3_281 : LkV RX3 281 RX3 yX3_solve cX3_solve 3 none 2 := ⟨⟨um_X3_281, ui_X3, ud_X3_solve, by decide +kernel⟩, un_X3_solve, ue_X3_solve⟩
theorem lk_X3_297 : LkV RX3 297 RX3 yX3_isLikedMore cX3_isLikedMore 6 (some .boolean) 3 := ⟨⟨um_X3_297, ui_X3, ud_X3_isLikedMore, by decide +kernel⟩, un_X3_isLikedMore, ue_X3_isLikedMore⟩
theorem lk_X3_301 : LkS RX3 301 yX3_numberOfAgent cX3_numberOfAgent 1 (some .int) 1 := ⟨⟨um_X3_301, ui_X3, ud_X3_numberOfAgent, by decide +kernel⟩, us_X3_numberOfAgent⟩
theorem uk_X3 : Cond.instantiable RX3 6 ∈ Uw := Uw_of (i := 38) (by decide +kernel) (by decide +kernel)
theorem uk_X1 : Cond.instantiable RX1 2 ∈ Uw := Uw_of (i := 46) (by decide +kernel) (by decide +kernel)
theorem uk_Jx4a65c : Cond.instantiable RJx4a65c 3 ∈ Uw := Uw_of (i := 61) (by decide +kernel) (by decide +kernel)
theorem ua_int : Cond.arrayClass .int ∈ Uw := Uw_of (i := 86) (by decide +kernel) (by decide +kernel)
theorem ua_byte : Cond.arrayClass .byte ∈ Uw := Uw_of (i := 182) (by decide +kernel) (by decide +kernel)
theorem uk_X0 : Cond.instantiable RX0 8 ∈ Uw := Uw_of (i := 417) (by decide +kernel) (by decide +kernel)
theorem uk_X2 : Cond.instantiable RX2 15 ∈ Uw := Uw_of (i := 508) (by decide +kernel) (by decide +kernel)
theorem lt_eA : LkT RX3 41 45 eA := ⟨ul_X3_41, ui_IllegalArgumentException, by decide +kernel, by decide +kernel, by decide +kernel, by decide +kernel⟩
theorem lt_eS : LkT RX3 81 85 eS := ⟨ul_X3_81, ui_IllegalStateException, by decide +kernel, by decide +kernel, by decide +kernel, by decide +kernel⟩
theorem lt_eI : LkT RX3 58 62 eI := ⟨ul_X3_58, ui_IndexOutOfBoundsException, by decide +kernel, by decide +kernel, by decide +kernel, by decide +kernel⟩
end
section
/-! THE REFERENCE'S WORLD: one object (place 0), its arrays; s j i: place i of array field j; s 0 f: number field f -/
def u2 (s : Nat → Nat → Int32) (j i : Nat) (x : Int32) : Nat → Nat → Int32 := fun a => if a = j then upd (s a) i x else s a
abbrev ix (x : Int32) : Nat := x.toNatClampNeg
def dP (v0 : Option Value) (w0 : va_W) : Option Value → va_W → Prop := fun v w => v = v0 ∧ w = w0
def lvle : List (Option Value) → List (Option Value) → Prop
  | none :: a, _ :: b => lvle a b
  | some v :: a, w :: b => w = some v ∧ lvle a b
  | [], _ => True
  | _ :: _, [] => False
theorem lvle_at : ∀ (a b : List (Option Value)), lvle a b → ∀ (i : Nat) (v : Value), a[i]? = some (some v) → b[i]? = some (some v)
  | [], _, _, i, v, h => by simp at h
  | _ :: _, [], h0, _, _, _ => by cases ‹Option Value› <;> exact absurd h0 (by simp [lvle])
  | none :: a, w :: b, h0, 0, v, h => by simp at h
  | none :: a, w :: b, h0, i + 1, v, h => by
    have h0' : lvle a b := h0
    simpa using lvle_at a b h0' i v (by simpa using h)
  | some u :: a, w :: b, h0, 0, v, h => by
    have e : u = v := by simpa using h
    rw [h0.1, e]; rfl
  | some u :: a, w :: b, h0, i + 1, v, h => by simpa using lvle_at a b h0.2 i v (by simpa using h)
section DROWS
variable {k : Kx} {cc : ByteArray} {own : String} {R : Room} {nL : Nat} {ws ws' wc wr : va_W} {c n pc : Nat} {lv lv' : List (Option Value)} {st stk : List Value}
theorem j_ialdN (F : Fx k cc own R nL) {a N i : Nat} {f : Nat → Int32} (hd : decode cc pc = .ok (.iaload, 1)) (q : Nat) (hq : ws[q]? = some (a, .inl ((kD k).1 100, N, .inl f))) (hin : i < N ∧ N < 2 ^ 31) (K : J k ws c n (pc + 1) lv (.int (f i) :: st)) : J k ws c n pc lv (.int (nI i) :: .ref a :: st) :=
  j_iald F hd q hq (vp_in_nI hin.1 hin.2) (by rw [nI_clamp (Nat.lt_trans hin.1 hin.2)]; exact K)
theorem j_iastN (F : Fx k cc own R nL) (hw : kw k = true) {a N i : Nat} {f : Nat → Int32} {x : Int32} (hd : decode cc pc = .ok (.iastore, 1)) (q : Nat) (hq : ws[q]? = some (a, .inl ((kD k).1 100, N, .inl f))) (hin : i < N ∧ N < 2 ^ 31) (ws' : va_W) (he : ws.set q (a, .inl ((kD k).1 100, N, .inl (upd f i x))) = ws') (K : J k ws' c n (pc + 1) lv st) : J k ws c n pc lv (.int x :: .int (nI i) :: .ref a :: st) :=
  j_iast F hw hd q hq (vp_in_nI hin.1 hin.2) ws' (by rw [nI_clamp (Nat.lt_trans hin.1 hin.2)]; exact he) K
theorem j_ifbeq (F : Fx k cc own R nL) {b : Bool} {off : Int} {tgt : Nat} (hd : decode cc pc = .ok (.ifCond .eq off, 3)) (ht : (pc : Int) + off = (tgt : Int)) (K1 : ¬ b = true → J k ws c n tgt lv st) (K2 : b = true → J k ws c n (pc + 3) lv st) : J k ws c n pc lv (.int (b1 b) :: st) := j_ifeq F hd ht (fun h => K1 (by rw [b1_0.mp h]; decide)) (fun h => K2 (b1_1.mp h))
theorem j_ifbne (F : Fx k cc own R nL) {b : Bool} {off : Int} {tgt : Nat} (hd : decode cc pc = .ok (.ifCond .ne off, 3)) (ht : (pc : Int) + off = (tgt : Int)) (K1 : b = true → J k ws c n tgt lv st) (K2 : ¬ b = true → J k ws c n (pc + 3) lv st) : J k ws c n pc lv (.int (b1 b) :: st) := j_ifne F hd ht (fun h => K1 (b1_1.mp h)) (fun h => K2 (by rw [b1_0.mp h]; decide))
/-- Nat counters against Nat bounds -/
theorem j_icgeN (F : Fx k cc own R nL) {x y : Nat} {off : Int} {tgt : Nat} (hd : decode cc pc = .ok (.if_icmp .ge off, 3)) (ht : (pc : Int) + off = (tgt : Int)) (hx : x < 2 ^ 31 ∧ y < 2 ^ 31) (K1 : y ≤ x → J k ws c n tgt lv st) (K2 : x < y → J k ws c n (pc + 3) lv st) : J k ws c n pc lv (.int (nI y) :: .int (nI x) :: st) := j_icge F hd ht (fun h => K1 ((nI_leI hx.2 hx.1).mp h)) (fun h => K2 (Nat.lt_of_not_le fun z => h (nI_le z hx.1)))
theorem j_iincN (F : Fx k cc own R nL) {i x : Nat} (lv' : List (Option Value)) (hd : decode cc pc = .ok (.iinc i 1, 3)) (hl : lv[i]? = some (some (.int (nI x)))) (ho : (Nat.blt i lv.length && okst lv i) = true) (hn : Nat.blt i nL = true) (he : lv.set i (some (.int (nI (x + 1)))) = lv') (K : J k ws c n (pc + 3) lv' st) : J k ws c n pc lv st := j_iinc F lv' hd hl (by rw [← nI_1]; rfl) ho hn he K
/-- a writer's call, its world the whole one, its end known -/
theorem j_dmV (F : Fx k cc own R nL) (hw : kw k = true) {C : String} {y : MethodName} {ccy : ByteArray} {maxL : Nat} {ret : Option FieldType} {fr lo mc ms idx b : Nat} {as : List Value} {v0 : Option Value} {w0 : va_W} (hM : CM (kl k) (kD k) y ccy maxL ret fr lo mc ms ws (.ref b :: as) (dP v0 w0)) (hk : LkV own idx C y ccy maxL ret as.length) (hd : decode cc pc = .ok (.invokevirtual idx, 3)) (hR : fr + 1 ≤ R.frames ∧ 8 + (maxL + 11) + lo ≤ R.locals)
    {T : u_T} {N ci : Nat} {fs : List Value} (q : Nat) (hq : ws[q]? = some (b, .inr (ci, fs))) (hc : vwCl[ci]? = some (C, T, N)) (hst : stk = as.reverse ++ .ref b :: st) (hW : (st.map fun v => v.category).sum ≤ 8) (hcn : c + mc ≤ R.cells ∧ n + ms ≤ R.slots) {st' : List Value} (hs : vlist v0 st = st') (K : J k w0 (c + mc) (n + ms) (pc + 3) lv st') : J k ws c n pc lv stk := by
  rw [← List.append_nil ws]
  refine j_cmV F hw hM hk hd hR q (by rw [List.append_nil]; exact hq) hc hst hW hcn (fun v w1 h => ?_)
  obtain ⟨rfl, rfl⟩ := h
  rw [List.append_nil, hs]
  exact K
theorem j_dmS (F : Fx k cc own R nL) (hw : kw k = true) {y : MethodName} {ccy : ByteArray} {maxL : Nat} {ret : Option FieldType} {fr lo mc ms idx : Nat} {as : List Value} {v0 : Option Value} {w0 : va_W} (hM : CM (kl k) (kD k) y ccy maxL ret fr lo mc ms ws as (dP v0 w0)) (hk : LkS own idx y ccy maxL ret as.length) (hd : decode cc pc = .ok (.invokestatic idx, 3)) (hR : fr + 1 ≤ R.frames ∧ 8 + (maxL + 11) + lo ≤ R.locals)
    (hst : stk = as.reverse ++ st) (hW : (st.map fun v => v.category).sum ≤ 8) (hcn : c + mc ≤ R.cells ∧ n + ms ≤ R.slots) {st' : List Value} (hs : vlist v0 st = st') (K : J k w0 (c + mc) (n + ms) (pc + 3) lv st') : J k ws c n pc lv stk := by
  rw [← List.append_nil ws]
  refine j_cmS F hw hM hk hd hR hst hW hcn (fun v w1 h => ?_)
  obtain ⟨rfl, rfl⟩ := h
  rw [List.append_nil, hs]
  exact K
theorem j_lvw (lv' : List (Option Value)) (h : lvle lv' lv) (K : J k ws c n pc lv' st) : J k ws c n pc lv st := j_lv lv' (lvle_at _ _ h) K
end DROWS
theorem va_rf_nar {nm : String} (x : Option Nat) : narrow (.object nm) (va_rf x) = va_rf x := by cases x <;> rfl
theorem va_rf_fit {nm : String} (x : Option Nat) : fits (.object nm) (va_rf x) = true := by cases x <;> rfl
theorem u2_at (s : Nat → Nat → Int32) (j i : Nat) (x : Int32) (a b : Nat) : u2 s j i x a b = if a = j ∧ b = i then x else s a b := by
  unfold u2 upd
  by_cases h : a = j
  · subst h
    by_cases h2 : b = i <;> simp [h2]
  · simp [h]
theorem u2_same (s : Nat → Nat → Int32) (j i : Nat) (x : Int32) : u2 s j i x j i = x := by rw [u2_at, if_pos ⟨rfl, rfl⟩]
theorem u2_ne {s : Nat → Nat → Int32} {j i : Nat} {x : Int32} {a b : Nat} (h : ¬ (a = j ∧ b = i)) : u2 s j i x a b = s a b := by rw [u2_at, if_neg h]
theorem u2_ne1 {s : Nat → Nat → Int32} {j i : Nat} {x : Int32} {a : Nat} (h : ¬ a = j) : u2 s j i x a = s a := by unfold u2; rw [if_neg h]

abbrev S2 : Type := Nat → Nat → Int32
theorem vp_lt {x : Int32} {n : Nat} (h : vp_in x n) : ix x < n := Nat.not_le.mp fun q => h (Or.inr q)
theorem tab_out7 {x : Int32} (h0 : ¬ x = 0) (h1 : ¬ x = 1) (h2 : ¬ x = 2) (h3 : ¬ x = 3) (h4 : ¬ x = 4) (h5 : ¬ x = 5) (h6 : ¬ x = 6) : x.toInt < 0 ∨ 6 < x.toInt := by
  simp only [← Int32.toInt_inj] at h0 h1 h2 h3 h4 h5 h6
  simp at h0 h1 h2 h3 h4 h5 h6
  omega
theorem tab_out3 {x : Int32} (h0 : ¬ x = 0) (h1 : ¬ x = 1) (h2 : ¬ x = 2) : x.toInt < 0 ∨ 2 < x.toInt := by
  simp only [← Int32.toInt_inj] at h0 h1 h2
  simp at h0 h1 h2
  omega
theorem ix_nI {n : Nat} (h : n < 2 ^ 31) : ix (nI n) = n := nI_clamp h
theorem nI_ne_m1 {n : Nat} (h : n < 2 ^ 31) : ¬ nI n = -1 := fun e => by
  have := congrArg Int32.toInt e
  rw [nI_toInt h] at this
  have e1 : (-1 : Int32).toInt = -1 := by decide
  rw [e1] at this
  omega
theorem minPrio {x y : Int32} (h1 : vp_in x 4) (h2 : vp_in y 4) : vp_in (if x < y then x else y) 4 := by
  split
  · exact h1
  · exact h2
theorem j_iaddN {k : Kx} {cc : ByteArray} {own : String} {R : Room} {nL : Nat} {ws : va_W} {c n pc : Nat} {lv : List (Option Value)} {st : List Value} (F : Fx k cc own R nL) {a b : Nat} (hd : decode cc pc = .ok (.iadd, 1)) (K : J k ws c n (pc + 1) lv (.int (nI (a + b)) :: st)) : J k ws c n pc lv (.int (nI b) :: .int (nI a) :: st) := j_iadd F hd (by rw [nI_add]; exact K)
section XROWS
variable {k : Kx} {cc : ByteArray} {own : String} {R : Room} {nL : Nat} {ws : va_W} {c n pc : Nat} {lv : List (Option Value)} {st : List Value}
theorem j_icgeE (F : Fx k cc own R nL) {x : Nat} {z : Int32} {y : Nat} (hz : z = nI y) {off : Int} {tgt : Nat} (hd : decode cc pc = .ok (.if_icmp .ge off, 3)) (ht : (pc : Int) + off = (tgt : Int)) (hx : x < 2 ^ 31 ∧ y < 2 ^ 31) (K1 : y ≤ x → J k ws c n tgt lv st) (K2 : x < y → J k ws c n (pc + 3) lv st) : J k ws c n pc lv (.int z :: .int (nI x) :: st) := by
  subst hz
  exact j_icgeN F hd ht hx K1 K2
end XROWS
end
section
/-! ARRAYLIST'S READS -/
section LREADS
variable {k : Kx} {cc : ByteArray} {own : String} {R : Room} {nL : Nat} {ws : va_W} {c n pc : Nat} {lv : List (Option Value)} {st : List Value}
theorem j_cast (F : Fx k cc own R nL) {idx ci N a : Nat} {nm : String} {T : u_T} {fs : List Value} (hu : Cond.classLink own idx nm ∈ Uw) (hd : decode cc pc = .ok (.checkcast idx, 3)) (q : Nat) (hq : ws[q]? = some (a, .inr (ci, fs))) (hc : vwCl[ci]? = some (nm, T, N)) (K : J k ws c n (pc + 3) lv (.ref a :: st)) : J k ws c n pc lv (.ref a :: st) := fun H locs ls hP hL =>
  va_castS F.hx F.hb F.hown (F.hts hu) (F.hK.1.1 ci _ hc).2 (hP.recv F hq hc) hd (K H locs ls hP hL)
theorem j_aretRa (F : Fx k cc own R nL) {v : Value} {nm : String} {a : Nat} (hR : RR k (some (.object nm)) v) (hd : decode cc pc = .ok (.areturn, 1)) (hv : v = .ref a) : J k ws 0 0 pc lv [.ref a] := j_aretR (x := some a) F hR hd hv
end LREADS
abbrev lsC (L E : Nat) (m : Int32) (n : Nat) : Nat × va_E := (L, .inr (0, [.int m, .ref E, .int (nI n)]))
abbrev elC (D : va_G) (E cap : Nat) (f : Nat → Option Nat) : Nat × va_E := (E, .inl (D.1 101, cap, .inr (.inr (.inr (.inr f)))))
theorem qJ_size (l : Launch) (hst : l.stackTraces = false) (D : va_G) (L E : Nat) (m : Int32) (n : Nat) : CR l D yJx4a65c_size_8abf5 cJx4a65c_size_8abf5 1 (some .int) 0 0 [lsC L E m n] [.ref L] (.int (nI n)) := by
  refine CR_of [some (.ref L)] hst (by decide +kernel) rfl (Nat.le_of_ble_eq_true rfl) (fun k F hl hD hR => ?_)
  subst hl hD
  refine j_aloadn F dJx4a65c_size_8abf5_0 rfl ?_
  refine gf_Jx4a65c_48 F (v := .int (nI n)) dJx4a65c_size_8abf5_1 0 rfl rfl ?_
  exact j_iretR F hR dJx4a65c_size_8abf5_4 rfl
theorem qJ_chk3 (l : Launch) (hst : l.stackTraces = false) (D : va_G) (i n : Int32) (h0 : ¬ i < 0) (h1 : i < n) : CR l D yJ3_checkIndex_8e157 cJ3_checkIndex_8e157 3 (some .int) 0 0 [] [.int i, .int n, .null] (.int i) := by
  refine CR_of [some (.int i), some (.int n), some .null] hst (by decide +kernel) rfl (Nat.le_of_ble_eq_true rfl) (fun k F hl hD hR => ?_)
  subst hl hD
  refine j_iloadn F dJ3_checkIndex_8e157_0 rfl ?_
  refine j_iflt F (tgt := 9) dJ3_checkIndex_8e157_1 (by decide) (fun h => absurd h h0) (fun _ => ?_)
  refine j_iloadn F dJ3_checkIndex_8e157_4 rfl ?_
  refine j_iloadn F dJ3_checkIndex_8e157_5 rfl ?_
  refine j_iclt F (tgt := 16) dJ3_checkIndex_8e157_6 (by decide) (fun _ => ?_) (fun h => absurd h1 h)
  refine j_iloadn F dJ3_checkIndex_8e157_16 rfl ?_
  exact j_iretR F hR dJ3_checkIndex_8e157_17 rfl
theorem qJ_chk2 (l : Launch) (hst : l.stackTraces = false) (D : va_G) (i n : Int32) (h0 : ¬ i < 0) (h1 : i < n) : CR l D yJ15_checkIndex_7cf53 cJ15_checkIndex_7cf53 2 (some .int) 1 22 [] [.int i, .int n] (.int i) := by
  refine CR_of [some (.int i), some (.int n)] hst (by decide +kernel) rfl (Nat.le_of_ble_eq_true rfl) (fun k F hl hD hR => ?_)
  subst hl hD
  refine j_iloadn F dJ15_checkIndex_7cf53_0 rfl ?_
  refine j_iloadn F dJ15_checkIndex_7cf53_1 rfl ?_
  refine j_null F dJ15_checkIndex_7cf53_2 ?_
  refine j_rdS F (qJ_chk3 (kl k) hst (kD k) i n h0 h1) lk_J15_105 dJ15_checkIndex_7cf53_3 ⟨(Nat.le_of_ble_eq_true rfl), (Nat.le_of_ble_eq_true rfl)⟩ (fun _ h => nomatch h) rfl (Nat.le_of_ble_eq_true rfl) ⟨(Nat.le_of_ble_eq_true rfl), (Nat.le_of_ble_eq_true rfl)⟩ ?_
  exact j_iretR F hR dJ15_checkIndex_7cf53_6 rfl
theorem qJ_elem (l : Launch) (hst : l.stackTraces = false) (D : va_G) (L E : Nat) (m : Int32) (n cap : Nat) (f : Nat → Option Nat) (i : Int32) (hi : vp_in i cap) : CR l D yJx4a65c_elementData_915e3 cJx4a65c_elementData_915e3 2 (some (.object "java/lang/Object")) 0 0 [lsC L E m n, elC D E cap f] [.ref L, .int i] (va_rf (f (ix i))) := by
  refine CR_of [some (.ref L), some (.int i)] hst (by decide +kernel) rfl (Nat.le_of_ble_eq_true rfl) (fun k F hl hD hR => ?_)
  subst hl hD
  refine j_aloadn F dJx4a65c_elementData_915e3_0 rfl ?_
  refine gf_Jx4a65c_9 F (v := .ref E) dJx4a65c_elementData_915e3_1 0 rfl rfl ?_
  refine j_iloadn F dJx4a65c_elementData_915e3_4 rfl ?_
  refine j_aald F dJx4a65c_elementData_915e3_5 1 rfl hi ?_
  exact j_aretR F hR dJx4a65c_elementData_915e3_6 rfl
theorem qJ_get (l : Launch) (hst : l.stackTraces = false) (D : va_G) (L E : Nat) (m : Int32) (n cap : Nat) (f : Nat → Option Nat) (i : Int32) (a : Nat) (hn : vp_in i n) (hc : n ≤ cap) (hn31 : n < 2 ^ 31) (hf : f (ix i) = some a) : CR l D yJx4a65c_get_915e3 cJx4a65c_get_915e3 2 (some (.object "java/lang/Object")) 2 43 [lsC L E m n, elC D E cap f] [.ref L, .int i] (.ref a) := by
  refine CR_of [some (.ref L), some (.int i)] hst (by decide +kernel) rfl (Nat.le_of_ble_eq_true rfl) (fun k F hl hD hR => ?_)
  subst hl hD
  have hlt : i < nI n := by
    rw [Int32.lt_iff_toInt_lt, nI_toInt hn31]; exact (vp_in_iff.mp hn).2
  have hcap : vp_in i cap := by
    rw [vp_in_iff] at hn ⊢
    omega
  refine j_iloadn F dJx4a65c_get_915e3_0 rfl ?_
  refine j_aloadn F dJx4a65c_get_915e3_1 rfl ?_
  refine gf_Jx4a65c_48 F (v := .int (nI n)) dJx4a65c_get_915e3_2 0 rfl rfl ?_
  refine j_rdS F (qJ_chk2 (kl k) hst (kD k) i (nI n) (fun h => hn (Or.inl h)) hlt) lk_Jx4a65c_118 dJx4a65c_get_915e3_5 ⟨(Nat.le_of_ble_eq_true rfl), (Nat.le_of_ble_eq_true rfl)⟩ (fun _ h => nomatch h) rfl (Nat.le_of_ble_eq_true rfl) ⟨(Nat.le_of_ble_eq_true rfl), (Nat.le_of_ble_eq_true rfl)⟩ ?_
  refine j_pop F dJx4a65c_get_915e3_8 rfl ?_
  refine j_aloadn F dJx4a65c_get_915e3_9 rfl ?_
  refine j_iloadn F dJx4a65c_get_915e3_10 rfl ?_
  refine j_rdV F (qJ_elem (kl k) hst (kD k) L E m n cap f i hcap) lk_Jx4a65c_123 dJx4a65c_get_915e3_11 ⟨(Nat.le_of_ble_eq_true rfl), (Nat.le_of_ble_eq_true rfl)⟩ (fun _ h => h) 0 rfl rfl rfl (Nat.le_of_ble_eq_true rfl) ⟨(Nat.le_of_ble_eq_true rfl), (Nat.le_of_ble_eq_true rfl)⟩ ?_
  rw [hf]
  exact j_aretRa F hR dJx4a65c_get_915e3_14 rfl
/-! THE CLASS'S WORLD: G says where things lie and what the lists are; v j i: number field j of the thing i, r j i: reference field j, by the other's number -/
abbrev LSt : Type := Nat × Int32 × Nat × (Nat → Option Nat)
abbrev CG : Type := (Nat → Nat → Nat) × Nat × Nat × LSt × LSt
abbrev R2 : Type := Nat → Nat → Option Nat
abbrev aA (G : CG) (i : Nat) : Nat := G.1 1 i
abbrev aT (G : CG) (i : Nat) : Nat := G.1 2 i
abbrev nA (G : CG) : Nat := G.2.1
abbrev nT (G : CG) : Nat := G.2.2.1
abbrev lA (G : CG) : LSt := G.2.2.2.1
abbrev lT (G : CG) : LSt := G.2.2.2.2
def u3 (r : R2) (j i : Nat) (x : Option Nat) : R2 := fun a => if a = j then va_up (r a) i x else r a
def DF (G : CG) (v : S2) : List Value := [.ref (G.1 0 1), .ref (G.1 0 2), .ref (G.1 0 3), .ref (G.1 0 4), .ref (G.1 0 5), .int (v 0 0)]
def HF (v : S2) : List Value := [.int (v 0 1), .int (v 0 2)]
def AF (G : CG) (v : S2) (r : R2) (i : Nat) : List Value := [.int (v 10 i), .int (v 11 i), .int (v 12 i), .int (v 13 i), .int (v 14 i), va_rf ((r 15 i).map (aT G)), .int (v 16 i), .int (v 17 i)]
def TF (G : CG) (v : S2) (r : R2) (i : Nat) : List Value := [.int (v 20 i), .int (v 21 i), .int (v 22 i), .int (v 23 i), .int (v 24 i), .int (v 25 i), .int (v 26 i), .int (v 27 i), .int (v 28 i), .int (v 29 i), .int (v 30 i), .int (v 31 i), va_rf ((r 32 i).map (aA G)), va_rf ((r 33 i).map (aA G)), va_rf ((r 34 i).map (aT G))]
def LW (D : va_G) (L : Nat) (ls : LSt) (n : Nat) : va_W := lsC L ls.1 ls.2.1 n :: (if ls.2.2.1 = 0 then [] else [elC D ls.1 ls.2.2.1 ls.2.2.2])
def fixC (D : va_G) (G : CG) (v : S2) : va_W := [(G.1 0 0, .inr (4, DF G v)), (G.1 0 1, .inr (2, HF v)), (G.1 0 2, .inl (D.1 100, 4, .inl (v 1))), (G.1 0 3, .inl (D.1 100, 4, .inl (v 2)))]
def ags (G : CG) (v : S2) (r : R2) (n : Nat) : va_W := (List.range n).map (fun i => (aA G i, .inr (1, AF G v r i)))
def tks (G : CG) (v : S2) (r : R2) (n : Nat) : va_W := (List.range n).map (fun i => (aT G i, .inr (3, TF G v r i)))
def CW (D : va_G) (G : CG) (v : S2) (r : R2) : va_W := fixC D G v ++ (ags G v r (nA G) ++ (tks G v r (nT G) ++ (LW D (G.1 0 4) (lA G) (nA G) ++ LW D (G.1 0 5) (lT G) (nT G))))
theorem rng_get {α : Type} {f : Nat → α} {n i : Nat} (h : i < n) : ((List.range n).map f)[i]? = some (f i) := by
  rw [List.getElem?_map, List.getElem?_range h]; rfl
theorem rng_set {α : Type} {f f' : Nat → α} {n i : Nat} {x : α} (hx : x = f' i) (h : ∀ j, j ≠ i → f' j = f j) : ((List.range n).map f).set i x = (List.range n).map f' := by
  subst hx
  refine List.ext_getElem? fun j => ?_
  rw [List.getElem?_set, List.getElem?_map, List.getElem?_map]
  by_cases hj : i = j
  · subst hj
    simp only [if_true, List.length_map, List.length_range]
    by_cases hl : i < n
    · rw [if_pos hl, List.getElem?_range hl]; rfl
    · rw [if_neg hl, List.getElem?_eq_none (by rw [List.length_range]; omega)]; rfl
  · rw [if_neg hj]
    by_cases hl : j < n
    · rw [List.getElem?_range hl]
      show some (f j) = some (f' j)
      rw [h j (fun z => hj z.symm)]
    · rw [List.getElem?_eq_none (by rw [List.length_range]; omega)]; rfl
theorem ags_len (G : CG) (v : S2) (r : R2) (n : Nat) : (ags G v r n).length = n := by simp [ags]
theorem tks_len (G : CG) (v : S2) (r : R2) (n : Nat) : (tks G v r n).length = n := by simp [tks]
theorem cg_A {D : va_G} {G : CG} {v : S2} {r : R2} {i : Nat} (h : i < nA G) : (CW D G v r)[4 + i]? = some (aA G i, .inr (1, AF G v r i)) := by
  unfold CW
  rw [List.getElem?_append_right (by show 4 ≤ _; omega), show 4 + i - (fixC D G v).length = i by show 4 + i - 4 = i; omega, List.getElem?_append_left (by rw [ags_len]; exact h)]
  exact rng_get h
theorem cg_T {D : va_G} {G : CG} {v : S2} {r : R2} {i : Nat} (h : i < nT G) : (CW D G v r)[4 + nA G + i]? = some (aT G i, .inr (3, TF G v r i)) := by
  unfold CW
  rw [List.getElem?_append_right (by show 4 ≤ _; omega), show 4 + nA G + i - (fixC D G v).length = nA G + i by show 4 + nA G + i - 4 = _; omega, List.getElem?_append_right (by rw [ags_len]; omega), ags_len, Nat.add_sub_cancel_left, List.getElem?_append_left (by rw [tks_len]; exact h)]
  exact rng_get h
theorem cg_LA {D : va_G} {G : CG} {v : S2} {r : R2} : (CW D G v r)[4 + nA G + nT G]? = some (lsC (G.1 0 4) (lA G).1 (lA G).2.1 (nA G)) := by
  unfold CW
  rw [List.getElem?_append_right (by show 4 ≤ _; omega), show 4 + nA G + nT G - (fixC D G v).length = nA G + nT G by show 4 + nA G + nT G - 4 = _; omega, List.getElem?_append_right (by rw [ags_len]; omega), ags_len, Nat.add_sub_cancel_left, List.getElem?_append_right (by rw [tks_len]; omega), tks_len, Nat.sub_self]
  rfl
theorem cm_LA {D : va_G} {G : CG} {v : S2} {r : R2} : ∀ q ∈ LW D (G.1 0 4) (lA G) (nA G), q ∈ CW D G v r := fun q h => List.mem_append_right _ (List.mem_append_right _ (List.mem_append_right _ (List.mem_append_left _ h)))
theorem cm_LT {D : va_G} {G : CG} {v : S2} {r : R2} : ∀ q ∈ LW D (G.1 0 5) (lT G) (nT G), q ∈ CW D G v r := fun q h => List.mem_append_right _ (List.mem_append_right _ (List.mem_append_right _ (List.mem_append_right _ h)))
theorem cg_LT {D : va_G} {G : CG} {v : S2} {r : R2} : ∃ q : Nat, (CW D G v r)[q]? = some (lsC (G.1 0 5) (lT G).1 (lT G).2.1 (nT G)) := List.getElem?_of_mem (cm_LT _ List.mem_cons_self)
theorem LW_hd {D : va_G} {L : Nat} {ls : LSt} {n : Nat} : ∀ q ∈ [lsC L ls.1 ls.2.1 n], q ∈ LW D L ls n := fun q h => by rw [List.mem_singleton.mp h]; exact List.mem_cons_self
theorem LW_two {D : va_G} {L : Nat} {ls : LSt} {n : Nat} (h : ls.2.2.1 ≠ 0) : LW D L ls n = [lsC L ls.1 ls.2.1 n, elC D ls.1 ls.2.2.1 ls.2.2.2] := by unfold LW; rw [if_neg h]
theorem cs_0 {D : va_G} {G : CG} {v : S2} {r : R2} {x : Int32} : (CW D G v r).set 0 (G.1 0 0, .inr (4, (DF G v).set 5 (.int x))) = CW D G (u2 v 0 0 x) r := rfl
theorem cs_1 {D : va_G} {G : CG} {v : S2} {r : R2} {x : Int32} : (CW D G v r).set 1 (G.1 0 1, .inr (2, (HF v).set 0 (.int x))) = CW D G (u2 v 0 1 x) r := rfl
theorem cs_2 {D : va_G} {G : CG} {v : S2} {r : R2} {x : Int32} : (CW D G v r).set 1 (G.1 0 1, .inr (2, (HF v).set 1 (.int x))) = CW D G (u2 v 0 2 x) r := rfl
theorem cs_an {D : va_G} {G : CG} {v : S2} {r : R2} {i : Nat} {x : Int32} : (CW D G v r).set 2 (G.1 0 2, .inl (D.1 100, 4, .inl (upd (v 1) i x))) = CW D G (u2 v 1 i x) r := rfl
theorem cs_so {D : va_G} {G : CG} {v : S2} {r : R2} {i : Nat} {x : Int32} : (CW D G v r).set 3 (G.1 0 3, .inl (D.1 100, 4, .inl (upd (v 2) i x))) = CW D G (u2 v 2 i x) r := rfl
theorem CW_setA {D : va_G} {G : CG} {v v' : S2} {r r' : R2} {i : Nat} {x : List Value} (h : i < nA G) (hf : fixC D G v' = fixC D G v) (ht : ∀ n, tks G v' r' n = tks G v r n) (hx : x = AF G v' r' i) (ho : ∀ j, j ≠ i → AF G v' r' j = AF G v r j) : (CW D G v r).set (4 + i) (aA G i, .inr (1, x)) = CW D G v' r' := by
  unfold CW
  rw [List.set_append_right _ _ (by show 4 ≤ _; omega), show 4 + i - (fixC D G v).length = i by show 4 + i - 4 = i; omega, List.set_append_left _ _ (by rw [ags_len]; exact h), hf, ht]
  congr 2
  refine rng_set (by rw [hx]) (fun j hj => by rw [ho j hj])
theorem CW_setT {D : va_G} {G : CG} {v v' : S2} {r r' : R2} {i : Nat} {x : List Value} (h : i < nT G) (hf : fixC D G v' = fixC D G v) (ha : ∀ n, ags G v' r' n = ags G v r n) (hx : x = TF G v' r' i) (ho : ∀ j, j ≠ i → TF G v' r' j = TF G v r j) : (CW D G v r).set (4 + nA G + i) (aT G i, .inr (3, x)) = CW D G v' r' := by
  unfold CW
  rw [List.set_append_right _ _ (by show 4 ≤ _; omega), show 4 + nA G + i - (fixC D G v).length = nA G + i by show 4 + nA G + i - 4 = _; omega, List.set_append_right _ _ (by rw [ags_len]; omega), ags_len, Nat.add_sub_cancel_left, List.set_append_left _ _ (by rw [tks_len]; exact h), hf, ha]
  congr 3
  refine rng_set (by rw [hx]) (fun j hj => by rw [ho j hj])
theorem upd_self {f : Nat → Int32} {i : Nat} {x : Int32} : upd f i x i = x := if_pos rfl
theorem upd_ne {f : Nat → Int32} {i j : Nat} {x : Int32} (h : j ≠ i) : upd f i x j = f j := if_neg h
theorem up_self {f : Nat → Option Nat} {i : Nat} {x : Option Nat} : va_up f i x i = x := if_pos rfl
theorem up_ne {f : Nat → Option Nat} {i j : Nat} {x : Option Nat} (h : j ≠ i) : va_up f i x j = f j := if_neg h
theorem csA_0 {D : va_G} {G : CG} {v : S2} {r : R2} {i : Nat} {x : Int32} (h : i < nA G) : (CW D G v r).set (4 + i) (aA G i, .inr (1, (AF G v r i).set 0 (.int x))) = CW D G (u2 v 10 i x) r :=
  CW_setA h rfl (fun _ => rfl) (by unfold AF u2; simp [upd_self]) (fun j hj => by unfold AF u2; simp [upd_ne hj])
theorem csA_1 {D : va_G} {G : CG} {v : S2} {r : R2} {i : Nat} {x : Int32} (h : i < nA G) : (CW D G v r).set (4 + i) (aA G i, .inr (1, (AF G v r i).set 1 (.int x))) = CW D G (u2 v 11 i x) r :=
  CW_setA h rfl (fun _ => rfl) (by unfold AF u2; simp [upd_self]) (fun j hj => by unfold AF u2; simp [upd_ne hj])
theorem csA_2 {D : va_G} {G : CG} {v : S2} {r : R2} {i : Nat} {x : Int32} (h : i < nA G) : (CW D G v r).set (4 + i) (aA G i, .inr (1, (AF G v r i).set 2 (.int x))) = CW D G (u2 v 12 i x) r :=
  CW_setA h rfl (fun _ => rfl) (by unfold AF u2; simp [upd_self]) (fun j hj => by unfold AF u2; simp [upd_ne hj])
theorem csA_3 {D : va_G} {G : CG} {v : S2} {r : R2} {i : Nat} {x : Int32} (h : i < nA G) : (CW D G v r).set (4 + i) (aA G i, .inr (1, (AF G v r i).set 3 (.int x))) = CW D G (u2 v 13 i x) r :=
  CW_setA h rfl (fun _ => rfl) (by unfold AF u2; simp [upd_self]) (fun j hj => by unfold AF u2; simp [upd_ne hj])
theorem csA_4 {D : va_G} {G : CG} {v : S2} {r : R2} {i : Nat} {x : Int32} (h : i < nA G) : (CW D G v r).set (4 + i) (aA G i, .inr (1, (AF G v r i).set 4 (.int x))) = CW D G (u2 v 14 i x) r :=
  CW_setA h rfl (fun _ => rfl) (by unfold AF u2; simp [upd_self]) (fun j hj => by unfold AF u2; simp [upd_ne hj])
theorem csA_6 {D : va_G} {G : CG} {v : S2} {r : R2} {i : Nat} {x : Int32} (h : i < nA G) : (CW D G v r).set (4 + i) (aA G i, .inr (1, (AF G v r i).set 6 (.int x))) = CW D G (u2 v 16 i x) r :=
  CW_setA h rfl (fun _ => rfl) (by unfold AF u2; simp [upd_self]) (fun j hj => by unfold AF u2; simp [upd_ne hj])
theorem csA_7 {D : va_G} {G : CG} {v : S2} {r : R2} {i : Nat} {x : Int32} (h : i < nA G) : (CW D G v r).set (4 + i) (aA G i, .inr (1, (AF G v r i).set 7 (.int x))) = CW D G (u2 v 17 i x) r :=
  CW_setA h rfl (fun _ => rfl) (by unfold AF u2; simp [upd_self]) (fun j hj => by unfold AF u2; simp [upd_ne hj])
theorem csA_5 {D : va_G} {G : CG} {v : S2} {r : R2} {i : Nat} {x : Option Nat} (h : i < nA G) : (CW D G v r).set (4 + i) (aA G i, .inr (1, (AF G v r i).set 5 (va_rf (x.map (aT G))))) = CW D G v (u3 r 15 i x) :=
  CW_setA h rfl (fun _ => rfl) (by unfold AF u3; simp [up_self]) (fun j hj => by unfold AF u3; simp [up_ne hj])
theorem csT_0 {D : va_G} {G : CG} {v : S2} {r : R2} {i : Nat} {x : Int32} (h : i < nT G) : (CW D G v r).set (4 + nA G + i) (aT G i, .inr (3, (TF G v r i).set 0 (.int x))) = CW D G (u2 v 20 i x) r :=
  CW_setT h rfl (fun _ => rfl) (by unfold TF u2; simp [upd_self]) (fun j hj => by unfold TF u2; simp [upd_ne hj])
theorem csT_1 {D : va_G} {G : CG} {v : S2} {r : R2} {i : Nat} {x : Int32} (h : i < nT G) : (CW D G v r).set (4 + nA G + i) (aT G i, .inr (3, (TF G v r i).set 1 (.int x))) = CW D G (u2 v 21 i x) r :=
  CW_setT h rfl (fun _ => rfl) (by unfold TF u2; simp [upd_self]) (fun j hj => by unfold TF u2; simp [upd_ne hj])
theorem csT_2 {D : va_G} {G : CG} {v : S2} {r : R2} {i : Nat} {x : Int32} (h : i < nT G) : (CW D G v r).set (4 + nA G + i) (aT G i, .inr (3, (TF G v r i).set 2 (.int x))) = CW D G (u2 v 22 i x) r :=
  CW_setT h rfl (fun _ => rfl) (by unfold TF u2; simp [upd_self]) (fun j hj => by unfold TF u2; simp [upd_ne hj])
theorem csT_3 {D : va_G} {G : CG} {v : S2} {r : R2} {i : Nat} {x : Int32} (h : i < nT G) : (CW D G v r).set (4 + nA G + i) (aT G i, .inr (3, (TF G v r i).set 3 (.int x))) = CW D G (u2 v 23 i x) r :=
  CW_setT h rfl (fun _ => rfl) (by unfold TF u2; simp [upd_self]) (fun j hj => by unfold TF u2; simp [upd_ne hj])
theorem csT_4 {D : va_G} {G : CG} {v : S2} {r : R2} {i : Nat} {x : Int32} (h : i < nT G) : (CW D G v r).set (4 + nA G + i) (aT G i, .inr (3, (TF G v r i).set 4 (.int x))) = CW D G (u2 v 24 i x) r :=
  CW_setT h rfl (fun _ => rfl) (by unfold TF u2; simp [upd_self]) (fun j hj => by unfold TF u2; simp [upd_ne hj])
theorem csT_5 {D : va_G} {G : CG} {v : S2} {r : R2} {i : Nat} {x : Int32} (h : i < nT G) : (CW D G v r).set (4 + nA G + i) (aT G i, .inr (3, (TF G v r i).set 5 (.int x))) = CW D G (u2 v 25 i x) r :=
  CW_setT h rfl (fun _ => rfl) (by unfold TF u2; simp [upd_self]) (fun j hj => by unfold TF u2; simp [upd_ne hj])
theorem csT_6 {D : va_G} {G : CG} {v : S2} {r : R2} {i : Nat} {x : Int32} (h : i < nT G) : (CW D G v r).set (4 + nA G + i) (aT G i, .inr (3, (TF G v r i).set 6 (.int x))) = CW D G (u2 v 26 i x) r :=
  CW_setT h rfl (fun _ => rfl) (by unfold TF u2; simp [upd_self]) (fun j hj => by unfold TF u2; simp [upd_ne hj])
theorem csT_7 {D : va_G} {G : CG} {v : S2} {r : R2} {i : Nat} {x : Int32} (h : i < nT G) : (CW D G v r).set (4 + nA G + i) (aT G i, .inr (3, (TF G v r i).set 7 (.int x))) = CW D G (u2 v 27 i x) r :=
  CW_setT h rfl (fun _ => rfl) (by unfold TF u2; simp [upd_self]) (fun j hj => by unfold TF u2; simp [upd_ne hj])
theorem csT_8 {D : va_G} {G : CG} {v : S2} {r : R2} {i : Nat} {x : Int32} (h : i < nT G) : (CW D G v r).set (4 + nA G + i) (aT G i, .inr (3, (TF G v r i).set 8 (.int x))) = CW D G (u2 v 28 i x) r :=
  CW_setT h rfl (fun _ => rfl) (by unfold TF u2; simp [upd_self]) (fun j hj => by unfold TF u2; simp [upd_ne hj])
theorem csT_9 {D : va_G} {G : CG} {v : S2} {r : R2} {i : Nat} {x : Int32} (h : i < nT G) : (CW D G v r).set (4 + nA G + i) (aT G i, .inr (3, (TF G v r i).set 9 (.int x))) = CW D G (u2 v 29 i x) r :=
  CW_setT h rfl (fun _ => rfl) (by unfold TF u2; simp [upd_self]) (fun j hj => by unfold TF u2; simp [upd_ne hj])
theorem csT_10 {D : va_G} {G : CG} {v : S2} {r : R2} {i : Nat} {x : Int32} (h : i < nT G) : (CW D G v r).set (4 + nA G + i) (aT G i, .inr (3, (TF G v r i).set 10 (.int x))) = CW D G (u2 v 30 i x) r :=
  CW_setT h rfl (fun _ => rfl) (by unfold TF u2; simp [upd_self]) (fun j hj => by unfold TF u2; simp [upd_ne hj])
theorem csT_11 {D : va_G} {G : CG} {v : S2} {r : R2} {i : Nat} {x : Int32} (h : i < nT G) : (CW D G v r).set (4 + nA G + i) (aT G i, .inr (3, (TF G v r i).set 11 (.int x))) = CW D G (u2 v 31 i x) r :=
  CW_setT h rfl (fun _ => rfl) (by unfold TF u2; simp [upd_self]) (fun j hj => by unfold TF u2; simp [upd_ne hj])
theorem csT_12 {D : va_G} {G : CG} {v : S2} {r : R2} {i : Nat} {x : Option Nat} (h : i < nT G) : (CW D G v r).set (4 + nA G + i) (aT G i, .inr (3, (TF G v r i).set 12 (va_rf (x.map (aA G))))) = CW D G v (u3 r 32 i x) :=
  CW_setT h rfl (fun _ => rfl) (by unfold TF u3; simp [up_self]) (fun j hj => by unfold TF u3; simp [up_ne hj])
theorem csT_13 {D : va_G} {G : CG} {v : S2} {r : R2} {i : Nat} {x : Option Nat} (h : i < nT G) : (CW D G v r).set (4 + nA G + i) (aT G i, .inr (3, (TF G v r i).set 13 (va_rf (x.map (aA G))))) = CW D G v (u3 r 33 i x) :=
  CW_setT h rfl (fun _ => rfl) (by unfold TF u3; simp [up_self]) (fun j hj => by unfold TF u3; simp [up_ne hj])
theorem csT_14 {D : va_G} {G : CG} {v : S2} {r : R2} {i : Nat} {x : Option Nat} (h : i < nT G) : (CW D G v r).set (4 + nA G + i) (aT G i, .inr (3, (TF G v r i).set 14 (va_rf (x.map (aT G))))) = CW D G v (u3 r 34 i x) :=
  CW_setT h rfl (fun _ => rfl) (by unfold TF u3; simp [up_self]) (fun j hj => by unfold TF u3; simp [up_ne hj])
end
section
/-! rows over the class's world; what holds of it at all times -/
def LI (ls : LSt) (n : Nat) (ad : Nat → Nat) : Prop := n ≤ ls.2.2.1 ∧ ls.2.2.1 ≤ 100 ∧ (∀ i, i < n → ls.2.2.2 i = some (ad i)) ∧ (ls.2.2.1 = 0 ∨ 10 ≤ ls.2.2.1)
def GI (D : va_G) (G : CG) : Prop := nA G ≤ 6 ∧ nT G ≤ 20 ∧ LI (lA G) (nA G) (aA G) ∧ LI (lT G) (nT G) (aT G) ∧ (∀ i j, i < nA G → j < nA G → aA G i = aA G j → i = j) ∧ ((lA G).2.2.1 = 0 → (lA G).1 = dE D) ∧ ((lT G).2.2.1 = 0 → (lT G).1 = dE D)
def CI (G : CG) (v : S2) (r : R2) : Prop := (∀ t, t < nT G → vp_in (v 22 t) 4) ∧ (∀ i, i < nA G → ∀ t, r 15 i = some t → t < nT G) ∧ (∀ t, t < nT G → ∀ a, r 32 t = some a → a < nA G) ∧ (∀ t, t < nT G → ∀ a, r 33 t = some a → a < nA G) ∧ ∀ t, t < nT G → ∀ u, r 34 t = some u → u < nT G
theorem GI.nA {D : va_G} {G : CG} (h : GI D G) : nA G ≤ 6 := h.1
theorem GI.nT {D : va_G} {G : CG} (h : GI D G) : nT G ≤ 20 := h.2.1
theorem CI.prio {G : CG} {v : S2} {r : R2} (h : CI G v r) {t : Nat} (ht : t < nT G) : vp_in (v 22 t) 4 := h.1 t ht
theorem CI.held {G : CG} {v : S2} {r : R2} (h : CI G v r) {i : Nat} (hi : i < nA G) : ∀ t, r 15 i = some t → t < nT G := h.2.1 i hi
theorem CI.holder {G : CG} {v : S2} {r : R2} (h : CI G v r) {t : Nat} (ht : t < nT G) : ∀ a, r 32 t = some a → a < nA G := h.2.2.1 t ht
theorem CI.latest {G : CG} {v : S2} {r : R2} (h : CI G v r) {t : Nat} (ht : t < nT G) : ∀ a, r 33 t = some a → a < nA G := h.2.2.2.1 t ht
theorem CI.into {G : CG} {v : S2} {r : R2} (h : CI G v r) {t : Nat} (ht : t < nT G) : ∀ u, r 34 t = some u → u < nT G := h.2.2.2.2 t ht
theorem u3_at (r : R2) (j i : Nat) (x : Option Nat) (a b : Nat) : u3 r j i x a b = if a = j ∧ b = i then x else r a b := by
  unfold u3 va_up
  by_cases h : a = j
  · subst h
    by_cases h2 : b = i <;> simp [h2]
  · simp [h]
theorem u3_ne1 {r : R2} {j i : Nat} {x : Option Nat} {a : Nat} (h : ¬ a = j) : u3 r j i x a = r a := by unfold u3; rw [if_neg h]
theorem CI_v {G : CG} {v : S2} {r : R2} {j i : Nat} {x : Int32} (hj : ¬ j = 22) (h : CI G v r) : CI G (u2 v j i x) r := by
  refine ⟨fun t ht => ?_, h.2⟩
  rw [u2_ne1 (fun z => hj z.symm)]
  exact h.1 t ht
theorem CI_p {G : CG} {v : S2} {r : R2} {i : Nat} {x : Int32} (hx : vp_in x 4) (h : CI G v r) : CI G (u2 v 22 i x) r := by
  refine ⟨fun t ht => ?_, h.2⟩
  rw [u2_at]
  split
  · exact hx
  · exact h.1 t ht
theorem CI_r {G : CG} {v : S2} {r : R2} {j i : Nat} {x : Option Nat} (h : CI G v r) (h15 : j = 15 → ∀ t, x = some t → t < nT G) (h32 : j = 32 → ∀ t, x = some t → t < nA G) (h33 : j = 33 → ∀ t, x = some t → t < nA G) (h34 : j = 34 → ∀ t, x = some t → t < nT G) : CI G v (u3 r j i x) := by
  obtain ⟨g1, g2, g3, g4, g5⟩ := h
  refine ⟨g1, fun a ha t e => ?_, fun t ht a e => ?_, fun t ht a e => ?_, fun t ht u e => ?_⟩
  · rw [u3_at] at e
    split at e
    · rename_i z; exact h15 z.1.symm t e
    · exact g2 a ha t e
  · rw [u3_at] at e
    split at e
    · rename_i z; exact h32 z.1.symm a e
    · exact g3 t ht a e
  · rw [u3_at] at e
    split at e
    · rename_i z; exact h33 z.1.symm a e
    · exact g4 t ht a e
  · rw [u3_at] at e
    split at e
    · rename_i z; exact h34 z.1.symm u e
    · exact g5 t ht u e
theorem CI_none {G : CG} {v : S2} {r : R2} {j i : Nat} (h : CI G v r) : CI G v (u3 r j i none) := CI_r h (fun _ _ e => by cases e) (fun _ _ e => by cases e) (fun _ _ e => by cases e) (fun _ _ e => by cases e)
def inR (x : Int32) (n : Nat) : Bool := !(decide (x < 0)) && decide (ix x < n)
theorem inR_iff {x : Int32} {n : Nat} : inR x n = true ↔ vp_in x n := by
  unfold inR vp_in
  simp only [Bool.and_eq_true, Bool.not_eq_true', decide_eq_false_iff_not, decide_eq_true_eq]
  constructor
  · rintro ⟨h1, h2⟩ (h | h)
    · exact h1 h
    · exact absurd h (Nat.not_le.mpr h2)
  · intro h
    exact ⟨fun z => h (Or.inl z), Nat.not_le.mp fun z => h (Or.inr z)⟩
theorem map_none {α β : Type} {o : Option α} {f : α → β} (h : o.map f = none) : o = none := by cases o with
  | none => rfl
  | some a => cases h
theorem map_some {α β : Type} {o : Option α} {f : α → β} {b : β} (h : o.map f = some b) : ∃ a, o = some a ∧ b = f a := by cases o with
  | none => cases h
  | some a => exact ⟨a, rfl, (Option.some.inj h).symm⟩
theorem mapA_iff {D : va_G} {G : CG} (hG : GI D G) {o : Option Nat} (ho : ∀ a, o = some a → a < nA G) {a : Nat} (ha : a < nA G) : o.map (aA G) = some (aA G a) ↔ o = some a := by
  constructor
  · intro h
    obtain ⟨b, rfl, e⟩ := map_some h
    rw [hG.2.2.2.2.1 a b ha (ho b rfl) e]
  · rintro rfl
    rfl
section CROW2
variable {k : Kx} {cc : ByteArray} {own : String} {R : Room} {nL : Nat} {ws : va_W} {c n pc : Nat} {lv : List (Option Value)} {st : List Value} {G : CG} {v : S2} {r : R2}
theorem j_sizeA (F : Fx k cc own R nL) {idx : Nat} (hk : LkV own idx RJx4a65c yJx4a65c_size_8abf5 cJx4a65c_size_8abf5 1 (some .int) 0) (hd : decode cc pc = .ok (.invokevirtual idx, 3)) (hR : 1 ≤ R.frames ∧ 20 ≤ R.locals) (hW : (st.map fun v => v.category).sum ≤ 8) (hcn : c ≤ R.cells ∧ n ≤ R.slots) (hst : (kl k).stackTraces = false) (K : J k (CW (kD k) G v r) c n (pc + 3) lv (.int (nI (nA G)) :: st)) : J k (CW (kD k) G v r) c n pc lv (.ref (G.1 0 4) :: st) :=
  j_rdV F (qJ_size (kl k) hst (kD k) _ _ _ _) hk hd hR (fun q h => cm_LA q (LW_hd q h)) _ cg_LA rfl rfl hW hcn K
theorem j_sizeT (F : Fx k cc own R nL) {idx : Nat} (hk : LkV own idx RJx4a65c yJx4a65c_size_8abf5 cJx4a65c_size_8abf5 1 (some .int) 0) (hd : decode cc pc = .ok (.invokevirtual idx, 3)) (hR : 1 ≤ R.frames ∧ 20 ≤ R.locals) (hW : (st.map fun v => v.category).sum ≤ 8) (hcn : c ≤ R.cells ∧ n ≤ R.slots) (hst : (kl k).stackTraces = false) (K : J k (CW (kD k) G v r) c n (pc + 3) lv (.int (nI (nT G)) :: st)) : J k (CW (kD k) G v r) c n pc lv (.ref (G.1 0 5) :: st) := by
  obtain ⟨q, hq⟩ := cg_LT (D := kD k) (G := G) (v := v) (r := r)
  exact j_rdV F (qJ_size (kl k) hst (kD k) _ _ _ _) hk hd hR (fun q h => cm_LT q (LW_hd q h)) q hq rfl rfl hW hcn K
theorem j_getA (F : Fx k cc own R nL) (hG : GI (kD k) G) {i : Int32} {idx : Nat} (hi : vp_in i (nA G)) (hk : LkV own idx RJx4a65c yJx4a65c_get_915e3 cJx4a65c_get_915e3 2 (some (.object "java/lang/Object")) 1) (hd : decode cc pc = .ok (.invokevirtual idx, 3)) (hR : 3 ≤ R.frames ∧ 64 ≤ R.locals) (hW : (st.map fun v => v.category).sum ≤ 8) (hcn : c ≤ R.cells ∧ n ≤ R.slots) (hst : (kl k).stackTraces = false) (K : J k (CW (kD k) G v r) c n (pc + 3) lv (.ref (aA G (ix i)) :: st)) : J k (CW (kD k) G v r) c n pc lv (.int i :: .ref (G.1 0 4) :: st) := by
  have hl := vp_lt hi
  obtain ⟨h1, h2, h3, h4⟩ := hG.2.2.1
  exact j_rdV F (qJ_get (kl k) hst (kD k) (G.1 0 4) (lA G).1 (lA G).2.1 (nA G) (lA G).2.2.1 (lA G).2.2.2 i _ hi h1 (by have := hG.1; omega) (h3 _ hl)) hk hd hR (fun q h => cm_LA q (by rw [LW_two (by omega)]; exact h)) _ cg_LA rfl rfl hW hcn K
theorem j_getT (F : Fx k cc own R nL) (hG : GI (kD k) G) {i : Int32} {idx : Nat} (hi : vp_in i (nT G)) (hk : LkV own idx RJx4a65c yJx4a65c_get_915e3 cJx4a65c_get_915e3 2 (some (.object "java/lang/Object")) 1) (hd : decode cc pc = .ok (.invokevirtual idx, 3)) (hR : 3 ≤ R.frames ∧ 64 ≤ R.locals) (hW : (st.map fun v => v.category).sum ≤ 8) (hcn : c ≤ R.cells ∧ n ≤ R.slots) (hst : (kl k).stackTraces = false) (K : J k (CW (kD k) G v r) c n (pc + 3) lv (.ref (aT G (ix i)) :: st)) : J k (CW (kD k) G v r) c n pc lv (.int i :: .ref (G.1 0 5) :: st) := by
  have hl := vp_lt hi
  obtain ⟨h1, h2, h3, h4⟩ := hG.2.2.2.1
  obtain ⟨q, hq⟩ := cg_LT (D := kD k) (G := G) (v := v) (r := r)
  exact j_rdV F (qJ_get (kl k) hst (kD k) (G.1 0 5) (lT G).1 (lT G).2.1 (nT G) (lT G).2.2.1 (lT G).2.2.2 i _ hi h1 (by have := hG.2.1; omega) (h3 _ hl)) hk hd hR (fun q h => cm_LT q (by rw [LW_two (by omega)]; exact h)) q hq rfl rfl hW hcn K
theorem j_getAN (F : Fx k cc own R nL) (hG : GI (kD k) G) {i : Nat} {idx : Nat} (hi : i < nA G) (hk : LkV own idx RJx4a65c yJx4a65c_get_915e3 cJx4a65c_get_915e3 2 (some (.object "java/lang/Object")) 1) (hd : decode cc pc = .ok (.invokevirtual idx, 3)) (hR : 3 ≤ R.frames ∧ 64 ≤ R.locals) (hW : (st.map fun v => v.category).sum ≤ 8) (hcn : c ≤ R.cells ∧ n ≤ R.slots) (hst : (kl k).stackTraces = false) (K : J k (CW (kD k) G v r) c n (pc + 3) lv (.ref (aA G i) :: st)) : J k (CW (kD k) G v r) c n pc lv (.int (nI i) :: .ref (G.1 0 4) :: st) := by
  have h6 := hG.1
  exact j_getA F hG (vp_in_nI hi (by omega)) hk hd hR hW hcn hst (by rw [ix_nI (by omega)]; exact K)
theorem j_getTN (F : Fx k cc own R nL) (hG : GI (kD k) G) {i : Nat} {idx : Nat} (hi : i < nT G) (hk : LkV own idx RJx4a65c yJx4a65c_get_915e3 cJx4a65c_get_915e3 2 (some (.object "java/lang/Object")) 1) (hd : decode cc pc = .ok (.invokevirtual idx, 3)) (hR : 3 ≤ R.frames ∧ 64 ≤ R.locals) (hW : (st.map fun v => v.category).sum ≤ 8) (hcn : c ≤ R.cells ∧ n ≤ R.slots) (hst : (kl k).stackTraces = false) (K : J k (CW (kD k) G v r) c n (pc + 3) lv (.ref (aT G i) :: st)) : J k (CW (kD k) G v r) c n pc lv (.int (nI i) :: .ref (G.1 0 5) :: st) := by
  have h6 := hG.2.1
  exact j_getT F hG (vp_in_nI hi (by omega)) hk hd hR hW hcn hst (by rw [ix_nI (by omega)]; exact K)
/-- a call that may throw, of the whole world -/
theorem j_cxV0 (F : Fx k cc own R nL) (hw : kw k = true) {C : String} {y : MethodName} {ccy : ByteArray} {maxL : Nat} {ret : Option FieldType} {fr lo mc ms idx b : Nat} {as : List Value} {P : Option Value → va_W → Prop} {PX : String → Prop} {stk : List Value} (hM : CX (kl k) (kD k) y ccy maxL ret fr lo mc ms ws (.ref b :: as) P PX) (hk : LkV own idx C y ccy maxL ret as.length) (hd : decode cc pc = .ok (.invokevirtual idx, 3)) (hR : fr + 1 ≤ R.frames ∧ 8 + (maxL + 11) + lo ≤ R.locals)
    {T : u_T} {N ci : Nat} {fs : List Value} (q : Nat) (hq : ws[q]? = some (b, .inr (ci, fs))) (hc : vwCl[ci]? = some (C, T, N)) (hst : stk = as.reverse ++ .ref b :: st) (hW : (st.map fun v => v.category).sum ≤ 8) (hcn : c + mc ≤ R.cells ∧ n + ms ≤ R.slots) (K : ∀ v w1, P v w1 → J k w1 (c + mc) (n + ms) (pc + 3) lv (vlist v st)) (KX : ∀ E, PX E → JX k ws (c + mc) (n + ms) pc lv st E) : J k ws c n pc lv stk := by
  rw [← List.append_nil ws]
  exact j_cxV F hw hM hk hd hR q (by rw [List.append_nil]; exact hq) hc hst hW hcn (fun v w1 h => by rw [List.append_nil]; exact K v w1 h) (fun E h => by rw [List.append_nil]; exact KX E h)
end CROW2
/-- exceptions by number: 1, 2, 3 -/
def xE (n : Nat) : String := if n = 1 then eA else if n = 2 then eI else eS
theorem dfi_5 {G : CG} {v : S2} {g : Nat → Int32} (h : v 0 = g) : (DF G v)[5]? = some (.int (g 0)) := h ▸ rfl
theorem hfi_0 {v : S2} {g : Nat → Int32} (h : v 0 = g) : (HF v)[0]? = some (.int (g 1)) := h ▸ rfl
theorem hfi_1 {v : S2} {g : Nat → Int32} (h : v 0 = g) : (HF v)[1]? = some (.int (g 2)) := h ▸ rfl
theorem cgi_1 {D : va_G} {G : CG} {v : S2} {r : R2} {g : Nat → Int32} (h : v 1 = g) : (CW D G v r)[2]? = some (G.1 0 2, .inl (D.1 100, 4, .inl g)) := h ▸ rfl
theorem cgi_2 {D : va_G} {G : CG} {v : S2} {r : R2} {g : Nat → Int32} (h : v 2 = g) : (CW D G v r)[3]? = some (G.1 0 3, .inl (D.1 100, 4, .inl g)) := h ▸ rfl
theorem afi_5 {G : CG} {v : S2} {r : R2} {i : Nat} {g : Nat → Option Nat} (h : r 15 = g) : (AF G v r i)[5]? = some (va_rf ((g i).map (aT G))) := h ▸ rfl
theorem afi_0 {G : CG} {v : S2} {r : R2} {i : Nat} {g : Nat → Int32} (h : v 10 = g) : (AF G v r i)[0]? = some (.int (g i)) := h ▸ rfl
theorem afi_1 {G : CG} {v : S2} {r : R2} {i : Nat} {g : Nat → Int32} (h : v 11 = g) : (AF G v r i)[1]? = some (.int (g i)) := h ▸ rfl
theorem afi_2 {G : CG} {v : S2} {r : R2} {i : Nat} {g : Nat → Int32} (h : v 12 = g) : (AF G v r i)[2]? = some (.int (g i)) := h ▸ rfl
theorem afi_3 {G : CG} {v : S2} {r : R2} {i : Nat} {g : Nat → Int32} (h : v 13 = g) : (AF G v r i)[3]? = some (.int (g i)) := h ▸ rfl
theorem afi_4 {G : CG} {v : S2} {r : R2} {i : Nat} {g : Nat → Int32} (h : v 14 = g) : (AF G v r i)[4]? = some (.int (g i)) := h ▸ rfl
theorem afi_6 {G : CG} {v : S2} {r : R2} {i : Nat} {g : Nat → Int32} (h : v 16 = g) : (AF G v r i)[6]? = some (.int (g i)) := h ▸ rfl
theorem afi_7 {G : CG} {v : S2} {r : R2} {i : Nat} {g : Nat → Int32} (h : v 17 = g) : (AF G v r i)[7]? = some (.int (g i)) := h ▸ rfl
theorem tfi_0 {G : CG} {v : S2} {r : R2} {i : Nat} {g : Nat → Int32} (h : v 20 = g) : (TF G v r i)[0]? = some (.int (g i)) := h ▸ rfl
theorem tfi_1 {G : CG} {v : S2} {r : R2} {i : Nat} {g : Nat → Int32} (h : v 21 = g) : (TF G v r i)[1]? = some (.int (g i)) := h ▸ rfl
theorem tfi_2 {G : CG} {v : S2} {r : R2} {i : Nat} {g : Nat → Int32} (h : v 22 = g) : (TF G v r i)[2]? = some (.int (g i)) := h ▸ rfl
theorem tfi_3 {G : CG} {v : S2} {r : R2} {i : Nat} {g : Nat → Int32} (h : v 23 = g) : (TF G v r i)[3]? = some (.int (g i)) := h ▸ rfl
theorem tfi_4 {G : CG} {v : S2} {r : R2} {i : Nat} {g : Nat → Int32} (h : v 24 = g) : (TF G v r i)[4]? = some (.int (g i)) := h ▸ rfl
theorem tfi_5 {G : CG} {v : S2} {r : R2} {i : Nat} {g : Nat → Int32} (h : v 25 = g) : (TF G v r i)[5]? = some (.int (g i)) := h ▸ rfl
theorem tfi_6 {G : CG} {v : S2} {r : R2} {i : Nat} {g : Nat → Int32} (h : v 26 = g) : (TF G v r i)[6]? = some (.int (g i)) := h ▸ rfl
theorem tfi_7 {G : CG} {v : S2} {r : R2} {i : Nat} {g : Nat → Int32} (h : v 27 = g) : (TF G v r i)[7]? = some (.int (g i)) := h ▸ rfl
theorem tfi_8 {G : CG} {v : S2} {r : R2} {i : Nat} {g : Nat → Int32} (h : v 28 = g) : (TF G v r i)[8]? = some (.int (g i)) := h ▸ rfl
theorem tfi_9 {G : CG} {v : S2} {r : R2} {i : Nat} {g : Nat → Int32} (h : v 29 = g) : (TF G v r i)[9]? = some (.int (g i)) := h ▸ rfl
theorem tfi_10 {G : CG} {v : S2} {r : R2} {i : Nat} {g : Nat → Int32} (h : v 30 = g) : (TF G v r i)[10]? = some (.int (g i)) := h ▸ rfl
theorem tfi_11 {G : CG} {v : S2} {r : R2} {i : Nat} {g : Nat → Int32} (h : v 31 = g) : (TF G v r i)[11]? = some (.int (g i)) := h ▸ rfl
theorem tfi_12 {G : CG} {v : S2} {r : R2} {i : Nat} {g : Nat → Option Nat} (h : r 32 = g) : (TF G v r i)[12]? = some (va_rf ((g i).map (aA G))) := h ▸ rfl
theorem tfi_13 {G : CG} {v : S2} {r : R2} {i : Nat} {g : Nat → Option Nat} (h : r 33 = g) : (TF G v r i)[13]? = some (va_rf ((g i).map (aA G))) := h ▸ rfl
theorem tfi_14 {G : CG} {v : S2} {r : R2} {i : Nat} {g : Nat → Option Nat} (h : r 34 = g) : (TF G v r i)[14]? = some (va_rf ((g i).map (aT G))) := h ▸ rfl
end
section
theorem ud_X3_dayOfWeek : Cond.code yX3_dayOfWeek cX3_dayOfWeek 1 (some .int) ∈ Uw := Uw_of (i := 193) (by decide +kernel) (by decide +kernel)
theorem us_X3_dayOfWeek : Cond.static yX3_dayOfWeek ∈ Uw := Uw_of (i := 192) (by decide +kernel) (by decide +kernel)
theorem dd_X3_dayOfWeek : yX3_dayOfWeek.cls ≠ "java/lang/invoke/MethodHandle" ∧ yX3_dayOfWeek.cls ≠ "java/lang/invoke/VarHandle" ∧ (parseMethodDescriptor yX3_dayOfWeek.desc).map (fun d => d.parameters.length) = some 1 := by decide +kernel
/-! THE CLASS'S METHODS, by program: C_.. what each does, qX.. that its code does it -/
def gd (o : Option Nat) : Nat := o.getD 0
theorem gd_some {o : Option Nat} (h : ¬ o = none) : o = some (gd o) := by cases o with
  | none => exact absurd rfl h
  | some a => rfl
theorem rf_some {o : Option Nat} {f : Nat → Nat} {a : Nat} (h : o.map f = some a) : a = f (gd o) ∧ ¬ o = none := by
  obtain ⟨b, rfl, e⟩ := map_some h
  exact ⟨e, by simp⟩
def C_isPriority (p0 : Int32) : Bool := if p0 < 0 then false else if 4 ≤ p0 then false else true
set_option maxHeartbeats 4000000 in
set_option maxRecDepth 100000 in
theorem qX3_isPriority (l : Launch) (hst : l.stackTraces = false) (D : va_G) (p0 : Int32) : CR l D yX3_isPriority cX3_isPriority 1 (some .boolean) 0 0 [] [.int p0] (.int (b1 (C_isPriority p0))) := by
  refine CR_of [some (.int p0)] hst (by decide +kernel) rfl (Nat.le_of_ble_eq_true rfl) (fun k F hl hD hR => ?_)
  subst hl hD
  refine j_iloadn F dX3_isPriority_0 rfl ?_
  refine j_iflt F (tgt := 13) dX3_isPriority_1 (by decide) (fun h1 => ?_) (fun h1 => ?_)
  · refine j_iconst F (v := 0) dX3_isPriority_13 (by decide) ?_
    exact j_zretR F (b := false) hR dX3_isPriority_14 rfl (congrArg (fun z => Value.int (b1 z)) (show C_isPriority p0 = false from by rw [C_isPriority, if_pos h1]))
  · refine j_iloadn F dX3_isPriority_4 rfl ?_
    refine j_iconst F (v := 4) dX3_isPriority_5 (by decide) ?_
    refine j_icge F (tgt := 13) dX3_isPriority_6 (by decide) (fun h6 => ?_) (fun h6 => ?_)
    · refine j_iconst F (v := 0) dX3_isPriority_13 (by decide) ?_
      exact j_zretR F (b := false) hR dX3_isPriority_14 rfl (congrArg (fun z => Value.int (b1 z)) (show C_isPriority p0 = false from by rw [C_isPriority, if_neg h1, if_pos h6]))
    · refine j_iconst F (v := 1) dX3_isPriority_9 (by decide) ?_
      refine j_goto F (tgt := 14) dX3_isPriority_10 (by decide) ?_
      exact j_zretR F (b := true) hR dX3_isPriority_14 rfl (congrArg (fun z => Value.int (b1 z)) (show C_isPriority p0 = true from by rw [C_isPriority, if_neg h1, if_neg h6]))
def C_isSetOfSkills (p0 : Int32) : Bool := if p0 < 0 then false else if 255 < p0 then false else true
set_option maxHeartbeats 4000000 in
set_option maxRecDepth 100000 in
theorem qX3_isSetOfSkills (l : Launch) (hst : l.stackTraces = false) (D : va_G) (p0 : Int32) : CR l D yX3_isSetOfSkills cX3_isSetOfSkills 1 (some .boolean) 0 0 [] [.int p0] (.int (b1 (C_isSetOfSkills p0))) := by
  refine CR_of [some (.int p0)] hst (by decide +kernel) rfl (Nat.le_of_ble_eq_true rfl) (fun k F hl hD hR => ?_)
  subst hl hD
  refine j_iloadn F dX3_isSetOfSkills_0 rfl ?_
  refine j_iflt F (tgt := 15) dX3_isSetOfSkills_1 (by decide) (fun h1 => ?_) (fun h1 => ?_)
  · refine j_iconst F (v := 0) dX3_isSetOfSkills_15 (by decide) ?_
    exact j_zretR F (b := false) hR dX3_isSetOfSkills_16 rfl (congrArg (fun z => Value.int (b1 z)) (show C_isSetOfSkills p0 = false from by rw [C_isSetOfSkills, if_pos h1]))
  · refine j_iloadn F dX3_isSetOfSkills_4 rfl ?_
    refine j_sipush F (v := 255) dX3_isSetOfSkills_5 (by decide) ?_
    refine j_icgt F (tgt := 15) dX3_isSetOfSkills_8 (by decide) (fun h8 => ?_) (fun h8 => ?_)
    · refine j_iconst F (v := 0) dX3_isSetOfSkills_15 (by decide) ?_
      exact j_zretR F (b := false) hR dX3_isSetOfSkills_16 rfl (congrArg (fun z => Value.int (b1 z)) (show C_isSetOfSkills p0 = false from by rw [C_isSetOfSkills, if_neg h1, if_pos h8]))
    · refine j_iconst F (v := 1) dX3_isSetOfSkills_11 (by decide) ?_
      refine j_goto F (tgt := 16) dX3_isSetOfSkills_12 (by decide) ?_
      exact j_zretR F (b := true) hR dX3_isSetOfSkills_16 rfl (congrArg (fun z => Value.int (b1 z)) (show C_isSetOfSkills p0 = true from by rw [C_isSetOfSkills, if_neg h1, if_neg h8]))
def C_isSpanOfDay (p0 : Int32) (p1 : Int32) : Bool := if p0 < 0 then false else if 1440 ≤ p0 then false else if p1 ≤ p0 then false else if 1440 < p1 then false else true
set_option maxHeartbeats 4000000 in
set_option maxRecDepth 100000 in
theorem qX3_isSpanOfDay (l : Launch) (hst : l.stackTraces = false) (D : va_G) (p0 : Int32) (p1 : Int32) : CR l D yX3_isSpanOfDay cX3_isSpanOfDay 2 (some .boolean) 0 0 [] [.int p0, .int p1] (.int (b1 (C_isSpanOfDay p0 p1))) := by
  refine CR_of [some (.int p0), some (.int p1)] hst (by decide +kernel) rfl (Nat.le_of_ble_eq_true rfl) (fun k F hl hD hR => ?_)
  subst hl hD
  refine j_iloadn F dX3_isSpanOfDay_0 rfl ?_
  refine j_iflt F (tgt := 27) dX3_isSpanOfDay_1 (by decide) (fun h1 => ?_) (fun h1 => ?_)
  · refine j_iconst F (v := 0) dX3_isSpanOfDay_27 (by decide) ?_
    exact j_zretR F (b := false) hR dX3_isSpanOfDay_28 rfl (congrArg (fun z => Value.int (b1 z)) (show C_isSpanOfDay p0 p1 = false from by rw [C_isSpanOfDay, if_pos h1]))
  · refine j_iloadn F dX3_isSpanOfDay_4 rfl ?_
    refine j_sipush F (v := 1440) dX3_isSpanOfDay_5 (by decide) ?_
    refine j_icge F (tgt := 27) dX3_isSpanOfDay_8 (by decide) (fun h8 => ?_) (fun h8 => ?_)
    · refine j_iconst F (v := 0) dX3_isSpanOfDay_27 (by decide) ?_
      exact j_zretR F (b := false) hR dX3_isSpanOfDay_28 rfl (congrArg (fun z => Value.int (b1 z)) (show C_isSpanOfDay p0 p1 = false from by rw [C_isSpanOfDay, if_neg h1, if_pos h8]))
    · refine j_iloadn F dX3_isSpanOfDay_11 rfl ?_
      refine j_iloadn F dX3_isSpanOfDay_12 rfl ?_
      refine j_icle F (tgt := 27) dX3_isSpanOfDay_13 (by decide) (fun h13 => ?_) (fun h13 => ?_)
      · refine j_iconst F (v := 0) dX3_isSpanOfDay_27 (by decide) ?_
        exact j_zretR F (b := false) hR dX3_isSpanOfDay_28 rfl (congrArg (fun z => Value.int (b1 z)) (show C_isSpanOfDay p0 p1 = false from by rw [C_isSpanOfDay, if_neg h1, if_neg h8, if_pos h13]))
      · refine j_iloadn F dX3_isSpanOfDay_16 rfl ?_
        refine j_sipush F (v := 1440) dX3_isSpanOfDay_17 (by decide) ?_
        refine j_icgt F (tgt := 27) dX3_isSpanOfDay_20 (by decide) (fun h20 => ?_) (fun h20 => ?_)
        · refine j_iconst F (v := 0) dX3_isSpanOfDay_27 (by decide) ?_
          exact j_zretR F (b := false) hR dX3_isSpanOfDay_28 rfl (congrArg (fun z => Value.int (b1 z)) (show C_isSpanOfDay p0 p1 = false from by rw [C_isSpanOfDay, if_neg h1, if_neg h8, if_neg h13, if_pos h20]))
        · refine j_iconst F (v := 1) dX3_isSpanOfDay_23 (by decide) ?_
          refine j_goto F (tgt := 28) dX3_isSpanOfDay_24 (by decide) ?_
          exact j_zretR F (b := true) hR dX3_isSpanOfDay_28 rfl (congrArg (fun z => Value.int (b1 z)) (show C_isSpanOfDay p0 p1 = true from by rw [C_isSpanOfDay, if_neg h1, if_neg h8, if_neg h13, if_neg h20]))
def C_dayOfWeek (p0 : Int32) : Int32 := (p0 / 1440) - (p0 / 1440) / 7 * 7
set_option maxHeartbeats 4000000 in
set_option maxRecDepth 100000 in
theorem qX3_dayOfWeek (l : Launch) (hst : l.stackTraces = false) (D : va_G) (p0 : Int32) : CR l D yX3_dayOfWeek cX3_dayOfWeek 1 (some .int) 0 0 [] [.int p0] (.int (C_dayOfWeek p0)) := by
  refine CR_of [some (.int p0)] hst (by decide +kernel) rfl (Nat.le_of_ble_eq_true rfl) (fun k F hl hD hR => ?_)
  subst hl hD
  refine j_iloadn F dX3_dayOfWeek_0 rfl ?_
  refine j_sipush F (v := 1440) dX3_dayOfWeek_1 (by decide) ?_
  refine j_idiv F dX3_dayOfWeek_4 (by decide) ?_
  refine j_bipush F (v := 7) dX3_dayOfWeek_5 (by decide) ?_
  refine j_irem F dX3_dayOfWeek_7 (by decide) ?_
  exact j_iretR F hR dX3_dayOfWeek_8 (congrArg Value.int (show C_dayOfWeek p0 = (p0 / 1440) - (p0 / 1440) / 7 * 7 from rfl))
theorem C_isPriority_in {x : Int32} (h : C_isPriority x = true) : vp_in x 4 := by
  unfold C_isPriority at h
  rw [vp_in_iff]
  split at h
  · cases h
  · rename_i h1
    split at h
    · cases h
    · rename_i h2
      rw [Int32.lt_iff_toInt_lt] at h1
      rw [Int32.le_iff_toInt_le] at h2
      simp at h1 h2
      omega
def C_digested (p0 : Int64) (p1 : Int32) : Int64 := (p0 * 31) + p1.toInt64
def C_A_hasSkill (na nt : Nat) (v : S2) (r : R2) (a : Nat) (p0 : Int32) : Bool := if ((v 14 a) &&& (1 <<< (p0 &&& 31))) = 0 then false else true
set_option maxHeartbeats 4000000 in
set_option maxRecDepth 100000 in
theorem qX0_hasSkill (l : Launch) (hst : l.stackTraces = false) (D : va_G) (G : CG) (v : S2) (r : R2) (a : Nat) (p0 : Int32) (ha : a < nA G) : CR l D yX0_hasSkill cX0_hasSkill 2 (some .boolean) 0 0 (CW D G v r) [.ref (aA G a), .int p0] (.int (b1 (C_A_hasSkill (nA G) (nT G) v r a p0))) := by
  refine CR_of [some (.ref (aA G a)), some (.int p0)] hst (by decide +kernel) rfl (Nat.le_of_ble_eq_true rfl) (fun k F hl hD hR => ?_)
  subst hl hD
  refine j_aloadn F dX0_hasSkill_0 rfl ?_
  refine gf_X0_15 F (v := .int (v 14 a)) dX0_hasSkill_1 (4 + a) (cg_A ha) rfl ?_
  refine j_iconst F (v := 1) dX0_hasSkill_4 (by decide) ?_
  refine j_iloadn F dX0_hasSkill_5 rfl ?_
  refine j_ishl F dX0_hasSkill_6 ?_
  refine j_iand F dX0_hasSkill_7 ?_
  refine j_ifeq F (tgt := 15) dX0_hasSkill_8 (by decide) (fun h8 => ?_) (fun h8 => ?_)
  · refine j_iconst F (v := 0) dX0_hasSkill_15 (by decide) ?_
    exact j_zretR F (b := false) hR dX0_hasSkill_16 rfl (congrArg (fun z => Value.int (b1 z)) (show C_A_hasSkill (nA G) (nT G) v r a p0 = false from by rw [C_A_hasSkill, if_pos h8]))
  · refine j_iconst F (v := 1) dX0_hasSkill_11 (by decide) ?_
    refine j_goto F (tgt := 16) dX0_hasSkill_12 (by decide) ?_
    exact j_zretR F (b := true) hR dX0_hasSkill_16 rfl (congrArg (fun z => Value.int (b1 z)) (show C_A_hasSkill (nA G) (nT G) v r a p0 = true from by rw [C_A_hasSkill, if_neg h8]))
def C_A_isThere (na nt : Nat) (v : S2) (r : R2) (a : Nat) (p0 : Int32) : Bool := if ((v 11 a) &&& (1 <<< ((C_dayOfWeek p0) &&& 31))) = 0 then false else if (p0 - p0 / 1440 * 1440) < (v 12 a) then false else if (v 13 a) ≤ (p0 - p0 / 1440 * 1440) then false else true
set_option maxHeartbeats 4000000 in
set_option maxRecDepth 100000 in
theorem qX0_isThere (l : Launch) (hst : l.stackTraces = false) (D : va_G) (G : CG) (v : S2) (r : R2) (a : Nat) (p0 : Int32) (ha : a < nA G) : CR l D yX0_isThere cX0_isThere 3 (some .boolean) 1 20 (CW D G v r) [.ref (aA G a), .int p0] (.int (b1 (C_A_isThere (nA G) (nT G) v r a p0))) := by
  refine CR_of [some (.ref (aA G a)), some (.int p0), none] hst (by decide +kernel) rfl (Nat.le_of_ble_eq_true rfl) (fun k F hl hD hR => ?_)
  subst hl hD
  refine j_iloadn F dX0_isThere_0 rfl ?_
  refine j_sipush F (v := 1440) dX0_isThere_1 (by decide) ?_
  refine j_irem F dX0_isThere_4 (by decide) ?_
  refine j_istoren F [some (.ref (aA G a)), some (.int p0), some (.int (p0 - p0 / 1440 * 1440))] dX0_isThere_5 rfl rfl rfl ?_
  refine j_aloadn F dX0_isThere_6 rfl ?_
  refine gf_X0_18 F (v := .int (v 11 a)) dX0_isThere_7 (4 + a) (cg_A ha) rfl ?_
  refine j_iconst F (v := 1) dX0_isThere_10 (by decide) ?_
  refine j_iloadn F dX0_isThere_11 rfl ?_
  refine j_rdSN F (qX3_dayOfWeek (kl k) hst (kD k) p0) F.hK.2.1 ui_X3 ud_X3_dayOfWeek us_X3_dayOfWeek dd_X3_dayOfWeek dX0_isThere_12 ⟨(Nat.le_of_ble_eq_true rfl), (Nat.le_of_ble_eq_true rfl)⟩ (fun _ h => nomatch h) rfl (Nat.le_of_ble_eq_true rfl) ⟨(Nat.le_of_ble_eq_true rfl), (Nat.le_of_ble_eq_true rfl)⟩ ?_
  refine j_ishl F dX0_isThere_15 ?_
  refine j_iand F dX0_isThere_16 ?_
  refine j_ifeq F (tgt := 40) dX0_isThere_17 (by decide) (fun h17 => ?_) (fun h17 => ?_)
  · refine j_iconst F (v := 0) dX0_isThere_40 (by decide) ?_
    exact j_zretR F (b := false) hR dX0_isThere_41 rfl (congrArg (fun z => Value.int (b1 z)) (show C_A_isThere (nA G) (nT G) v r a p0 = false from by rw [C_A_isThere, if_pos h17]))
  · refine j_iloadn F dX0_isThere_20 rfl ?_
    refine j_aloadn F dX0_isThere_21 rfl ?_
    refine gf_X0_21 F (v := .int (v 12 a)) dX0_isThere_22 (4 + a) (cg_A ha) rfl ?_
    refine j_iclt F (tgt := 40) dX0_isThere_25 (by decide) (fun h25 => ?_) (fun h25 => ?_)
    · refine j_iconst F (v := 0) dX0_isThere_40 (by decide) ?_
      exact j_zretR F (b := false) hR dX0_isThere_41 rfl (congrArg (fun z => Value.int (b1 z)) (show C_A_isThere (nA G) (nT G) v r a p0 = false from by rw [C_A_isThere, if_neg h17, if_pos h25]))
    · refine j_iloadn F dX0_isThere_28 rfl ?_
      refine j_aloadn F dX0_isThere_29 rfl ?_
      refine gf_X0_24 F (v := .int (v 13 a)) dX0_isThere_30 (4 + a) (cg_A ha) rfl ?_
      refine j_icge F (tgt := 40) dX0_isThere_33 (by decide) (fun h33 => ?_) (fun h33 => ?_)
      · refine j_iconst F (v := 0) dX0_isThere_40 (by decide) ?_
        exact j_zretR F (b := false) hR dX0_isThere_41 rfl (congrArg (fun z => Value.int (b1 z)) (show C_A_isThere (nA G) (nT G) v r a p0 = false from by rw [C_A_isThere, if_neg h17, if_neg h25, if_pos h33]))
      · refine j_iconst F (v := 1) dX0_isThere_36 (by decide) ?_
        refine j_goto F (tgt := 41) dX0_isThere_37 (by decide) ?_
        exact j_zretR F (b := true) hR dX0_isThere_41 rfl (congrArg (fun z => Value.int (b1 z)) (show C_A_isThere (nA G) (nT G) v r a p0 = true from by rw [C_A_isThere, if_neg h17, if_neg h25, if_neg h33]))
def C_H_isService (na nt : Nat) (v : S2) (r : R2) (p0 : Int32) : Bool := if 5 ≤ (C_dayOfWeek p0) then false else if (p0 - p0 / 1440 * 1440) < (v 0 1) then false else if (v 0 2) ≤ (p0 - p0 / 1440 * 1440) then false else true
set_option maxHeartbeats 4000000 in
set_option maxRecDepth 100000 in
theorem qX1_isService (l : Launch) (hst : l.stackTraces = false) (D : va_G) (G : CG) (v : S2) (r : R2) (p0 : Int32) : CR l D yX1_isService cX1_isService 3 (some .boolean) 1 20 (CW D G v r) [.ref (G.1 0 1), .int p0] (.int (b1 (C_H_isService (nA G) (nT G) v r p0))) := by
  refine CR_of [some (.ref (G.1 0 1)), some (.int p0), none] hst (by decide +kernel) rfl (Nat.le_of_ble_eq_true rfl) (fun k F hl hD hR => ?_)
  subst hl hD
  refine j_iloadn F dX1_isService_0 rfl ?_
  refine j_sipush F (v := 1440) dX1_isService_1 (by decide) ?_
  refine j_irem F dX1_isService_4 (by decide) ?_
  refine j_istoren F [some (.ref (G.1 0 1)), some (.int p0), some (.int (p0 - p0 / 1440 * 1440))] dX1_isService_5 rfl rfl rfl ?_
  refine j_iloadn F dX1_isService_6 rfl ?_
  refine j_rdSN F (qX3_dayOfWeek (kl k) hst (kD k) p0) F.hK.2.2.1 ui_X3 ud_X3_dayOfWeek us_X3_dayOfWeek dd_X3_dayOfWeek dX1_isService_7 ⟨(Nat.le_of_ble_eq_true rfl), (Nat.le_of_ble_eq_true rfl)⟩ (fun _ h => nomatch h) rfl (Nat.le_of_ble_eq_true rfl) ⟨(Nat.le_of_ble_eq_true rfl), (Nat.le_of_ble_eq_true rfl)⟩ ?_
  refine j_iconst F (v := 5) dX1_isService_10 (by decide) ?_
  refine j_icge F (tgt := 34) dX1_isService_11 (by decide) (fun h11 => ?_) (fun h11 => ?_)
  · refine j_iconst F (v := 0) dX1_isService_34 (by decide) ?_
    exact j_zretR F (b := false) hR dX1_isService_35 rfl (congrArg (fun z => Value.int (b1 z)) (show C_H_isService (nA G) (nT G) v r p0 = false from by rw [C_H_isService, if_pos h11]))
  · refine j_iloadn F dX1_isService_14 rfl ?_
    refine j_aloadn F dX1_isService_15 rfl ?_
    refine gf_X1_9 F (v := .int (v 0 1)) dX1_isService_16 1 rfl rfl ?_
    refine j_iclt F (tgt := 34) dX1_isService_19 (by decide) (fun h19 => ?_) (fun h19 => ?_)
    · refine j_iconst F (v := 0) dX1_isService_34 (by decide) ?_
      exact j_zretR F (b := false) hR dX1_isService_35 rfl (congrArg (fun z => Value.int (b1 z)) (show C_H_isService (nA G) (nT G) v r p0 = false from by rw [C_H_isService, if_neg h11, if_pos h19]))
    · refine j_iloadn F dX1_isService_22 rfl ?_
      refine j_aloadn F dX1_isService_23 rfl ?_
      refine gf_X1_15 F (v := .int (v 0 2)) dX1_isService_24 1 rfl rfl ?_
      refine j_icge F (tgt := 34) dX1_isService_27 (by decide) (fun h27 => ?_) (fun h27 => ?_)
      · refine j_iconst F (v := 0) dX1_isService_34 (by decide) ?_
        exact j_zretR F (b := false) hR dX1_isService_35 rfl (congrArg (fun z => Value.int (b1 z)) (show C_H_isService (nA G) (nT G) v r p0 = false from by rw [C_H_isService, if_neg h11, if_neg h19, if_pos h27]))
      · refine j_iconst F (v := 1) dX1_isService_30 (by decide) ?_
        refine j_goto F (tgt := 35) dX1_isService_31 (by decide) ?_
        exact j_zretR F (b := true) hR dX1_isService_35 rfl (congrArg (fun z => Value.int (b1 z)) (show C_H_isService (nA G) (nT G) v r p0 = true from by rw [C_H_isService, if_neg h11, if_neg h19, if_neg h27]))
def C_H_minutesOfDay (na nt : Nat) (v : S2) (r : R2) (p0 : Int32) (p1 : Int32) (p2 : Int32) : Int32 := if (C_dayOfWeek p0) < 5 then (if 0 < ((if (p0 + (v 0 2)) < p2 then (p0 + (v 0 2)) else p2) - (if p1 < (p0 + (v 0 1)) then (p0 + (v 0 1)) else p1)) then ((if (p0 + (v 0 2)) < p2 then (p0 + (v 0 2)) else p2) - (if p1 < (p0 + (v 0 1)) then (p0 + (v 0 1)) else p1)) else 0) else 0
set_option maxHeartbeats 4000000 in
set_option maxRecDepth 100000 in
theorem qX1_minutesOfDay (l : Launch) (hst : l.stackTraces = false) (D : va_G) (G : CG) (v : S2) (r : R2) (p0 : Int32) (p1 : Int32) (p2 : Int32) : CR l D yX1_minutesOfDay cX1_minutesOfDay 6 (some .int) 1 21 (CW D G v r) [.ref (G.1 0 1), .int p0, .int p1, .int p2] (.int (C_H_minutesOfDay (nA G) (nT G) v r p0 p1 p2)) := by
  refine CR_of [some (.ref (G.1 0 1)), some (.int p0), some (.int p1), some (.int p2), none, none] hst (by decide +kernel) rfl (Nat.le_of_ble_eq_true rfl) (fun k F hl hD hR => ?_)
  subst hl hD
  refine j_iloadn F dX1_minutesOfDay_0 rfl ?_
  refine j_rdSN F (qX3_dayOfWeek (kl k) hst (kD k) p0) F.hK.2.2.1 ui_X3 ud_X3_dayOfWeek us_X3_dayOfWeek dd_X3_dayOfWeek dX1_minutesOfDay_1 ⟨(Nat.le_of_ble_eq_true rfl), (Nat.le_of_ble_eq_true rfl)⟩ (fun _ h => nomatch h) rfl (Nat.le_of_ble_eq_true rfl) ⟨(Nat.le_of_ble_eq_true rfl), (Nat.le_of_ble_eq_true rfl)⟩ ?_
  refine j_iconst F (v := 5) dX1_minutesOfDay_4 (by decide) ?_
  refine j_iclt F (tgt := 10) dX1_minutesOfDay_5 (by decide) (fun h5 => ?_) (fun h5 => ?_)
  · refine j_iloadn F dX1_minutesOfDay_10 rfl ?_
    refine j_iloadn F dX1_minutesOfDay_11 rfl ?_
    refine j_aloadn F dX1_minutesOfDay_12 rfl ?_
    refine gf_X1_9 F (v := .int (v 0 1)) dX1_minutesOfDay_13 1 rfl rfl ?_
    refine j_iadd F dX1_minutesOfDay_16 ?_
    refine j_mmax F um_X1_28 us_max ui_Math ud_max dX1_minutesOfDay_17 ⟨(Nat.le_of_ble_eq_true rfl), (Nat.le_of_ble_eq_true rfl), (Nat.le_of_ble_eq_true rfl), (Nat.le_of_ble_eq_true rfl)⟩ ?_
    refine j_istore F [some (.ref (G.1 0 1)), some (.int p0), some (.int p1), some (.int p2), some (.int (if p1 < (p0 + (v 0 1)) then (p0 + (v 0 1)) else p1)), none] dX1_minutesOfDay_20 rfl rfl rfl ?_
    refine j_iloadn F dX1_minutesOfDay_22 rfl ?_
    refine j_iloadn F dX1_minutesOfDay_23 rfl ?_
    refine j_aloadn F dX1_minutesOfDay_24 rfl ?_
    refine gf_X1_15 F (v := .int (v 0 2)) dX1_minutesOfDay_25 1 rfl rfl ?_
    refine j_iadd F dX1_minutesOfDay_28 ?_
    refine j_mmin F um_X1_34 us_min ui_Math ud_min dX1_minutesOfDay_29 ⟨(Nat.le_of_ble_eq_true rfl), (Nat.le_of_ble_eq_true rfl), (Nat.le_of_ble_eq_true rfl), (Nat.le_of_ble_eq_true rfl)⟩ ?_
    refine j_istore F [some (.ref (G.1 0 1)), some (.int p0), some (.int p1), some (.int p2), some (.int (if p1 < (p0 + (v 0 1)) then (p0 + (v 0 1)) else p1)), some (.int (if (p0 + (v 0 2)) < p2 then (p0 + (v 0 2)) else p2))] dX1_minutesOfDay_32 rfl rfl rfl ?_
    refine j_iconst F (v := 0) dX1_minutesOfDay_34 (by decide) ?_
    refine j_iload F dX1_minutesOfDay_35 rfl ?_
    refine j_iload F dX1_minutesOfDay_37 rfl ?_
    refine j_isub F dX1_minutesOfDay_39 ?_
    refine j_mmax F um_X1_28 us_max ui_Math ud_max dX1_minutesOfDay_40 ⟨(Nat.le_of_ble_eq_true rfl), (Nat.le_of_ble_eq_true rfl), (Nat.le_of_ble_eq_true rfl), (Nat.le_of_ble_eq_true rfl)⟩ ?_
    exact j_iretR F hR dX1_minutesOfDay_43 (congrArg Value.int (show C_H_minutesOfDay (nA G) (nT G) v r p0 p1 p2 = if 0 < ((if (p0 + (v 0 2)) < p2 then (p0 + (v 0 2)) else p2) - (if p1 < (p0 + (v 0 1)) then (p0 + (v 0 1)) else p1)) then ((if (p0 + (v 0 2)) < p2 then (p0 + (v 0 2)) else p2) - (if p1 < (p0 + (v 0 1)) then (p0 + (v 0 1)) else p1)) else 0 from by rw [C_H_minutesOfDay, if_pos h5]))
  · refine j_iconst F (v := 0) dX1_minutesOfDay_8 (by decide) ?_
    exact j_iretR F hR dX1_minutesOfDay_9 (congrArg Value.int (show C_H_minutesOfDay (nA G) (nT G) v r p0 p1 p2 = 0 from by rw [C_H_minutesOfDay, if_neg h5]))
def C_T_isOpen (na nt : Nat) (v : S2) (r : R2) (t : Nat) : Bool := if (v 24 t) = 0 then true else if (v 24 t) = 1 then true else if (v 24 t) = 2 then true else false
set_option maxHeartbeats 4000000 in
set_option maxRecDepth 100000 in
theorem qX2_isOpen (l : Launch) (hst : l.stackTraces = false) (D : va_G) (G : CG) (v : S2) (r : R2) (t : Nat) (ht : t < nT G) : CR l D yX2_isOpen cX2_isOpen 1 (some .boolean) 0 0 (CW D G v r) [.ref (aT G t)] (.int (b1 (C_T_isOpen (nA G) (nT G) v r t))) := by
  refine CR_of [some (.ref (aT G t))] hst (by decide +kernel) rfl (Nat.le_of_ble_eq_true rfl) (fun k F hl hD hR => ?_)
  subst hl hD
  refine j_aloadn F dX2_isOpen_0 rfl ?_
  refine gf_X2_24 F (v := .int (v 24 t)) dX2_isOpen_1 (4 + nA G + t) (cg_T ht) rfl ?_
  refine j_ifeq F (tgt := 23) dX2_isOpen_4 (by decide) (fun h4 => ?_) (fun h4 => ?_)
  · refine j_iconst F (v := 1) dX2_isOpen_23 (by decide) ?_
    refine j_goto F (tgt := 28) dX2_isOpen_24 (by decide) ?_
    exact j_zretR F (b := true) hR dX2_isOpen_28 rfl (congrArg (fun z => Value.int (b1 z)) (show C_T_isOpen (nA G) (nT G) v r t = true from by rw [C_T_isOpen, if_pos h4]))
  · refine j_aloadn F dX2_isOpen_7 rfl ?_
    refine gf_X2_24 F (v := .int (v 24 t)) dX2_isOpen_8 (4 + nA G + t) (cg_T ht) rfl ?_
    refine j_iconst F (v := 1) dX2_isOpen_11 (by decide) ?_
    refine j_iceq F (tgt := 23) dX2_isOpen_12 (by decide) (fun h12 => ?_) (fun h12 => ?_)
    · refine j_iconst F (v := 1) dX2_isOpen_23 (by decide) ?_
      refine j_goto F (tgt := 28) dX2_isOpen_24 (by decide) ?_
      exact j_zretR F (b := true) hR dX2_isOpen_28 rfl (congrArg (fun z => Value.int (b1 z)) (show C_T_isOpen (nA G) (nT G) v r t = true from by rw [C_T_isOpen, if_neg h4, if_pos h12]))
    · refine j_aloadn F dX2_isOpen_15 rfl ?_
      refine gf_X2_24 F (v := .int (v 24 t)) dX2_isOpen_16 (4 + nA G + t) (cg_T ht) rfl ?_
      refine j_iconst F (v := 2) dX2_isOpen_19 (by decide) ?_
      refine j_icne F (tgt := 27) dX2_isOpen_20 (by decide) (fun h20 => ?_) (fun h20 => ?_)
      · refine j_iconst F (v := 0) dX2_isOpen_27 (by decide) ?_
        exact j_zretR F (b := false) hR dX2_isOpen_28 rfl (congrArg (fun z => Value.int (b1 z)) (show C_T_isOpen (nA G) (nT G) v r t = false from by rw [C_T_isOpen, if_neg h4, if_neg h12, if_neg h20]))
      · refine j_iconst F (v := 1) dX2_isOpen_23 (by decide) ?_
        refine j_goto F (tgt := 28) dX2_isOpen_24 (by decide) ?_
        exact j_zretR F (b := true) hR dX2_isOpen_28 rfl (congrArg (fun z => Value.int (b1 z)) (show C_T_isOpen (nA G) (nT G) v r t = true from by rw [C_T_isOpen, if_neg h4, if_neg h12, if_pos h20]))
def C_numberOfAgent (na nt : Nat) (v : S2) (r : R2) (o0 : Option Nat) : Int32 := if o0 = none then (-1) else v 10 (gd o0)
set_option maxHeartbeats 4000000 in
set_option maxRecDepth 100000 in
theorem qX3_numberOfAgent (l : Launch) (hst : l.stackTraces = false) (D : va_G) (G : CG) (v : S2) (r : R2) (o0 : Option Nat) (ho : ∀ y, o0 = some y → y < nA G) : CR l D yX3_numberOfAgent cX3_numberOfAgent 1 (some .int) 0 0 (CW D G v r) [va_rf ((o0).map (aA G))] (.int (C_numberOfAgent (nA G) (nT G) v r o0)) := by
  refine CR_of [some (va_rf ((o0).map (aA G)))] hst (by decide +kernel) rfl (by cases o0 <;> exact Nat.le_of_ble_eq_true rfl) (fun k F hl hD hR => ?_)
  subst hl hD
  refine j_aloadnq F dX3_numberOfAgent_0 rfl ?_
  refine j_ifnonnullq F (tgt := 8) dX3_numberOfAgent_1 (by decide) (fun a1 e1 => ?_) (fun e1 => ?_)
  · obtain ⟨ea, h1⟩ := rf_some e1
    subst ea
    rw [e1]
    refine j_aloadn F dX3_numberOfAgent_8 rfl ?_
    refine gf_X3_95 F (v := .int (v 10 (gd o0))) dX3_numberOfAgent_9 (4 + (gd o0)) (cg_A (ho _ (gd_some h1))) rfl ?_
    exact j_iretR F hR dX3_numberOfAgent_12 (congrArg Value.int (show C_numberOfAgent (nA G) (nT G) v r o0 = v 10 (gd o0) from by rw [C_numberOfAgent, if_neg h1]))
  · rw [e1]
    have h1 := map_none e1
    refine j_iconst F (v := (-1)) dX3_numberOfAgent_4 (by decide) ?_
    refine j_goto F (tgt := 12) dX3_numberOfAgent_5 (by decide) ?_
    exact j_iretR F hR dX3_numberOfAgent_12 (congrArg Value.int (show C_numberOfAgent (nA G) (nT G) v r o0 = (-1) from by rw [C_numberOfAgent, if_pos h1]))
def C_numberOfTicket (na nt : Nat) (v : S2) (r : R2) (o0 : Option Nat) : Int32 := if o0 = none then (-1) else v 20 (gd o0)
set_option maxHeartbeats 4000000 in
set_option maxRecDepth 100000 in
theorem qX3_numberOfTicket (l : Launch) (hst : l.stackTraces = false) (D : va_G) (G : CG) (v : S2) (r : R2) (o0 : Option Nat) (ho : ∀ y, o0 = some y → y < nT G) : CR l D yX3_numberOfTicket cX3_numberOfTicket 1 (some .int) 0 0 (CW D G v r) [va_rf ((o0).map (aT G))] (.int (C_numberOfTicket (nA G) (nT G) v r o0)) := by
  refine CR_of [some (va_rf ((o0).map (aT G)))] hst (by decide +kernel) rfl (by cases o0 <;> exact Nat.le_of_ble_eq_true rfl) (fun k F hl hD hR => ?_)
  subst hl hD
  refine j_aloadnq F dX3_numberOfTicket_0 rfl ?_
  refine j_ifnonnullq F (tgt := 8) dX3_numberOfTicket_1 (by decide) (fun a1 e1 => ?_) (fun e1 => ?_)
  · obtain ⟨ea, h1⟩ := rf_some e1
    subst ea
    rw [e1]
    refine j_aloadn F dX3_numberOfTicket_8 rfl ?_
    refine gf_X3_142 F (v := .int (v 20 (gd o0))) dX3_numberOfTicket_9 (4 + nA G + (gd o0)) (cg_T (ho _ (gd_some h1))) rfl ?_
    exact j_iretR F hR dX3_numberOfTicket_12 (congrArg Value.int (show C_numberOfTicket (nA G) (nT G) v r o0 = v 20 (gd o0) from by rw [C_numberOfTicket, if_neg h1]))
  · rw [e1]
    have h1 := map_none e1
    refine j_iconst F (v := (-1)) dX3_numberOfTicket_4 (by decide) ?_
    refine j_goto F (tgt := 12) dX3_numberOfTicket_5 (by decide) ?_
    exact j_iretR F hR dX3_numberOfTicket_12 (congrArg Value.int (show C_numberOfTicket (nA G) (nT G) v r o0 = (-1) from by rw [C_numberOfTicket, if_pos h1]))
def C_slackOf (na nt : Nat) (v : S2) (r : R2) (t0 : Nat) : Int32 := (v 2 (ix (v 22 t0))) - (v 25 t0)
set_option maxHeartbeats 4000000 in
set_option maxRecDepth 100000 in
theorem qX3_slackOf (l : Launch) (hst : l.stackTraces = false) (D : va_G) (G : CG) (v : S2) (r : R2) (t0 : Nat) (hC : CI G v r) (ht : t0 < nT G) : CR l D yX3_slackOf cX3_slackOf 2 (some .int) 0 0 (CW D G v r) [.ref (G.1 0 0), .ref (aT G t0)] (.int (C_slackOf (nA G) (nT G) v r t0)) := by
  refine CR_of [some (.ref (G.1 0 0)), some (.ref (aT G t0))] hst (by decide +kernel) rfl (Nat.le_of_ble_eq_true rfl) (fun k F hl hD hR => ?_)
  subst hl hD
  refine j_aloadn F dX3_slackOf_0 rfl ?_
  refine gf_X3_20 F (v := .ref (G.1 0 3)) dX3_slackOf_1 0 rfl rfl ?_
  refine j_aloadn F dX3_slackOf_4 rfl ?_
  refine gf_X3_152 F (v := .int (v 22 t0)) dX3_slackOf_5 (4 + nA G + t0) (cg_T ht) rfl ?_
  refine j_iald F dX3_slackOf_8 (f := v 2) 3 rfl (CI.prio hC ht) ?_
  refine j_aloadn F dX3_slackOf_9 rfl ?_
  refine gf_X3_187 F (v := .int (v 25 t0)) dX3_slackOf_10 (4 + nA G + t0) (cg_T ht) rfl ?_
  refine j_isub F dX3_slackOf_13 ?_
  exact j_iretR F hR dX3_slackOf_14 (congrArg Value.int (show C_slackOf (nA G) (nT G) v r t0 = (v 2 (ix (v 22 t0))) - (v 25 t0) from rfl))
def C_breaksAnswer (na nt : Nat) (v : S2) (r : R2) (t0 : Nat) : Bool := if 0 ≤ (v 27 t0) then (if (v 24 t0) = 4 then false else if (v 27 t0) ≤ (v 1 (ix (v 22 t0))) then false else true) else if (v 24 t0) = 4 then false else if (v 25 t0) ≤ (v 1 (ix (v 22 t0))) then false else true
def C_breaksSolution (na nt : Nat) (v : S2) (r : R2) (t0 : Nat) : Bool := if (v 24 t0) = 4 then false else if 0 ≤ (C_slackOf na nt v r t0) then false else true
def C_takeFromHolder (na nt : Nat) (v : S2) (r : R2) (t0 : Nat) : S2 × R2 := if r 32 t0 = none then (v, r) else (v, u3 (u3 r 15 (gd (r 32 t0)) none) 32 t0 none)
set_option maxHeartbeats 4000000 in
set_option maxRecDepth 100000 in
theorem qX3_takeFromHolder (l : Launch) (hst : l.stackTraces = false) (D : va_G) (G : CG) (v : S2) (r : R2) (t0 : Nat) (hC : CI G v r) (ht : t0 < nT G) : CM l D yX3_takeFromHolder cX3_takeFromHolder 2 none 0 0 0 0 (CW D G v r) [.ref (aT G t0)] (dP none (CW D G (C_takeFromHolder (nA G) (nT G) v r t0).1 (C_takeFromHolder (nA G) (nT G) v r t0).2)) := by
  refine CM_of [some (.ref (aT G t0)), none] hst (by decide +kernel) rfl (Nat.le_of_ble_eq_true rfl) (fun k F hl hD hin hR => ?_)
  subst hl hD
  refine j_aloadn F dX3_takeFromHolder_0 rfl ?_
  refine gf_X3_287 F (v := va_rf ((r 32 t0).map (aA G))) dX3_takeFromHolder_1 (4 + nA G + t0) (cg_T ht) rfl ?_
  refine j_astorenq F [some (.ref (aT G t0)), some (va_rf ((r 32 t0).map (aA G)))] dX3_takeFromHolder_4 rfl rfl rfl ?_
  refine j_aloadnq F dX3_takeFromHolder_5 rfl ?_
  refine j_ifnullq F (tgt := 19) dX3_takeFromHolder_6 (by decide) (fun e6 => ?_) (fun a6 e6 => ?_)
  · rw [e6]
    have h6 := map_none e6
    have hz : C_takeFromHolder (nA G) (nT G) v r t0 = (v, r) := by rw [C_takeFromHolder, if_pos h6]
    exact j_vret F hR dX3_takeFromHolder_19 (Nat.le_of_ble_eq_true rfl) (Nat.le_of_ble_eq_true rfl) ⟨rfl, by rw [hz]⟩
  · obtain ⟨ea, h6⟩ := rf_some e6
    subst ea
    rw [e6]
    refine j_aloadn F dX3_takeFromHolder_9 rfl ?_
    refine j_null F dX3_takeFromHolder_10 ?_
    refine pf_X3_107 F hR.1 dX3_takeFromHolder_11 rfl rfl (4 + (gd (r 32 t0))) (cg_A ((CI.holder hC ht) _ (gd_some h6))) (Nat.le_of_ble_eq_true rfl) (CW (kD k) G v (u3 r 15 (gd (r 32 t0)) none)) (csA_5 (x := none) ((CI.holder hC ht) _ (gd_some h6))) ?_
    refine j_aloadn F dX3_takeFromHolder_14 rfl ?_
    refine j_null F dX3_takeFromHolder_15 ?_
    refine pf_X3_287 F hR.1 dX3_takeFromHolder_16 rfl rfl (4 + nA G + t0) (cg_T ht) (Nat.le_of_ble_eq_true rfl) (CW (kD k) G v (u3 (u3 r 15 (gd (r 32 t0)) none) 32 t0 none)) (csT_12 (x := none) ht) ?_
    have hz : C_takeFromHolder (nA G) (nT G) v r t0 = (v, u3 (u3 r 15 (gd (r 32 t0)) none) 32 t0 none) := by rw [C_takeFromHolder, if_neg h6]
    exact j_vret F hR dX3_takeFromHolder_19 (Nat.le_of_ble_eq_true rfl) (Nat.le_of_ble_eq_true rfl) ⟨rfl, by rw [hz]⟩
def C_handBack (na nt : Nat) (v : S2) (r : R2) (t0 : Nat) : S2 × R2 := (u2 ((C_takeFromHolder na nt v r t0).1) 24 t0 0, (C_takeFromHolder na nt v r t0).2)
set_option maxHeartbeats 4000000 in
set_option maxRecDepth 100000 in
theorem qX3_handBack (l : Launch) (hst : l.stackTraces = false) (D : va_G) (G : CG) (v : S2) (r : R2) (t0 : Nat) (hC : CI G v r) (ht : t0 < nT G) : CM l D yX3_handBack cX3_handBack 1 none 1 21 0 0 (CW D G v r) [.ref (aT G t0)] (dP none (CW D G (C_handBack (nA G) (nT G) v r t0).1 (C_handBack (nA G) (nT G) v r t0).2)) := by
  refine CM_of [some (.ref (aT G t0))] hst (by decide +kernel) rfl (Nat.le_of_ble_eq_true rfl) (fun k F hl hD hin hR => ?_)
  subst hl hD
  refine j_aloadn F dX3_handBack_0 rfl ?_
  refine j_dmS F hR.1 (qX3_takeFromHolder (kl k) hst (kD k) G v r t0 hC ht) lk_X3_157 dX3_handBack_1 ⟨(Nat.le_of_ble_eq_true rfl), (Nat.le_of_ble_eq_true rfl)⟩ rfl (Nat.le_of_ble_eq_true rfl) ⟨(Nat.le_of_ble_eq_true rfl), (Nat.le_of_ble_eq_true rfl)⟩ rfl ?_
  refine j_aloadn F dX3_handBack_4 rfl ?_
  refine j_iconst F (v := 0) dX3_handBack_5 (by decide) ?_
  refine pf_X3_147 F hR.1 dX3_handBack_6 rfl rfl (4 + nA G + t0) (cg_T ht) (Nat.le_of_ble_eq_true rfl) (CW (kD k) G (u2 ((C_takeFromHolder (nA G) (nT G) v r t0).1) 24 t0 0) ((C_takeFromHolder (nA G) (nT G) v r t0).2)) (csT_4 ht) ?_
  have hz : C_handBack (nA G) (nT G) v r t0 = (u2 ((C_takeFromHolder (nA G) (nT G) v r t0).1) 24 t0 0, (C_takeFromHolder (nA G) (nT G) v r t0).2) := rfl
  exact j_vret F hR dX3_handBack_9 (Nat.le_of_ble_eq_true rfl) (Nat.le_of_ble_eq_true rfl) ⟨rfl, by rw [hz]⟩
def C_give (na nt : Nat) (v : S2) (r : R2) (t0 : Nat) (a1 : Nat) : S2 × R2 := if 0 ≤ (v 27 t0) then (u2 v 24 t0 1, u3 (u3 (u3 r 15 a1 (some t0)) 32 t0 (some a1)) 33 t0 (some a1)) else (u2 (u2 v 24 t0 1) 27 t0 (v 25 t0), u3 (u3 (u3 r 15 a1 (some t0)) 32 t0 (some a1)) 33 t0 (some a1))
set_option maxHeartbeats 4000000 in
set_option maxRecDepth 100000 in
theorem qX3_give (l : Launch) (hst : l.stackTraces = false) (D : va_G) (G : CG) (v : S2) (r : R2) (t0 : Nat) (a1 : Nat) (ht : t0 < nT G) (ha : a1 < nA G) : CM l D yX3_give cX3_give 2 none 0 0 0 0 (CW D G v r) [.ref (aT G t0), .ref (aA G a1)] (dP none (CW D G (C_give (nA G) (nT G) v r t0 a1).1 (C_give (nA G) (nT G) v r t0 a1).2)) := by
  refine CM_of [some (.ref (aT G t0)), some (.ref (aA G a1))] hst (by decide +kernel) rfl (Nat.le_of_ble_eq_true rfl) (fun k F hl hD hin hR => ?_)
  subst hl hD
  refine j_aloadn F dX3_give_0 rfl ?_
  refine j_aloadn F dX3_give_1 rfl ?_
  refine pf_X3_107 F hR.1 dX3_give_2 rfl rfl (4 + a1) (cg_A ha) (Nat.le_of_ble_eq_true rfl) (CW (kD k) G v (u3 r 15 a1 (some t0))) (csA_5 (x := some t0) ha) ?_
  refine j_aloadn F dX3_give_5 rfl ?_
  refine j_aloadn F dX3_give_6 rfl ?_
  refine pf_X3_287 F hR.1 dX3_give_7 rfl rfl (4 + nA G + t0) (cg_T ht) (Nat.le_of_ble_eq_true rfl) (CW (kD k) G v (u3 (u3 r 15 a1 (some t0)) 32 t0 (some a1))) (csT_12 (x := some a1) ht) ?_
  refine j_aloadn F dX3_give_10 rfl ?_
  refine j_aloadn F dX3_give_11 rfl ?_
  refine pf_X3_291 F hR.1 dX3_give_12 rfl rfl (4 + nA G + t0) (cg_T ht) (Nat.le_of_ble_eq_true rfl) (CW (kD k) G v (u3 (u3 (u3 r 15 a1 (some t0)) 32 t0 (some a1)) 33 t0 (some a1))) (csT_13 (x := some a1) ht) ?_
  refine j_aloadn F dX3_give_15 rfl ?_
  refine j_iconst F (v := 1) dX3_give_16 (by decide) ?_
  refine pf_X3_147 F hR.1 dX3_give_17 rfl rfl (4 + nA G + t0) (cg_T ht) (Nat.le_of_ble_eq_true rfl) (CW (kD k) G (u2 v 24 t0 1) (u3 (u3 (u3 r 15 a1 (some t0)) 32 t0 (some a1)) 33 t0 (some a1))) (csT_4 ht) ?_
  refine j_aloadn F dX3_give_20 rfl ?_
  refine gf_X3_294 F (v := .int (v 27 t0)) dX3_give_21 (4 + nA G + t0) (cg_T ht) rfl ?_
  refine j_ifge F (tgt := 35) dX3_give_24 (by decide) (fun h24 => ?_) (fun h24 => ?_)
  · have hz : C_give (nA G) (nT G) v r t0 a1 = (u2 v 24 t0 1, u3 (u3 (u3 r 15 a1 (some t0)) 32 t0 (some a1)) 33 t0 (some a1)) := by rw [C_give, if_pos h24]
    exact j_vret F hR dX3_give_35 (Nat.le_of_ble_eq_true rfl) (Nat.le_of_ble_eq_true rfl) ⟨rfl, by rw [hz]⟩
  · refine j_aloadn F dX3_give_27 rfl ?_
    refine j_aloadn F dX3_give_28 rfl ?_
    refine gf_X3_187 F (v := .int (v 25 t0)) dX3_give_29 (4 + nA G + t0) (cg_T ht) rfl ?_
    refine pf_X3_294 F hR.1 dX3_give_32 rfl rfl (4 + nA G + t0) (cg_T ht) (Nat.le_of_ble_eq_true rfl) (CW (kD k) G (u2 (u2 v 24 t0 1) 27 t0 (v 25 t0)) (u3 (u3 (u3 r 15 a1 (some t0)) 32 t0 (some a1)) 33 t0 (some a1))) (csT_7 ht) ?_
    have hz : C_give (nA G) (nT G) v r t0 a1 = (u2 (u2 v 24 t0 1) 27 t0 (v 25 t0), u3 (u3 (u3 r 15 a1 (some t0)) 32 t0 (some a1)) 33 t0 (some a1)) := by rw [C_give, if_neg h24]
    exact j_vret F hR dX3_give_35 (Nat.le_of_ble_eq_true rfl) (Nat.le_of_ble_eq_true rfl) ⟨rfl, by rw [hz]⟩
def C_solve (na nt : Nat) (v : S2) (r : R2) (t0 : Nat) (a1 : Nat) : S2 × R2 := (u2 (u2 (u2 ((C_takeFromHolder na nt v r t0).1) 24 t0 3) 30 t0 ((((C_takeFromHolder na nt v r t0).1) 0 0) + 1)) 17 a1 ((((C_takeFromHolder na nt v r t0).1) 17 a1) + 1), (C_takeFromHolder na nt v r t0).2)
set_option maxHeartbeats 4000000 in
set_option maxRecDepth 100000 in
theorem qX3_solve (l : Launch) (hst : l.stackTraces = false) (D : va_G) (G : CG) (v : S2) (r : R2) (t0 : Nat) (a1 : Nat) (hC : CI G v r) (ht : t0 < nT G) (ha : a1 < nA G) : CM l D yX3_solve cX3_solve 3 none 1 21 0 0 (CW D G v r) [.ref (G.1 0 0), .ref (aT G t0), .ref (aA G a1)] (dP none (CW D G (C_solve (nA G) (nT G) v r t0 a1).1 (C_solve (nA G) (nT G) v r t0 a1).2)) := by
  refine CM_of [some (.ref (G.1 0 0)), some (.ref (aT G t0)), some (.ref (aA G a1))] hst (by decide +kernel) rfl (Nat.le_of_ble_eq_true rfl) (fun k F hl hD hin hR => ?_)
  subst hl hD
  refine j_aloadn F dX3_solve_0 rfl ?_
  refine j_dmS F hR.1 (qX3_takeFromHolder (kl k) hst (kD k) G v r t0 hC ht) lk_X3_157 dX3_solve_1 ⟨(Nat.le_of_ble_eq_true rfl), (Nat.le_of_ble_eq_true rfl)⟩ rfl (Nat.le_of_ble_eq_true rfl) ⟨(Nat.le_of_ble_eq_true rfl), (Nat.le_of_ble_eq_true rfl)⟩ rfl ?_
  refine j_aloadn F dX3_solve_4 rfl ?_
  refine j_iconst F (v := 3) dX3_solve_5 (by decide) ?_
  refine pf_X3_147 F hR.1 dX3_solve_6 rfl rfl (4 + nA G + t0) (cg_T ht) (Nat.le_of_ble_eq_true rfl) (CW (kD k) G (u2 ((C_takeFromHolder (nA G) (nT G) v r t0).1) 24 t0 3) ((C_takeFromHolder (nA G) (nT G) v r t0).2)) (csT_4 ht) ?_
  refine j_aloadn F dX3_solve_9 rfl ?_
  refine j_aloadn F dX3_solve_10 rfl ?_
  refine gf_X3_33 F (v := .int (((C_takeFromHolder (nA G) (nT G) v r t0).1) 0 0)) dX3_solve_11 0 rfl (dfi_5 (u2_ne1 (by decide))) ?_
  refine j_iconst F (v := 1) dX3_solve_14 (by decide) ?_
  refine j_iadd F dX3_solve_15 ?_
  refine pf_X3_198 F hR.1 dX3_solve_16 rfl rfl (4 + nA G + t0) (cg_T ht) (Nat.le_of_ble_eq_true rfl) (CW (kD k) G (u2 (u2 ((C_takeFromHolder (nA G) (nT G) v r t0).1) 24 t0 3) 30 t0 ((((C_takeFromHolder (nA G) (nT G) v r t0).1) 0 0) + 1)) ((C_takeFromHolder (nA G) (nT G) v r t0).2)) (csT_10 ht) ?_
  refine j_aloadn F dX3_solve_19 rfl ?_
  refine j_dup F dX3_solve_20 rfl ?_
  refine gf_X3_284 F (v := .int (((C_takeFromHolder (nA G) (nT G) v r t0).1) 17 a1)) dX3_solve_21 (4 + a1) (cg_A ha) (afi_7 (Eq.trans (u2_ne1 (by decide)) (u2_ne1 (by decide)))) ?_
  refine j_iconst F (v := 1) dX3_solve_24 (by decide) ?_
  refine j_iadd F dX3_solve_25 ?_
  refine pf_X3_284 F hR.1 dX3_solve_26 rfl rfl (4 + a1) (cg_A ha) (Nat.le_of_ble_eq_true rfl) (CW (kD k) G (u2 (u2 (u2 ((C_takeFromHolder (nA G) (nT G) v r t0).1) 24 t0 3) 30 t0 ((((C_takeFromHolder (nA G) (nT G) v r t0).1) 0 0) + 1)) 17 a1 ((((C_takeFromHolder (nA G) (nT G) v r t0).1) 17 a1) + 1)) ((C_takeFromHolder (nA G) (nT G) v r t0).2)) (csA_7 ha) ?_
  have hz : C_solve (nA G) (nT G) v r t0 a1 = (u2 (u2 (u2 ((C_takeFromHolder (nA G) (nT G) v r t0).1) 24 t0 3) 30 t0 ((((C_takeFromHolder (nA G) (nT G) v r t0).1) 0 0) + 1)) 17 a1 ((((C_takeFromHolder (nA G) (nT G) v r t0).1) 17 a1) + 1), (C_takeFromHolder (nA G) (nT G) v r t0).2) := rfl
  exact j_vret F hR dX3_solve_29 (Nat.le_of_ble_eq_true rfl) (Nat.le_of_ble_eq_true rfl) ⟨rfl, by rw [hz]⟩
end
section
/-! THE CLASS'S METHODS, the others that call nothing new into being -/
theorem j_iincW {k : Kx} {cc : ByteArray} {own : String} {R : Room} {nL : Nat} {ws : va_W} {c n pc : Nat} {lv : List (Option Value)} {st : List Value} (F : Fx k cc own R nL) {i : Nat} {d : Int} {x v : Int32} (lv' : List (Option Value)) (hd : decode cc pc = .ok (.iinc i d, 6)) (hl : lv[i]? = some (some (.int x))) (hv : x + Int32.ofInt d = v) (ho : (Nat.blt i lv.length && okst lv i) = true) (hn : Nat.blt i nL = true) (he : lv.set i (some (.int v)) = lv') (K : J k ws c n (pc + 6) lv' st) : J k ws c n pc lv st := fun H locs ls hP hL => by
  obtain ⟨j, hj⟩ := List.getElem?_of_mem ((prs_iff lv 0 i (.int x)).mpr ⟨i, by omega, hl⟩)
  exact lv_iincW F.hx F.hb hd hL hj hv (by rw [F.hn]; simpa using hn) rfl fun ls' h => K H locs ls' hP (lvh.put ho he h)
theorem CI_take {na nt : Nat} {G : CG} {v : S2} {r : R2} {t : Nat} (h : CI G v r) : CI G (C_takeFromHolder na nt v r t).1 (C_takeFromHolder na nt v r t).2 := by
  unfold C_takeFromHolder
  split
  · exact h
  · exact CI_none (CI_none h)
theorem CI_handBack {na nt : Nat} {G : CG} {v : S2} {r : R2} {t : Nat} (h : CI G v r) : CI G (C_handBack na nt v r t).1 (C_handBack na nt v r t).2 := by
  unfold C_handBack
  exact CI_v (by decide) (CI_take h)
theorem CI_give {na nt : Nat} {G : CG} {v : S2} {r : R2} {t a : Nat} (h : CI G v r) (ht : t < nT G) (ha : a < nA G) : CI G (C_give na nt v r t a).1 (C_give na nt v r t a).2 := by
  have h1 : CI G v (u3 (u3 (u3 r 15 a (some t)) 32 t (some a)) 33 t (some a)) := by
    refine CI_r (CI_r (CI_r h ?_ ?_ ?_ ?_) ?_ ?_ ?_ ?_) ?_ ?_ ?_ ?_ <;> intro z <;> first | exact absurd z (by decide) | (intro b e; cases e; assumption)
  unfold C_give
  split
  · exact CI_v (by decide) h1
  · exact CI_v (by decide) (CI_v (by decide) h1)
theorem CI_solve {na nt : Nat} {G : CG} {v : S2} {r : R2} {t a : Nat} (h : CI G v r) : CI G (C_solve na nt v r t a).1 (C_solve na nt v r t a).2 := by
  unfold C_solve
  exact CI_v (by decide) (CI_v (by decide) (CI_v (by decide) (CI_take h)))
theorem in_lt {x : Int32} {n : Nat} (hn : n < 2 ^ 31) (h0 : ¬ x < 0) (h1 : x < nI n) : vp_in x n := by
  rw [Int32.lt_iff_toInt_lt, nI_toInt hn] at h1
  rw [Int32.lt_iff_toInt_lt] at h0
  rw [vp_in_iff]
  exact ⟨Int.not_lt.mp h0, h1⟩
theorem not_in0 {x : Int32} {n : Nat} (h : x < 0) : ¬ inR x n = true := fun z => inR_iff.mp z (Or.inl h)
theorem not_in1 {x : Int32} {n : Nat} (hn : n < 2 ^ 31) (h : ¬ x < nI n) : ¬ inR x n = true := fun z => h (by
  rw [Int32.lt_iff_toInt_lt, nI_toInt hn]; exact (vp_in_iff.mp (inR_iff.mp z)).2)
theorem in_nI {x : Int32} {n : Nat} (h : vp_in x n) : x = nI (ix x) := by
  obtain ⟨j, hj, rfl⟩ := nI_of (x := x) (fun z => h (Or.inl z))
  rw [ix_nI hj]
theorem nI_mul (a b : Nat) : nI a * nI b = nI (a * b) := (Int32.ofNat_mul a b).symm
theorem nI_div {a b : Nat} (ha : a < 2 ^ 31) (hb : b < 2 ^ 31) (h0 : 0 < b) : nI a / nI b = nI (a / b) := by
  apply Int32.toInt_inj.mp
  rw [lg_idiv_nonneg (by rw [nI_toInt ha]; omega) (by rw [nI_toInt hb]; omega), nI_toInt ha, nI_toInt hb, nI_toInt (Nat.lt_of_le_of_lt (Nat.div_le_self _ _) ha)]
  rfl
theorem nI_sub {a b : Nat} (h : b ≤ a) : nI a - nI b = nI (a - b) := by
  have : nI (a - b) + nI b = nI a := by rw [nI_add, Nat.sub_add_cancel h]
  rw [← this, Int32.add_sub_cancel]
theorem nI_day {x : Int32} {n : Nat} (h : vp_in x n) : x - (x - x / 1440 * 1440) = nI (ix x / 1440 * 1440) := by
  have hl : ix x < 2 ^ 31 := by
    obtain ⟨j, hj, e⟩ := nI_of (x := x) (fun z => h (Or.inl z))
    rw [e, ix_nI hj]; exact hj
  have e := in_nI h
  have e2 : x / 1440 = nI (ix x / 1440) := by
    conv => lhs; rw [e]
    exact nI_div hl (by decide) (by decide)
  have hm : ix x / 1440 * 1440 ≤ ix x := Nat.div_mul_le_self _ _
  have e3 : x - x / 1440 * 1440 = nI (ix x - ix x / 1440 * 1440) := by
    rw [e2, show nI (ix x / 1440) * 1440 = nI (ix x / 1440 * 1440) from nI_mul _ 1440]
    conv => lhs; arg 1; rw [e]
    exact nI_sub hm
  rw [e3]
  conv => lhs; arg 1; rw [e]
  rw [nI_sub (Nat.sub_le _ _)]
  congr 1
  omega
def C_chain (r : R2) : Nat → Nat → Nat
  | 0, t => t
  | n + 1, t => match r 34 t with
    | none => t
    | some u => C_chain r n u
def C_mainOf (na nt : Nat) (v : S2) (r : R2) (t0 : Nat) : Nat := C_chain r 20 t0
theorem C_chain_lt {G : CG} {v : S2} {r : R2} (h : CI G v r) : ∀ (n t : Nat), t < nT G → C_chain r n t < nT G
  | 0, _, ht => ht
  | n + 1, t, ht => by
    show (match r 34 t with | none => t | some u => C_chain r n u) < nT G
    cases e : r 34 t with
    | none => exact ht
    | some u => exact C_chain_lt h n u (h.into ht u e)
theorem C_chain_none {r : R2} {n t : Nat} (e : r 34 t = none) : C_chain r (n + 1) t = t := by
  show (match r 34 t with | none => t | some u => C_chain r n u) = t
  rw [e]
theorem C_chain_some {r : R2} {n t u : Nat} (e : r 34 t = some u) : C_chain r (n + 1) t = C_chain r n u := by
  show (match r 34 t with | none => t | some u => C_chain r n u) = _
  rw [e]
def C_mbL (na nt : Nat) (v : S2) (r : R2) (p0 p1 : Int32) : Nat → Nat → Int32 → Int32
  | 0, _, x => x
  | f + 1, m, x => if p1 ≤ nI m then x else C_mbL na nt v r p0 p1 f (m + 1440) (x + C_H_minutesOfDay na nt v r (nI m) p0 p1)
def C_H_minutesBetween (na nt : Nat) (v : S2) (r : R2) (p0 p1 : Int32) : Int32 := C_mbL na nt v r p0 p1 70 (ix p0 / 1440 * 1440) 0
def C_msL (na nt : Nat) (v : S2) (r : R2) (p0 : Int32) : Nat → Nat → Int32 → Int32
  | 0, _, _ => -1
  | f + 1, m, l => if 99999 < nI m then -1 else if C_H_minutesOfDay na nt v r (nI m) p0 100000 < l then C_msL na nt v r p0 f (m + 1440) (l - C_H_minutesOfDay na nt v r (nI m) p0 100000) else ((if p0 < (nI m + v 0 1) then (nI m + v 0 1) else p0) + l) - 1
def C_H_minuteOfService (na nt : Nat) (v : S2) (r : R2) (p0 p1 : Int32) : Int32 := C_msL na nt v r p0 70 (ix p0 / 1440 * 1440) p1
set_option maxHeartbeats 4000000 in
theorem qX3_agentAt (l : Launch) (hst : l.stackTraces = false) (D : va_G) (G : CG) (v : S2) (r : R2) (p0 : Int32) (hG : GI D G) : CX l D yX3_agentAt cX3_agentAt 2 (some (.object "HelpDesk$Agent")) 6 110 1 6 (CW D G v r) [.ref (G.1 0 0), .int p0] (fun u w => inR p0 (nA G) = true ∧ u = some (.ref (aA G (ix p0))) ∧ w = CW D G v r) (fun E => ¬ inR p0 (nA G) = true ∧ E = eI) := by
  refine CX_of [some (.ref (G.1 0 0)), some (.int p0)] hst (by decide +kernel) rfl (Nat.le_of_ble_eq_true rfl) (fun k F hl hD hR hX hNT => ?_)
  subst hl hD
  have hn : nA G < 2 ^ 31 := by have h1 := hG.nA; have h2 := hG.nT; omega
  refine j_iloadn F dX3_agentAt_0 rfl ?_
  refine j_iflt F (tgt := 15) dX3_agentAt_1 (by decide) (fun h => ?_) (fun h0 => ?_)
  · exact j_throwW F hX hNT lt_eI (text := "no such agent") (by decide +kernel) ⟨not_in0 h, rfl⟩ dX3_agentAt_15 dX3_agentAt_18 dX3_agentAt_19 dX3_agentAt_22 dX3_agentAt_25 ⟨(Nat.le_of_ble_eq_true rfl), (Nat.le_of_ble_eq_true rfl), (Nat.le_of_ble_eq_true rfl), (Nat.le_of_ble_eq_true rfl)⟩ (Nat.le_of_ble_eq_true rfl) (Nat.le_of_ble_eq_true rfl)
  refine j_iloadn F dX3_agentAt_4 rfl ?_
  refine j_aloadn F dX3_agentAt_5 rfl ?_
  refine gf_X3_26 F (v := .ref (G.1 0 4)) dX3_agentAt_6 0 rfl rfl ?_
  refine j_sizeA F lk_X3_77 dX3_agentAt_9 ⟨(Nat.le_of_ble_eq_true rfl), (Nat.le_of_ble_eq_true rfl)⟩ (Nat.le_of_ble_eq_true rfl) ⟨(Nat.le_of_ble_eq_true rfl), (Nat.le_of_ble_eq_true rfl)⟩ hst ?_
  refine j_iclt F (tgt := 26) dX3_agentAt_12 (by decide) (fun h1 => ?_) (fun h1 => ?_)
  · have hi := in_lt hn h0 h1
    refine j_aloadn F dX3_agentAt_26 rfl ?_
    refine gf_X3_26 F (v := .ref (G.1 0 4)) dX3_agentAt_27 0 rfl rfl ?_
    refine j_iloadn F dX3_agentAt_30 rfl ?_
    refine j_getA F hG hi lk_X3_231 dX3_agentAt_31 ⟨(Nat.le_of_ble_eq_true rfl), (Nat.le_of_ble_eq_true rfl)⟩ (Nat.le_of_ble_eq_true rfl) ⟨(Nat.le_of_ble_eq_true rfl), (Nat.le_of_ble_eq_true rfl)⟩ hst ?_
    refine j_cast F ul_X3_86 dX3_agentAt_34 (4 + ix p0) (cg_A (vp_lt hi)) rfl ?_
    exact j_aret F (x := some (aA G (ix p0))) hR (Or.inl ⟨_, rfl⟩) dX3_agentAt_37 (Nat.le_of_ble_eq_true rfl) (Nat.le_of_ble_eq_true rfl) ⟨inR_iff.mpr hi, rfl, rfl⟩
  · exact j_throwW F hX hNT lt_eI (text := "no such agent") (by decide +kernel) ⟨not_in1 hn h1, rfl⟩ dX3_agentAt_15 dX3_agentAt_18 dX3_agentAt_19 dX3_agentAt_22 dX3_agentAt_25 ⟨(Nat.le_of_ble_eq_true rfl), (Nat.le_of_ble_eq_true rfl), (Nat.le_of_ble_eq_true rfl), (Nat.le_of_ble_eq_true rfl)⟩ (Nat.le_of_ble_eq_true rfl) (Nat.le_of_ble_eq_true rfl)
set_option maxHeartbeats 4000000 in
theorem qX3_ticketAt (l : Launch) (hst : l.stackTraces = false) (D : va_G) (G : CG) (v : S2) (r : R2) (p0 : Int32) (hG : GI D G) : CX l D yX3_ticketAt cX3_ticketAt 2 (some (.object "HelpDesk$Ticket")) 6 110 1 6 (CW D G v r) [.ref (G.1 0 0), .int p0] (fun u w => inR p0 (nT G) = true ∧ u = some (.ref (aT G (ix p0))) ∧ w = CW D G v r) (fun E => ¬ inR p0 (nT G) = true ∧ E = eI) := by
  refine CX_of [some (.ref (G.1 0 0)), some (.int p0)] hst (by decide +kernel) rfl (Nat.le_of_ble_eq_true rfl) (fun k F hl hD hR hX hNT => ?_)
  subst hl hD
  have hn : nT G < 2 ^ 31 := by have h1 := hG.nA; have h2 := hG.nT; omega
  refine j_iloadn F dX3_ticketAt_0 rfl ?_
  refine j_iflt F (tgt := 15) dX3_ticketAt_1 (by decide) (fun h => ?_) (fun h0 => ?_)
  · exact j_throwW F hX hNT lt_eI (text := "no such ticket") (by decide +kernel) ⟨not_in0 h, rfl⟩ dX3_ticketAt_15 dX3_ticketAt_18 dX3_ticketAt_19 dX3_ticketAt_22 dX3_ticketAt_25 ⟨(Nat.le_of_ble_eq_true rfl), (Nat.le_of_ble_eq_true rfl), (Nat.le_of_ble_eq_true rfl), (Nat.le_of_ble_eq_true rfl)⟩ (Nat.le_of_ble_eq_true rfl) (Nat.le_of_ble_eq_true rfl)
  refine j_iloadn F dX3_ticketAt_4 rfl ?_
  refine j_aloadn F dX3_ticketAt_5 rfl ?_
  refine gf_X3_30 F (v := .ref (G.1 0 5)) dX3_ticketAt_6 0 rfl rfl ?_
  refine j_sizeT F lk_X3_77 dX3_ticketAt_9 ⟨(Nat.le_of_ble_eq_true rfl), (Nat.le_of_ble_eq_true rfl)⟩ (Nat.le_of_ble_eq_true rfl) ⟨(Nat.le_of_ble_eq_true rfl), (Nat.le_of_ble_eq_true rfl)⟩ hst ?_
  refine j_iclt F (tgt := 26) dX3_ticketAt_12 (by decide) (fun h1 => ?_) (fun h1 => ?_)
  · have hi := in_lt hn h0 h1
    refine j_aloadn F dX3_ticketAt_26 rfl ?_
    refine gf_X3_30 F (v := .ref (G.1 0 5)) dX3_ticketAt_27 0 rfl rfl ?_
    refine j_iloadn F dX3_ticketAt_30 rfl ?_
    refine j_getT F hG hi lk_X3_231 dX3_ticketAt_31 ⟨(Nat.le_of_ble_eq_true rfl), (Nat.le_of_ble_eq_true rfl)⟩ (Nat.le_of_ble_eq_true rfl) ⟨(Nat.le_of_ble_eq_true rfl), (Nat.le_of_ble_eq_true rfl)⟩ hst ?_
    refine j_cast F ul_X3_112 dX3_ticketAt_34 (4 + nA G + ix p0) (cg_T (vp_lt hi)) rfl ?_
    exact j_aret F (x := some (aT G (ix p0))) hR (Or.inl ⟨_, rfl⟩) dX3_ticketAt_37 (Nat.le_of_ble_eq_true rfl) (Nat.le_of_ble_eq_true rfl) ⟨inR_iff.mpr hi, rfl, rfl⟩
  · exact j_throwW F hX hNT lt_eI (text := "no such ticket") (by decide +kernel) ⟨not_in1 hn h1, rfl⟩ dX3_ticketAt_15 dX3_ticketAt_18 dX3_ticketAt_19 dX3_ticketAt_22 dX3_ticketAt_25 ⟨(Nat.le_of_ble_eq_true rfl), (Nat.le_of_ble_eq_true rfl), (Nat.le_of_ble_eq_true rfl), (Nat.le_of_ble_eq_true rfl)⟩ (Nat.le_of_ble_eq_true rfl) (Nat.le_of_ble_eq_true rfl)
def C_toldOfAgent (na nt : Nat) (v : S2) (r : R2) (a0 : Nat) (p1 : Int32) : Int32 := if p1 = 0 then C_numberOfTicket na nt v r (r 15 a0) else if p1 = 1 then v 16 a0 else if p1 = 2 then v 17 a0 else if (C_A_isThere na nt v r a0 (v 0 0)) = true then 1 else 0
set_option maxHeartbeats 4000000 in
set_option maxRecDepth 100000 in
theorem qX3_toldOfAgent (l : Launch) (hst : l.stackTraces = false) (D : va_G) (G : CG) (v : S2) (r : R2) (a0 : Nat) (p1 : Int32) (hC : CI G v r) (ha : a0 < nA G) : CR l D yX3_toldOfAgent cX3_toldOfAgent 3 (some .int) 2 42 (CW D G v r) [.ref (G.1 0 0), .ref (aA G a0), .int p1] (.int (C_toldOfAgent (nA G) (nT G) v r a0 p1)) := by
  refine CR_of [some (.ref (G.1 0 0)), some (.ref (aA G a0)), some (.int p1)] hst (by decide +kernel) rfl (Nat.le_of_ble_eq_true rfl) (fun k F hl hD hR => ?_)
  subst hl hD
  refine j_iloadn F dX3_toldOfAgent_0 rfl ?_
  by_cases h1_0 : p1 = 0
  · refine j_tabin F (off := 27) (tgt := 28) dX3_toldOfAgent_1 (by rw [h1_0]; decide) (by rw [h1_0]; decide) (by rw [h1_0]; rfl) (by decide) ?_
    refine j_aloadn F dX3_toldOfAgent_28 rfl ?_
    refine gf_X3_107 F (v := va_rf ((r 15 a0).map (aT G))) dX3_toldOfAgent_29 (4 + a0) (cg_A ha) rfl ?_
    refine j_rdS F (qX3_numberOfTicket (kl k) hst (kD k) G v r (r 15 a0) ((CI.held hC ha))) lk_X3_133 dX3_toldOfAgent_32 ⟨(Nat.le_of_ble_eq_true rfl), (Nat.le_of_ble_eq_true rfl)⟩ (fun _ h => h) rfl (Nat.le_of_ble_eq_true rfl) ⟨(Nat.le_of_ble_eq_true rfl), (Nat.le_of_ble_eq_true rfl)⟩ ?_
    exact j_iretR F hR dX3_toldOfAgent_35 (congrArg Value.int (show C_toldOfAgent (nA G) (nT G) v r a0 p1 = C_numberOfTicket (nA G) (nT G) v r (r 15 a0) from by rw [C_toldOfAgent, if_pos h1_0]))
  by_cases h1_1 : p1 = 1
  · refine j_tabin F (off := 35) (tgt := 36) dX3_toldOfAgent_1 (by rw [h1_1]; decide) (by rw [h1_1]; decide) (by rw [h1_1]; rfl) (by decide) ?_
    refine j_aloadn F dX3_toldOfAgent_36 rfl ?_
    refine gf_X3_278 F (v := .int (v 16 a0)) dX3_toldOfAgent_37 (4 + a0) (cg_A ha) rfl ?_
    exact j_iretR F hR dX3_toldOfAgent_40 (congrArg Value.int (show C_toldOfAgent (nA G) (nT G) v r a0 p1 = v 16 a0 from by rw [C_toldOfAgent, if_neg h1_0, if_pos h1_1]))
  by_cases h1_2 : p1 = 2
  · refine j_tabin F (off := 40) (tgt := 41) dX3_toldOfAgent_1 (by rw [h1_2]; decide) (by rw [h1_2]; decide) (by rw [h1_2]; rfl) (by decide) ?_
    refine j_aloadn F dX3_toldOfAgent_41 rfl ?_
    refine gf_X3_284 F (v := .int (v 17 a0)) dX3_toldOfAgent_42 (4 + a0) (cg_A ha) rfl ?_
    exact j_iretR F hR dX3_toldOfAgent_45 (congrArg Value.int (show C_toldOfAgent (nA G) (nT G) v r a0 p1 = v 17 a0 from by rw [C_toldOfAgent, if_neg h1_0, if_neg h1_1, if_pos h1_2]))
  refine j_tabout F (tgt := 46) dX3_toldOfAgent_1 (tab_out3 h1_0 h1_1 h1_2) (by decide) ?_
  refine j_aloadn F dX3_toldOfAgent_46 rfl ?_
  refine j_aloadn F dX3_toldOfAgent_47 rfl ?_
  refine gf_X3_33 F (v := .int (v 0 0)) dX3_toldOfAgent_48 0 rfl rfl ?_
  refine j_rdV F (qX0_isThere (kl k) hst (kD k) G v r a0 (v 0 0) ha) lk_X3_271 dX3_toldOfAgent_51 ⟨(Nat.le_of_ble_eq_true rfl), (Nat.le_of_ble_eq_true rfl)⟩ (fun _ h => h) (4 + a0) (cg_A ha) rfl rfl (Nat.le_of_ble_eq_true rfl) ⟨(Nat.le_of_ble_eq_true rfl), (Nat.le_of_ble_eq_true rfl)⟩ ?_
  refine j_ifbeq F (tgt := 61) dX3_toldOfAgent_54 (by decide) (fun h54 => ?_) (fun h54 => ?_)
  · refine j_iconst F (v := 0) dX3_toldOfAgent_61 (by decide) ?_
    exact j_iretR F hR dX3_toldOfAgent_62 (congrArg Value.int (show C_toldOfAgent (nA G) (nT G) v r a0 p1 = 0 from by rw [C_toldOfAgent, if_neg h1_0, if_neg h1_1, if_neg h1_2, if_neg h54]))
  · refine j_iconst F (v := 1) dX3_toldOfAgent_57 (by decide) ?_
    refine j_goto F (tgt := 62) dX3_toldOfAgent_58 (by decide) ?_
    exact j_iretR F hR dX3_toldOfAgent_62 (congrArg Value.int (show C_toldOfAgent (nA G) (nT G) v r a0 p1 = 1 from by rw [C_toldOfAgent, if_neg h1_0, if_neg h1_1, if_neg h1_2, if_pos h54]))
def C_toldOfTicket (na nt : Nat) (v : S2) (r : R2) (t0 : Nat) (p1 : Int32) : Int32 := if p1 = 0 then v 24 t0 else if p1 = 1 then C_numberOfAgent na nt v r (r 32 t0) else if p1 = 2 then v 22 t0 else if p1 = 3 then v 25 t0 else if p1 = 4 then v 26 t0 else if p1 = 5 then v 23 t0 else if p1 = 6 then v 27 t0 else v 28 t0
set_option maxHeartbeats 4000000 in
set_option maxRecDepth 100000 in
theorem qX3_toldOfTicket (l : Launch) (hst : l.stackTraces = false) (D : va_G) (G : CG) (v : S2) (r : R2) (t0 : Nat) (p1 : Int32) (hC : CI G v r) (ht : t0 < nT G) : CR l D yX3_toldOfTicket cX3_toldOfTicket 2 (some .int) 1 20 (CW D G v r) [.ref (aT G t0), .int p1] (.int (C_toldOfTicket (nA G) (nT G) v r t0 p1)) := by
  refine CR_of [some (.ref (aT G t0)), some (.int p1)] hst (by decide +kernel) rfl (Nat.le_of_ble_eq_true rfl) (fun k F hl hD hR => ?_)
  subst hl hD
  refine j_iloadn F dX3_toldOfTicket_0 rfl ?_
  by_cases h1_0 : p1 = 0
  · refine j_tabin F (off := 43) (tgt := 44) dX3_toldOfTicket_1 (by rw [h1_0]; decide) (by rw [h1_0]; decide) (by rw [h1_0]; rfl) (by decide) ?_
    refine j_aloadn F dX3_toldOfTicket_44 rfl ?_
    refine gf_X3_147 F (v := .int (v 24 t0)) dX3_toldOfTicket_45 (4 + nA G + t0) (cg_T ht) rfl ?_
    exact j_iretR F hR dX3_toldOfTicket_48 (congrArg Value.int (show C_toldOfTicket (nA G) (nT G) v r t0 p1 = v 24 t0 from by rw [C_toldOfTicket, if_pos h1_0]))
  by_cases h1_1 : p1 = 1
  · refine j_tabin F (off := 48) (tgt := 49) dX3_toldOfTicket_1 (by rw [h1_1]; decide) (by rw [h1_1]; decide) (by rw [h1_1]; rfl) (by decide) ?_
    refine j_aloadn F dX3_toldOfTicket_49 rfl ?_
    refine gf_X3_287 F (v := va_rf ((r 32 t0).map (aA G))) dX3_toldOfTicket_50 (4 + nA G + t0) (cg_T ht) rfl ?_
    refine j_rdS F (qX3_numberOfAgent (kl k) hst (kD k) G v r (r 32 t0) ((CI.holder hC ht))) lk_X3_301 dX3_toldOfTicket_53 ⟨(Nat.le_of_ble_eq_true rfl), (Nat.le_of_ble_eq_true rfl)⟩ (fun _ h => h) rfl (Nat.le_of_ble_eq_true rfl) ⟨(Nat.le_of_ble_eq_true rfl), (Nat.le_of_ble_eq_true rfl)⟩ ?_
    exact j_iretR F hR dX3_toldOfTicket_56 (congrArg Value.int (show C_toldOfTicket (nA G) (nT G) v r t0 p1 = C_numberOfAgent (nA G) (nT G) v r (r 32 t0) from by rw [C_toldOfTicket, if_neg h1_0, if_pos h1_1]))
  by_cases h1_2 : p1 = 2
  · refine j_tabin F (off := 56) (tgt := 57) dX3_toldOfTicket_1 (by rw [h1_2]; decide) (by rw [h1_2]; decide) (by rw [h1_2]; rfl) (by decide) ?_
    refine j_aloadn F dX3_toldOfTicket_57 rfl ?_
    refine gf_X3_152 F (v := .int (v 22 t0)) dX3_toldOfTicket_58 (4 + nA G + t0) (cg_T ht) rfl ?_
    exact j_iretR F hR dX3_toldOfTicket_61 (congrArg Value.int (show C_toldOfTicket (nA G) (nT G) v r t0 p1 = v 22 t0 from by rw [C_toldOfTicket, if_neg h1_0, if_neg h1_1, if_pos h1_2]))
  by_cases h1_3 : p1 = 3
  · refine j_tabin F (off := 61) (tgt := 62) dX3_toldOfTicket_1 (by rw [h1_3]; decide) (by rw [h1_3]; decide) (by rw [h1_3]; rfl) (by decide) ?_
    refine j_aloadn F dX3_toldOfTicket_62 rfl ?_
    refine gf_X3_187 F (v := .int (v 25 t0)) dX3_toldOfTicket_63 (4 + nA G + t0) (cg_T ht) rfl ?_
    exact j_iretR F hR dX3_toldOfTicket_66 (congrArg Value.int (show C_toldOfTicket (nA G) (nT G) v r t0 p1 = v 25 t0 from by rw [C_toldOfTicket, if_neg h1_0, if_neg h1_1, if_neg h1_2, if_pos h1_3]))
  by_cases h1_4 : p1 = 4
  · refine j_tabin F (off := 66) (tgt := 67) dX3_toldOfTicket_1 (by rw [h1_4]; decide) (by rw [h1_4]; decide) (by rw [h1_4]; rfl) (by decide) ?_
    refine j_aloadn F dX3_toldOfTicket_67 rfl ?_
    refine gf_X3_166 F (v := .int (v 26 t0)) dX3_toldOfTicket_68 (4 + nA G + t0) (cg_T ht) rfl ?_
    exact j_iretR F hR dX3_toldOfTicket_71 (congrArg Value.int (show C_toldOfTicket (nA G) (nT G) v r t0 p1 = v 26 t0 from by rw [C_toldOfTicket, if_neg h1_0, if_neg h1_1, if_neg h1_2, if_neg h1_3, if_pos h1_4]))
  by_cases h1_5 : p1 = 5
  · refine j_tabin F (off := 71) (tgt := 72) dX3_toldOfTicket_1 (by rw [h1_5]; decide) (by rw [h1_5]; decide) (by rw [h1_5]; rfl) (by decide) ?_
    refine j_aloadn F dX3_toldOfTicket_72 rfl ?_
    refine gf_X3_163 F (v := .int (v 23 t0)) dX3_toldOfTicket_73 (4 + nA G + t0) (cg_T ht) rfl ?_
    exact j_iretR F hR dX3_toldOfTicket_76 (congrArg Value.int (show C_toldOfTicket (nA G) (nT G) v r t0 p1 = v 23 t0 from by rw [C_toldOfTicket, if_neg h1_0, if_neg h1_1, if_neg h1_2, if_neg h1_3, if_neg h1_4, if_pos h1_5]))
  by_cases h1_6 : p1 = 6
  · refine j_tabin F (off := 76) (tgt := 77) dX3_toldOfTicket_1 (by rw [h1_6]; decide) (by rw [h1_6]; decide) (by rw [h1_6]; rfl) (by decide) ?_
    refine j_aloadn F dX3_toldOfTicket_77 rfl ?_
    refine gf_X3_294 F (v := .int (v 27 t0)) dX3_toldOfTicket_78 (4 + nA G + t0) (cg_T ht) rfl ?_
    exact j_iretR F hR dX3_toldOfTicket_81 (congrArg Value.int (show C_toldOfTicket (nA G) (nT G) v r t0 p1 = v 27 t0 from by rw [C_toldOfTicket, if_neg h1_0, if_neg h1_1, if_neg h1_2, if_neg h1_3, if_neg h1_4, if_neg h1_5, if_pos h1_6]))
  refine j_tabout F (tgt := 82) dX3_toldOfTicket_1 (tab_out7 h1_0 h1_1 h1_2 h1_3 h1_4 h1_5 h1_6) (by decide) ?_
  refine j_aloadn F dX3_toldOfTicket_82 rfl ?_
  refine gf_X3_203 F (v := .int (v 28 t0)) dX3_toldOfTicket_83 (4 + nA G + t0) (cg_T ht) rfl ?_
  exact j_iretR F hR dX3_toldOfTicket_86 (congrArg Value.int (show C_toldOfTicket (nA G) (nT G) v r t0 p1 = v 28 t0 from by rw [C_toldOfTicket, if_neg h1_0, if_neg h1_1, if_neg h1_2, if_neg h1_3, if_neg h1_4, if_neg h1_5, if_neg h1_6]))
def C_isLikedMore (na nt : Nat) (v : S2) (r : R2) (a0 : Nat) (t1 : Nat) (t2 : Nat) : Bool := if r 33 t1 = some a0 then (if r 33 t2 = some a0 then (if (C_slackOf na nt v r t2) ≤ (C_slackOf na nt v r t1) then false else true) else true) else if r 33 t2 = some a0 then false else if (C_slackOf na nt v r t2) ≤ (C_slackOf na nt v r t1) then false else true
set_option maxHeartbeats 4000000 in
set_option maxRecDepth 100000 in
theorem qX3_isLikedMore (l : Launch) (hst : l.stackTraces = false) (D : va_G) (G : CG) (v : S2) (r : R2) (a0 : Nat) (t1 : Nat) (t2 : Nat) (hG : GI D G) (hC : CI G v r) (ha : a0 < nA G) (ht : t1 < nT G) (hu : t2 < nT G) : CR l D yX3_isLikedMore cX3_isLikedMore 6 (some .boolean) 1 21 (CW D G v r) [.ref (G.1 0 0), .ref (aA G a0), .ref (aT G t1), .ref (aT G t2)] (.int (b1 (C_isLikedMore (nA G) (nT G) v r a0 t1 t2))) := by
  refine CR_of [some (.ref (G.1 0 0)), some (.ref (aA G a0)), some (.ref (aT G t1)), some (.ref (aT G t2)), none, none] hst (by decide +kernel) rfl (Nat.le_of_ble_eq_true rfl) (fun k F hl hD hR => ?_)
  subst hl hD
  refine j_aloadn F dX3_isLikedMore_0 rfl ?_
  refine gf_X3_291 F (v := va_rf ((r 33 t1).map (aA G))) dX3_isLikedMore_1 (4 + nA G + t1) (cg_T ht) rfl ?_
  refine j_aloadn F dX3_isLikedMore_4 rfl ?_
  refine j_st (va_rf (some (aA G a0)) :: va_rf ((r 33 t1).map (aA G)) :: []) rfl ?_
  refine j_acne F (tgt := 12) dX3_isLikedMore_5 (by decide) (fun e5 => ?_) (fun e5 => ?_)
  · have h5 : ¬ r 33 t1 = some a0 := fun z => e5 ((mapA_iff hG (CI.latest hC ht) ha).mpr z)
    refine j_iconst F (v := 0) dX3_isLikedMore_12 (by decide) ?_
    refine j_istore F [some (.ref (G.1 0 0)), some (.ref (aA G a0)), some (.ref (aT G t1)), some (.ref (aT G t2)), some (.int 0), none] dX3_isLikedMore_13 rfl rfl rfl ?_
    refine j_aloadn F dX3_isLikedMore_15 rfl ?_
    refine gf_X3_291 F (v := va_rf ((r 33 t2).map (aA G))) dX3_isLikedMore_16 (4 + nA G + t2) (cg_T hu) rfl ?_
    refine j_aloadn F dX3_isLikedMore_19 rfl ?_
    refine j_st (va_rf (some (aA G a0)) :: va_rf ((r 33 t2).map (aA G)) :: []) rfl ?_
    refine j_acne F (tgt := 27) dX3_isLikedMore_20 (by decide) (fun e20 => ?_) (fun e20 => ?_)
    · have h20 : ¬ r 33 t2 = some a0 := fun z => e20 ((mapA_iff hG (CI.latest hC hu) ha).mpr z)
      refine j_iconst F (v := 0) dX3_isLikedMore_27 (by decide) ?_
      refine j_istore F [some (.ref (G.1 0 0)), some (.ref (aA G a0)), some (.ref (aT G t1)), some (.ref (aT G t2)), some (.int 0), some (.int 0)] dX3_isLikedMore_28 rfl rfl rfl ?_
      refine j_iload F dX3_isLikedMore_30 rfl ?_
      refine j_iload F dX3_isLikedMore_32 rfl ?_
      refine j_iceq F (tgt := 40) dX3_isLikedMore_34 (by decide) (fun h34 => ?_) (fun h34 => ?_)
      · refine j_aloadn F dX3_isLikedMore_40 rfl ?_
        refine j_aloadn F dX3_isLikedMore_41 rfl ?_
        refine j_rdV F (qX3_slackOf (kl k) hst (kD k) G v r t1 hC ht) lk_X3_216 dX3_isLikedMore_42 ⟨(Nat.le_of_ble_eq_true rfl), (Nat.le_of_ble_eq_true rfl)⟩ (fun _ h => h) 0 rfl rfl rfl (Nat.le_of_ble_eq_true rfl) ⟨(Nat.le_of_ble_eq_true rfl), (Nat.le_of_ble_eq_true rfl)⟩ ?_
        refine j_aloadn F dX3_isLikedMore_45 rfl ?_
        refine j_aloadn F dX3_isLikedMore_46 rfl ?_
        refine j_rdV F (qX3_slackOf (kl k) hst (kD k) G v r t2 hC hu) lk_X3_216 dX3_isLikedMore_47 ⟨(Nat.le_of_ble_eq_true rfl), (Nat.le_of_ble_eq_true rfl)⟩ (fun _ h => h) 0 rfl rfl rfl (Nat.le_of_ble_eq_true rfl) ⟨(Nat.le_of_ble_eq_true rfl), (Nat.le_of_ble_eq_true rfl)⟩ ?_
        refine j_icge F (tgt := 57) dX3_isLikedMore_50 (by decide) (fun h50 => ?_) (fun h50 => ?_)
        · refine j_iconst F (v := 0) dX3_isLikedMore_57 (by decide) ?_
          exact j_zretR F (b := false) hR dX3_isLikedMore_58 rfl (congrArg (fun z => Value.int (b1 z)) (show C_isLikedMore (nA G) (nT G) v r a0 t1 t2 = false from by rw [C_isLikedMore, if_neg h5, if_neg h20, if_pos h50]))
        · refine j_iconst F (v := 1) dX3_isLikedMore_53 (by decide) ?_
          refine j_goto F (tgt := 58) dX3_isLikedMore_54 (by decide) ?_
          exact j_zretR F (b := true) hR dX3_isLikedMore_58 rfl (congrArg (fun z => Value.int (b1 z)) (show C_isLikedMore (nA G) (nT G) v r a0 t1 t2 = true from by rw [C_isLikedMore, if_neg h5, if_neg h20, if_neg h50]))
      · exact absurd h34 (by decide)
    · have h20 : r 33 t2 = some a0 := (mapA_iff hG (CI.latest hC hu) ha).mp e20
      refine j_iconst F (v := 1) dX3_isLikedMore_23 (by decide) ?_
      refine j_goto F (tgt := 28) dX3_isLikedMore_24 (by decide) ?_
      refine j_istore F [some (.ref (G.1 0 0)), some (.ref (aA G a0)), some (.ref (aT G t1)), some (.ref (aT G t2)), some (.int 0), some (.int 1)] dX3_isLikedMore_28 rfl rfl rfl ?_
      refine j_iload F dX3_isLikedMore_30 rfl ?_
      refine j_iload F dX3_isLikedMore_32 rfl ?_
      refine j_iceq F (tgt := 40) dX3_isLikedMore_34 (by decide) (fun h34 => ?_) (fun h34 => ?_)
      · exact absurd h34 (by decide)
      · refine j_iload F dX3_isLikedMore_37 rfl ?_
        exact j_zretR F (b := false) hR dX3_isLikedMore_39 rfl (congrArg (fun z => Value.int (b1 z)) (show C_isLikedMore (nA G) (nT G) v r a0 t1 t2 = false from by rw [C_isLikedMore, if_neg h5, if_pos h20]))
  · have h5 : r 33 t1 = some a0 := (mapA_iff hG (CI.latest hC ht) ha).mp e5
    refine j_iconst F (v := 1) dX3_isLikedMore_8 (by decide) ?_
    refine j_goto F (tgt := 13) dX3_isLikedMore_9 (by decide) ?_
    refine j_istore F [some (.ref (G.1 0 0)), some (.ref (aA G a0)), some (.ref (aT G t1)), some (.ref (aT G t2)), some (.int 1), none] dX3_isLikedMore_13 rfl rfl rfl ?_
    refine j_aloadn F dX3_isLikedMore_15 rfl ?_
    refine gf_X3_291 F (v := va_rf ((r 33 t2).map (aA G))) dX3_isLikedMore_16 (4 + nA G + t2) (cg_T hu) rfl ?_
    refine j_aloadn F dX3_isLikedMore_19 rfl ?_
    refine j_st (va_rf (some (aA G a0)) :: va_rf ((r 33 t2).map (aA G)) :: []) rfl ?_
    refine j_acne F (tgt := 27) dX3_isLikedMore_20 (by decide) (fun e20 => ?_) (fun e20 => ?_)
    · have h20 : ¬ r 33 t2 = some a0 := fun z => e20 ((mapA_iff hG (CI.latest hC hu) ha).mpr z)
      refine j_iconst F (v := 0) dX3_isLikedMore_27 (by decide) ?_
      refine j_istore F [some (.ref (G.1 0 0)), some (.ref (aA G a0)), some (.ref (aT G t1)), some (.ref (aT G t2)), some (.int 1), some (.int 0)] dX3_isLikedMore_28 rfl rfl rfl ?_
      refine j_iload F dX3_isLikedMore_30 rfl ?_
      refine j_iload F dX3_isLikedMore_32 rfl ?_
      refine j_iceq F (tgt := 40) dX3_isLikedMore_34 (by decide) (fun h34 => ?_) (fun h34 => ?_)
      · exact absurd h34 (by decide)
      · refine j_iload F dX3_isLikedMore_37 rfl ?_
        exact j_zretR F (b := true) hR dX3_isLikedMore_39 rfl (congrArg (fun z => Value.int (b1 z)) (show C_isLikedMore (nA G) (nT G) v r a0 t1 t2 = true from by rw [C_isLikedMore, if_pos h5, if_neg h20]))
    · have h20 : r 33 t2 = some a0 := (mapA_iff hG (CI.latest hC hu) ha).mp e20
      refine j_iconst F (v := 1) dX3_isLikedMore_23 (by decide) ?_
      refine j_goto F (tgt := 28) dX3_isLikedMore_24 (by decide) ?_
      refine j_istore F [some (.ref (G.1 0 0)), some (.ref (aA G a0)), some (.ref (aT G t1)), some (.ref (aT G t2)), some (.int 1), some (.int 1)] dX3_isLikedMore_28 rfl rfl rfl ?_
      refine j_iload F dX3_isLikedMore_30 rfl ?_
      refine j_iload F dX3_isLikedMore_32 rfl ?_
      refine j_iceq F (tgt := 40) dX3_isLikedMore_34 (by decide) (fun h34 => ?_) (fun h34 => ?_)
      · refine j_aloadn F dX3_isLikedMore_40 rfl ?_
        refine j_aloadn F dX3_isLikedMore_41 rfl ?_
        refine j_rdV F (qX3_slackOf (kl k) hst (kD k) G v r t1 hC ht) lk_X3_216 dX3_isLikedMore_42 ⟨(Nat.le_of_ble_eq_true rfl), (Nat.le_of_ble_eq_true rfl)⟩ (fun _ h => h) 0 rfl rfl rfl (Nat.le_of_ble_eq_true rfl) ⟨(Nat.le_of_ble_eq_true rfl), (Nat.le_of_ble_eq_true rfl)⟩ ?_
        refine j_aloadn F dX3_isLikedMore_45 rfl ?_
        refine j_aloadn F dX3_isLikedMore_46 rfl ?_
        refine j_rdV F (qX3_slackOf (kl k) hst (kD k) G v r t2 hC hu) lk_X3_216 dX3_isLikedMore_47 ⟨(Nat.le_of_ble_eq_true rfl), (Nat.le_of_ble_eq_true rfl)⟩ (fun _ h => h) 0 rfl rfl rfl (Nat.le_of_ble_eq_true rfl) ⟨(Nat.le_of_ble_eq_true rfl), (Nat.le_of_ble_eq_true rfl)⟩ ?_
        refine j_icge F (tgt := 57) dX3_isLikedMore_50 (by decide) (fun h50 => ?_) (fun h50 => ?_)
        · refine j_iconst F (v := 0) dX3_isLikedMore_57 (by decide) ?_
          exact j_zretR F (b := false) hR dX3_isLikedMore_58 rfl (congrArg (fun z => Value.int (b1 z)) (show C_isLikedMore (nA G) (nT G) v r a0 t1 t2 = false from by rw [C_isLikedMore, if_pos h5, if_pos h20, if_pos h50]))
        · refine j_iconst F (v := 1) dX3_isLikedMore_53 (by decide) ?_
          refine j_goto F (tgt := 58) dX3_isLikedMore_54 (by decide) ?_
          exact j_zretR F (b := true) hR dX3_isLikedMore_58 rfl (congrArg (fun z => Value.int (b1 z)) (show C_isLikedMore (nA G) (nT G) v r a0 t1 t2 = true from by rw [C_isLikedMore, if_pos h5, if_pos h20, if_neg h50]))
      · exact absurd h34 (by decide)
theorem mb_lt {p1 : Int32} {m : Nat} (h : vp_in p1 100001) (hm : m ≤ 102240) (h2 : ¬ p1 ≤ nI m) : m < 100001 := by
  rw [Int32.le_iff_toInt_le, nI_toInt (by omega)] at h2
  have := (vp_in_iff.mp h).2
  omega
set_option maxHeartbeats 4000000 in
set_option maxRecDepth 100000 in
theorem qX1_minutesBetween (l : Launch) (hst : l.stackTraces = false) (D : va_G) (G : CG) (v : S2) (r : R2) (p0 : Int32) (p1 : Int32) (h0 : vp_in p0 100001) (h1 : vp_in p1 100001) : CR l D yX1_minutesBetween cX1_minutesBetween 5 (some .int) 2 46 (CW D G v r) [.ref (G.1 0 1), .int p0, .int p1] (.int (C_H_minutesBetween (nA G) (nT G) v r p0 p1)) := by
  refine CR_of [some (.ref (G.1 0 1)), some (.int p0), some (.int p1), none, none] hst (by decide +kernel) rfl (Nat.le_of_ble_eq_true rfl) (fun k F hl hD hR => ?_)
  subst hl hD
  refine j_iconst F (v := 0) dX1_minutesBetween_0 (by decide) ?_
  refine j_istoren F [some (.ref (G.1 0 1)), some (.int p0), some (.int p1), some (.int 0), none] dX1_minutesBetween_1 rfl rfl rfl ?_
  refine j_iloadn F dX1_minutesBetween_2 rfl ?_
  refine j_iloadn F dX1_minutesBetween_3 rfl ?_
  refine j_sipush F (v := 1440) dX1_minutesBetween_4 (by decide) ?_
  refine j_irem F dX1_minutesBetween_7 (by decide) ?_
  refine j_isub F dX1_minutesBetween_8 ?_
  refine j_istore F [some (.ref (G.1 0 1)), some (.int p0), some (.int p1), some (.int 0), some (.int (p0 - (p0 - p0 / 1440 * 1440)))] dX1_minutesBetween_9 rfl rfl rfl ?_
  refine j_lvw [some (.ref (G.1 0 1)), some (.int p0), some (.int p1), some (.int 0), some (.int (nI (ix p0 / 1440 * 1440)))] ⟨rfl, rfl, rfl, rfl, congrArg (fun z => some (Value.int z)) (nI_day h0), trivial⟩ ?_
  have hp0 := vp_lt h0
  refine (show ∀ (f m : Nat) (x : Int32), 100800 ≤ m + f * 1440 → m ≤ 102240 → C_H_minutesBetween (nA G) (nT G) v r p0 p1 = C_mbL (nA G) (nT G) v r p0 p1 f m x → J k (CW (kD k) G v r) 0 0 11 [some (.ref (G.1 0 1)), some (.int p0), some (.int p1), some (.int x), some (.int (nI m))] [] from ?_) 70 (ix p0 / 1440 * 1440) 0 (by omega) (by have := Nat.div_mul_le_self (ix p0) 1440; omega) rfl
  intro f
  induction f with
  | zero =>
    intro m x hm hm2 hc
    refine j_iload F dX1_minutesBetween_11 rfl ?_
    refine j_iloadn F dX1_minutesBetween_13 rfl ?_
    refine j_icge F (tgt := 37) dX1_minutesBetween_14 (by decide) (fun h14 => ?_) (fun h14 => ?_)
    · refine j_iloadn F dX1_minutesBetween_37 rfl ?_
      exact j_iretR F hR dX1_minutesBetween_38 (congrArg Value.int (show C_H_minutesBetween (nA G) (nT G) v r p0 p1 = x from hc))
    · exact absurd (mb_lt h1 hm2 h14) (by omega)
  | succ f ih =>
    intro m x hm hm2 hc
    refine j_iload F dX1_minutesBetween_11 rfl ?_
    refine j_iloadn F dX1_minutesBetween_13 rfl ?_
    refine j_icge F (tgt := 37) dX1_minutesBetween_14 (by decide) (fun h14 => ?_) (fun h14 => ?_)
    · refine j_iloadn F dX1_minutesBetween_37 rfl ?_
      exact j_iretR F hR dX1_minutesBetween_38 (congrArg Value.int (show C_H_minutesBetween (nA G) (nT G) v r p0 p1 = x from hc.trans (if_pos h14)))
    · refine j_iloadn F dX1_minutesBetween_17 rfl ?_
      refine j_aloadn F dX1_minutesBetween_18 rfl ?_
      refine j_iload F dX1_minutesBetween_19 rfl ?_
      refine j_iloadn F dX1_minutesBetween_21 rfl ?_
      refine j_iloadn F dX1_minutesBetween_22 rfl ?_
      refine j_rdV F (qX1_minutesOfDay (kl k) hst (kD k) G v r (nI m) p0 p1) lk_X1_22 dX1_minutesBetween_23 ⟨(Nat.le_of_ble_eq_true rfl), (Nat.le_of_ble_eq_true rfl)⟩ (fun _ h => h) 1 rfl rfl rfl (Nat.le_of_ble_eq_true rfl) ⟨(Nat.le_of_ble_eq_true rfl), (Nat.le_of_ble_eq_true rfl)⟩ ?_
      refine j_iadd F dX1_minutesBetween_26 ?_
      refine j_istoren F [some (.ref (G.1 0 1)), some (.int p0), some (.int p1), some (.int (x + (C_H_minutesOfDay (nA G) (nT G) v r (nI m) p0 p1))), some (.int (nI m))] dX1_minutesBetween_27 rfl rfl rfl ?_
      refine j_iincW F [some (.ref (G.1 0 1)), some (.int p0), some (.int p1), some (.int (x + (C_H_minutesOfDay (nA G) (nT G) v r (nI m) p0 p1))), some (.int (nI (m + 1440)))] dX1_minutesBetween_28 rfl (v := nI (m + 1440)) (nI_add _ 1440) rfl rfl rfl ?_
      refine j_goto F (tgt := 11) dX1_minutesBetween_34 (by decide) ?_
      exact ih _ _ (by omega) (by have := mb_lt h1 hm2 h14; omega) (by rw [hc]; exact if_neg h14)
theorem ms_lt {m : Nat} (hm : m ≤ 102240) (h2 : ¬ (99999 : Int32) < nI m) : m < 100000 := by
  rw [Int32.lt_iff_toInt_lt, nI_toInt (by omega)] at h2
  have e : (99999 : Int32).toInt = 99999 := by decide
  omega
def C_ageLB (na : Nat) (nt : Nat) (v : S2) (r : R2) (i : Nat) (x : S2) : S2 := if (x 24 i) = 0 then u2 x 25 i ((x 25 i) + 1) else if (x 24 i) = 1 then u2 x 25 i ((x 25 i) + 1) else x
def C_ageL (na : Nat) (nt : Nat) (v : S2) (r : R2) : Nat → S2
  | 0 => v
  | n + 1 => C_ageLB na nt v r n (C_ageL na nt v r n)
theorem C_ageL_s (na : Nat) (nt : Nat) (v : S2) (r : R2) (n : Nat) : C_ageL na nt v r (n + 1) = C_ageLB na nt v r n (C_ageL na nt v r n) := rfl
def C_ageTickets (na nt : Nat) (v : S2) (r : R2) : S2 × R2 := (C_ageL na nt v r nt, r)
set_option maxHeartbeats 4000000 in
set_option maxRecDepth 100000 in
theorem qX3_ageTickets (l : Launch) (hst : l.stackTraces = false) (D : va_G) (G : CG) (v : S2) (r : R2) (hG : GI D G) : CM l D yX3_ageTickets cX3_ageTickets 3 none 3 64 0 0 (CW D G v r) [.ref (G.1 0 0)] (dP none (CW D G (C_ageTickets (nA G) (nT G) v r).1 (C_ageTickets (nA G) (nT G) v r).2)) := by
  refine CM_of [some (.ref (G.1 0 0)), none, none] hst (by decide +kernel) rfl (Nat.le_of_ble_eq_true rfl) (fun k F hl hD hin hR => ?_)
  subst hl hD
  have hNT0 : nT G ≤ 20 := hG.nT
  refine j_iconst F (v := 0) dX3_ageTickets_0 (by decide) ?_
  refine j_istoren F [some (.ref (G.1 0 0)), some (.int 0), none] dX3_ageTickets_1 rfl rfl rfl ?_
  refine (show ∀ (fuel i : Nat) (x : S2), (nT G) - i < fuel → i ≤ (nT G) → x = C_ageL (nA G) (nT G) v r i →  J k (CW (kD k) G x r) 0 0 2 [some (.ref (G.1 0 0)), some (.int (nI i)), none] [] from ?_) ((nT G) + 1) 0 v (by omega) (Nat.zero_le _) rfl 
  intro fu2
  induction fu2 with
  | zero => intro i x hm; exact absurd hm (Nat.not_lt_zero _)
  | succ fu2 ih2 =>
    intro i x hm2 hi2 hc_x 
    refine j_iloadn F dX3_ageTickets_2 rfl ?_
    refine j_aloadn F dX3_ageTickets_3 rfl ?_
    refine gf_X3_30 F (v := .ref (G.1 0 5)) dX3_ageTickets_4 0 rfl rfl ?_
    refine j_sizeT F lk_X3_77 dX3_ageTickets_7 ⟨(Nat.le_of_ble_eq_true rfl), (Nat.le_of_ble_eq_true rfl)⟩ (Nat.le_of_ble_eq_true rfl) ⟨(Nat.le_of_ble_eq_true rfl), (Nat.le_of_ble_eq_true rfl)⟩ hst ?_
    refine j_icgeN F (x := i) (y := (nT G)) (tgt := 56) dX3_ageTickets_10 (by decide) ⟨by omega, by omega⟩ (fun h10 => ?_) (fun h10 => ?_)
    · obtain rfl : i = (nT G) := by omega
      subst hc_x
      have hz : C_ageTickets (nA G) (nT G) v r = (C_ageL (nA G) (nT G) v r (nT G), r) := rfl
      exact j_vret F hR dX3_ageTickets_56 (Nat.le_of_ble_eq_true rfl) (Nat.le_of_ble_eq_true rfl) ⟨rfl, by rw [hz]⟩
    · refine j_aloadn F dX3_ageTickets_13 rfl ?_
      refine gf_X3_30 F (v := .ref (G.1 0 5)) dX3_ageTickets_14 0 rfl rfl ?_
      refine j_iloadn F dX3_ageTickets_17 rfl ?_
      refine j_getTN F hG h10 lk_X3_231 dX3_ageTickets_18 ⟨(Nat.le_of_ble_eq_true rfl), (Nat.le_of_ble_eq_true rfl)⟩ (Nat.le_of_ble_eq_true rfl) ⟨(Nat.le_of_ble_eq_true rfl), (Nat.le_of_ble_eq_true rfl)⟩ hst ?_
      refine j_cast F ul_X3_112 dX3_ageTickets_21 (4 + nA G + i) (cg_T h10) rfl ?_
      refine j_astoren F [some (.ref (G.1 0 0)), some (.int (nI i)), some (.ref (aT G i))] dX3_ageTickets_24 rfl rfl rfl ?_
      refine j_aloadn F dX3_ageTickets_25 rfl ?_
      refine gf_X3_147 F (v := .int (x 24 i)) dX3_ageTickets_26 (4 + nA G + i) (cg_T h10) rfl ?_
      refine j_ifeq F (tgt := 40) dX3_ageTickets_29 (by decide) (fun h29 => ?_) (fun h29 => ?_)
      · refine j_aloadn F dX3_ageTickets_40 rfl ?_
        refine j_dup F dX3_ageTickets_41 rfl ?_
        refine gf_X3_187 F (v := .int (x 25 i)) dX3_ageTickets_42 (4 + nA G + i) (cg_T h10) rfl ?_
        refine j_iconst F (v := 1) dX3_ageTickets_45 (by decide) ?_
        refine j_iadd F dX3_ageTickets_46 ?_
        refine pf_X3_187 F hR.1 dX3_ageTickets_47 rfl rfl (4 + nA G + i) (cg_T h10) (Nat.le_of_ble_eq_true rfl) (CW (kD k) G (u2 x 25 i ((x 25 i) + 1)) r) (csT_5 h10) ?_
        refine j_iincN F [some (.ref (G.1 0 0)), some (.int (nI (i + 1))), some (.ref (aT G i))] dX3_ageTickets_50 rfl rfl rfl rfl ?_
        refine j_goto F (tgt := 2) dX3_ageTickets_53 (by decide) ?_
        refine j_lvw [some (.ref (G.1 0 0)), some (.int (nI (i + 1))), none] ⟨rfl, rfl, trivial⟩ ?_
        exact ih2 (i + 1) (u2 x 25 i ((x 25 i) + 1)) (by omega) (by omega) (by rw [C_ageL_s, ← hc_x, C_ageLB, if_pos h29]) 
      · refine j_aloadn F dX3_ageTickets_32 rfl ?_
        refine gf_X3_147 F (v := .int (x 24 i)) dX3_ageTickets_33 (4 + nA G + i) (cg_T h10) rfl ?_
        refine j_iconst F (v := 1) dX3_ageTickets_36 (by decide) ?_
        refine j_icne F (tgt := 50) dX3_ageTickets_37 (by decide) (fun h37 => ?_) (fun h37 => ?_)
        · refine j_iincN F [some (.ref (G.1 0 0)), some (.int (nI (i + 1))), some (.ref (aT G i))] dX3_ageTickets_50 rfl rfl rfl rfl ?_
          refine j_goto F (tgt := 2) dX3_ageTickets_53 (by decide) ?_
          refine j_lvw [some (.ref (G.1 0 0)), some (.int (nI (i + 1))), none] ⟨rfl, rfl, trivial⟩ ?_
          exact ih2 (i + 1) x (by omega) (by omega) (by rw [C_ageL_s, ← hc_x, C_ageLB, if_neg h29, if_neg h37]) 
        · refine j_aloadn F dX3_ageTickets_40 rfl ?_
          refine j_dup F dX3_ageTickets_41 rfl ?_
          refine gf_X3_187 F (v := .int (x 25 i)) dX3_ageTickets_42 (4 + nA G + i) (cg_T h10) rfl ?_
          refine j_iconst F (v := 1) dX3_ageTickets_45 (by decide) ?_
          refine j_iadd F dX3_ageTickets_46 ?_
          refine pf_X3_187 F hR.1 dX3_ageTickets_47 rfl rfl (4 + nA G + i) (cg_T h10) (Nat.le_of_ble_eq_true rfl) (CW (kD k) G (u2 x 25 i ((x 25 i) + 1)) r) (csT_5 h10) ?_
          refine j_iincN F [some (.ref (G.1 0 0)), some (.int (nI (i + 1))), some (.ref (aT G i))] dX3_ageTickets_50 rfl rfl rfl rfl ?_
          refine j_goto F (tgt := 2) dX3_ageTickets_53 (by decide) ?_
          refine j_lvw [some (.ref (G.1 0 0)), some (.int (nI (i + 1))), none] ⟨rfl, rfl, trivial⟩ ?_
          exact ih2 (i + 1) (u2 x 25 i ((x 25 i) + 1)) (by omega) (by omega) (by rw [C_ageL_s, ← hc_x, C_ageLB, if_neg h29, if_pos h37]) 
def C_homeLB (na : Nat) (nt : Nat) (v : S2) (r : R2) (i : Nat) (x : S2) (y : R2) : S2 × R2 := if y 15 i = none then (x, y) else if (C_A_isThere na nt x y i (x 0 0)) = true then (x, y) else ((C_handBack na nt x y (gd (y 15 i))).1, (C_handBack na nt x y (gd (y 15 i))).2)
def C_homeL (na : Nat) (nt : Nat) (v : S2) (r : R2) : Nat → S2 × R2
  | 0 => (v, r)
  | n + 1 => C_homeLB na nt v r n ((C_homeL na nt v r n)).1 ((C_homeL na nt v r n)).2
theorem C_homeL_s (na : Nat) (nt : Nat) (v : S2) (r : R2) (n : Nat) : C_homeL na nt v r (n + 1) = C_homeLB na nt v r n ((C_homeL na nt v r n)).1 ((C_homeL na nt v r n)).2 := rfl
def C_sendHomeAgents (na nt : Nat) (v : S2) (r : R2) : S2 × R2 := ((C_homeL na nt v r na).1, (C_homeL na nt v r na).2)
set_option maxHeartbeats 4000000 in
set_option maxRecDepth 100000 in
theorem qX3_sendHomeAgents (l : Launch) (hst : l.stackTraces = false) (D : va_G) (G : CG) (v : S2) (r : R2) (hG : GI D G) (hC : CI G v r) : CM l D yX3_sendHomeAgents cX3_sendHomeAgents 4 none 3 64 0 0 (CW D G v r) [.ref (G.1 0 0)] (dP none (CW D G (C_sendHomeAgents (nA G) (nT G) v r).1 (C_sendHomeAgents (nA G) (nT G) v r).2)) := by
  refine CM_of [some (.ref (G.1 0 0)), none, none, none] hst (by decide +kernel) rfl (Nat.le_of_ble_eq_true rfl) (fun k F hl hD hin hR => ?_)
  subst hl hD
  have hNA : nA G ≤ 6 := hG.nA
  refine j_iconst F (v := 0) dX3_sendHomeAgents_0 (by decide) ?_
  refine j_istoren F [some (.ref (G.1 0 0)), some (.int 0), none, none] dX3_sendHomeAgents_1 rfl rfl rfl ?_
  refine (show ∀ (fuel i : Nat) (x : S2) (y : R2), (nA G) - i < fuel → i ≤ (nA G) → x = (C_homeL (nA G) (nT G) v r i).1 → y = (C_homeL (nA G) (nT G) v r i).2 → CI G x y →  J k (CW (kD k) G x y) 0 0 2 [some (.ref (G.1 0 0)), some (.int (nI i)), none, none] [] from ?_) ((nA G) + 1) 0 v r (by omega) (Nat.zero_le _) rfl rfl hC
  intro fu2
  induction fu2 with
  | zero => intro i x y hm; exact absurd hm (Nat.not_lt_zero _)
  | succ fu2 ih2 =>
    intro i x y hm2 hi2 hc_x hc_y hM
    refine j_iloadn F dX3_sendHomeAgents_2 rfl ?_
    refine j_aloadn F dX3_sendHomeAgents_3 rfl ?_
    refine gf_X3_26 F (v := .ref (G.1 0 4)) dX3_sendHomeAgents_4 0 rfl rfl ?_
    refine j_sizeA F lk_X3_77 dX3_sendHomeAgents_7 ⟨(Nat.le_of_ble_eq_true rfl), (Nat.le_of_ble_eq_true rfl)⟩ (Nat.le_of_ble_eq_true rfl) ⟨(Nat.le_of_ble_eq_true rfl), (Nat.le_of_ble_eq_true rfl)⟩ hst ?_
    refine j_icgeN F (x := i) (y := (nA G)) (tgt := 55) dX3_sendHomeAgents_10 (by decide) ⟨by omega, by omega⟩ (fun h10 => ?_) (fun h10 => ?_)
    · obtain rfl : i = (nA G) := by omega
      subst hc_x
      subst hc_y
      have hz : C_sendHomeAgents (nA G) (nT G) v r = ((C_homeL (nA G) (nT G) v r (nA G)).1, (C_homeL (nA G) (nT G) v r (nA G)).2) := rfl
      exact j_vret F hR dX3_sendHomeAgents_55 (Nat.le_of_ble_eq_true rfl) (Nat.le_of_ble_eq_true rfl) ⟨rfl, by rw [hz]⟩
    · refine j_aloadn F dX3_sendHomeAgents_13 rfl ?_
      refine gf_X3_26 F (v := .ref (G.1 0 4)) dX3_sendHomeAgents_14 0 rfl rfl ?_
      refine j_iloadn F dX3_sendHomeAgents_17 rfl ?_
      refine j_getAN F hG h10 lk_X3_231 dX3_sendHomeAgents_18 ⟨(Nat.le_of_ble_eq_true rfl), (Nat.le_of_ble_eq_true rfl)⟩ (Nat.le_of_ble_eq_true rfl) ⟨(Nat.le_of_ble_eq_true rfl), (Nat.le_of_ble_eq_true rfl)⟩ hst ?_
      refine j_cast F ul_X3_86 dX3_sendHomeAgents_21 (4 + i) (cg_A h10) rfl ?_
      refine j_astoren F [some (.ref (G.1 0 0)), some (.int (nI i)), some (.ref (aA G i)), none] dX3_sendHomeAgents_24 rfl rfl rfl ?_
      refine j_aloadn F dX3_sendHomeAgents_25 rfl ?_
      refine gf_X3_107 F (v := va_rf ((y 15 i).map (aT G))) dX3_sendHomeAgents_26 (4 + i) (cg_A h10) rfl ?_
      refine j_astorenq F [some (.ref (G.1 0 0)), some (.int (nI i)), some (.ref (aA G i)), some (va_rf ((y 15 i).map (aT G)))] dX3_sendHomeAgents_29 rfl rfl rfl ?_
      refine j_aloadnq F dX3_sendHomeAgents_30 rfl ?_
      refine j_ifnullq F (tgt := 49) dX3_sendHomeAgents_31 (by decide) (fun e31 => ?_) (fun a31 e31 => ?_)
      · rw [e31]
        have h31 := map_none e31
        refine j_iincN F [some (.ref (G.1 0 0)), some (.int (nI (i + 1))), some (.ref (aA G i)), some (.null)] dX3_sendHomeAgents_49 rfl rfl rfl rfl ?_
        refine j_goto F (tgt := 2) dX3_sendHomeAgents_52 (by decide) ?_
        refine j_lvw [some (.ref (G.1 0 0)), some (.int (nI (i + 1))), none, none] ⟨rfl, rfl, trivial⟩ ?_
        exact ih2 (i + 1) x y (by omega) (by omega) (by rw [C_homeL_s, ← hc_x, ← hc_y, C_homeLB, if_pos h31]) (by rw [C_homeL_s, ← hc_x, ← hc_y, C_homeLB, if_pos h31]) hM
      · obtain ⟨ea, h31⟩ := rf_some e31
        subst ea
        rw [e31]
        refine j_aloadn F dX3_sendHomeAgents_34 rfl ?_
        refine j_aloadn F dX3_sendHomeAgents_35 rfl ?_
        refine gf_X3_33 F (v := .int (x 0 0)) dX3_sendHomeAgents_36 0 rfl rfl ?_
        refine j_rdV F (qX0_isThere (kl k) hst (kD k) G x y i (x 0 0) h10) lk_X3_271 dX3_sendHomeAgents_39 ⟨(Nat.le_of_ble_eq_true rfl), (Nat.le_of_ble_eq_true rfl)⟩ (fun _ h => h) (4 + i) (cg_A h10) rfl rfl (Nat.le_of_ble_eq_true rfl) ⟨(Nat.le_of_ble_eq_true rfl), (Nat.le_of_ble_eq_true rfl)⟩ ?_
        refine j_ifbne F (tgt := 49) dX3_sendHomeAgents_42 (by decide) (fun h42 => ?_) (fun h42 => ?_)
        · refine j_iincN F [some (.ref (G.1 0 0)), some (.int (nI (i + 1))), some (.ref (aA G i)), some (.ref (aT G (gd (y 15 i))))] dX3_sendHomeAgents_49 rfl rfl rfl rfl ?_
          refine j_goto F (tgt := 2) dX3_sendHomeAgents_52 (by decide) ?_
          refine j_lvw [some (.ref (G.1 0 0)), some (.int (nI (i + 1))), none, none] ⟨rfl, rfl, trivial⟩ ?_
          exact ih2 (i + 1) x y (by omega) (by omega) (by rw [C_homeL_s, ← hc_x, ← hc_y, C_homeLB, if_neg h31, if_pos h42]) (by rw [C_homeL_s, ← hc_x, ← hc_y, C_homeLB, if_neg h31, if_pos h42]) hM
        · refine j_aloadn F dX3_sendHomeAgents_45 rfl ?_
          refine j_dmS F hR.1 (qX3_handBack (kl k) hst (kD k) G x y (gd (y 15 i)) hM (((CI.held hM h10) _ (gd_some h31)))) lk_X3_119 dX3_sendHomeAgents_46 ⟨(Nat.le_of_ble_eq_true rfl), (Nat.le_of_ble_eq_true rfl)⟩ rfl (Nat.le_of_ble_eq_true rfl) ⟨(Nat.le_of_ble_eq_true rfl), (Nat.le_of_ble_eq_true rfl)⟩ rfl ?_
          refine j_iincN F [some (.ref (G.1 0 0)), some (.int (nI (i + 1))), some (.ref (aA G i)), some (.ref (aT G (gd (y 15 i))))] dX3_sendHomeAgents_49 rfl rfl rfl rfl ?_
          refine j_goto F (tgt := 2) dX3_sendHomeAgents_52 (by decide) ?_
          refine j_lvw [some (.ref (G.1 0 0)), some (.int (nI (i + 1))), none, none] ⟨rfl, rfl, trivial⟩ ?_
          exact ih2 (i + 1) ((C_handBack (nA G) (nT G) x y (gd (y 15 i))).1) ((C_handBack (nA G) (nT G) x y (gd (y 15 i))).2) (by omega) (by omega) (by rw [C_homeL_s, ← hc_x, ← hc_y, C_homeLB, if_neg h31, if_neg h42]) (by rw [C_homeL_s, ← hc_x, ← hc_y, C_homeLB, if_neg h31, if_neg h42]) ((CI_handBack hM))
def C_firstLB (na : Nat) (nt : Nat) (v : S2) (r : R2) (a0 : Nat) (i : Nat) (x : Option Nat) : Option Nat := if (v 24 i) = 0 then (if (C_A_hasSkill na nt v r a0 (v 21 i)) = true then (if x = none then some i else if (C_isLikedMore na nt v r a0 i (gd x)) = true then some i else some (gd x)) else x) else x
def C_firstL (na : Nat) (nt : Nat) (v : S2) (r : R2) (a0 : Nat) : Nat → Option Nat
  | 0 => none
  | n + 1 => C_firstLB na nt v r a0 n (C_firstL na nt v r a0 n)
theorem C_firstL_s (na : Nat) (nt : Nat) (v : S2) (r : R2) (a0 : Nat) (n : Nat) : C_firstL na nt v r a0 (n + 1) = C_firstLB na nt v r a0 n (C_firstL na nt v r a0 n) := rfl
def C_firstByLiking (na nt : Nat) (v : S2) (r : R2) (a0 : Nat) : Option Nat := C_firstL na nt v r a0 nt
set_option maxHeartbeats 4000000 in
set_option maxRecDepth 100000 in
theorem qX3_firstByLiking (l : Launch) (hst : l.stackTraces = false) (D : va_G) (G : CG) (v : S2) (r : R2) (a0 : Nat) (hG : GI D G) (hC : CI G v r) (ha : a0 < nA G) : CR l D yX3_firstByLiking cX3_firstByLiking 5 (some (.object "HelpDesk$Ticket")) 3 64 (CW D G v r) [.ref (G.1 0 0), .ref (aA G a0)] (va_rf ((C_firstByLiking (nA G) (nT G) v r a0).map (aT G))) := by
  refine CR_of [some (.ref (G.1 0 0)), some (.ref (aA G a0)), none, none, none] hst (by decide +kernel) rfl (Nat.le_of_ble_eq_true rfl) (fun k F hl hD hR => ?_)
  subst hl hD
  have hNT0 : nT G ≤ 20 := hG.nT
  refine j_null F dX3_firstByLiking_0 ?_
  refine j_astorenN F [some (.ref (G.1 0 0)), some (.ref (aA G a0)), some (.null), none, none] dX3_firstByLiking_1 rfl rfl rfl ?_
  refine j_iconst F (v := 0) dX3_firstByLiking_2 (by decide) ?_
  refine j_istoren F [some (.ref (G.1 0 0)), some (.ref (aA G a0)), some (.null), some (.int 0), none] dX3_firstByLiking_3 rfl rfl rfl ?_
  refine (show ∀ (fuel i : Nat) (x : Option Nat), (nT G) - i < fuel → i ≤ (nT G) → x = C_firstL (nA G) (nT G) v r a0 i → (∀ y, x = some y → y < nT G) →  J k (CW (kD k) G v r) 0 0 4 [some (.ref (G.1 0 0)), some (.ref (aA G a0)), some (va_rf ((x).map (aT G))), some (.int (nI i)), none] [] from ?_) ((nT G) + 1) 0 none (by omega) (Nat.zero_le _) rfl (fun _ e => nomatch e)
  intro fu4
  induction fu4 with
  | zero => intro i x hm; exact absurd hm (Nat.not_lt_zero _)
  | succ fu4 ih4 =>
    intro i x hm4 hi4 hc_x hx
    refine j_iloadn F dX3_firstByLiking_4 rfl ?_
    refine j_aloadn F dX3_firstByLiking_5 rfl ?_
    refine gf_X3_30 F (v := .ref (G.1 0 5)) dX3_firstByLiking_6 0 rfl rfl ?_
    refine j_sizeT F lk_X3_77 dX3_firstByLiking_9 ⟨(Nat.le_of_ble_eq_true rfl), (Nat.le_of_ble_eq_true rfl)⟩ (Nat.le_of_ble_eq_true rfl) ⟨(Nat.le_of_ble_eq_true rfl), (Nat.le_of_ble_eq_true rfl)⟩ hst ?_
    refine j_icgeN F (x := i) (y := (nT G)) (tgt := 72) dX3_firstByLiking_12 (by decide) ⟨by omega, by omega⟩ (fun h12 => ?_) (fun h12 => ?_)
    · obtain rfl : i = (nT G) := by omega
      subst hc_x
      refine j_aloadnq F dX3_firstByLiking_72 rfl ?_
      exact j_aretR F (x := (C_firstL (nA G) (nT G) v r a0 (nT G)).map (aT G)) hR dX3_firstByLiking_73 (congrArg (fun z : Option Nat => va_rf (z.map (aT G))) (show C_firstByLiking (nA G) (nT G) v r a0 = C_firstL (nA G) (nT G) v r a0 (nT G) from rfl))
    · refine j_aloadn F dX3_firstByLiking_15 rfl ?_
      refine gf_X3_30 F (v := .ref (G.1 0 5)) dX3_firstByLiking_16 0 rfl rfl ?_
      refine j_iloadn F dX3_firstByLiking_19 rfl ?_
      refine j_getTN F hG h12 lk_X3_231 dX3_firstByLiking_20 ⟨(Nat.le_of_ble_eq_true rfl), (Nat.le_of_ble_eq_true rfl)⟩ (Nat.le_of_ble_eq_true rfl) ⟨(Nat.le_of_ble_eq_true rfl), (Nat.le_of_ble_eq_true rfl)⟩ hst ?_
      refine j_cast F ul_X3_112 dX3_firstByLiking_23 (4 + nA G + i) (cg_T h12) rfl ?_
      refine j_astore F [some (.ref (G.1 0 0)), some (.ref (aA G a0)), some (va_rf ((x).map (aT G))), some (.int (nI i)), some (.ref (aT G i))] dX3_firstByLiking_26 rfl rfl rfl ?_
      refine j_aload F dX3_firstByLiking_28 rfl ?_
      refine gf_X3_147 F (v := .int (v 24 i)) dX3_firstByLiking_30 (4 + nA G + i) (cg_T h12) rfl ?_
      refine j_ifne F (tgt := 66) dX3_firstByLiking_33 (by decide) (fun h33 => ?_) (fun h33 => ?_)
      · refine j_iincN F [some (.ref (G.1 0 0)), some (.ref (aA G a0)), some (va_rf ((x).map (aT G))), some (.int (nI (i + 1))), some (.ref (aT G i))] dX3_firstByLiking_66 rfl (by rcases x with _ | _ <;> rfl) rfl rfl ?_
        refine j_goto F (tgt := 4) dX3_firstByLiking_69 (by decide) ?_
        refine j_lvw [some (.ref (G.1 0 0)), some (.ref (aA G a0)), some (va_rf ((x).map (aT G))), some (.int (nI (i + 1))), none] ⟨rfl, rfl, rfl, rfl, trivial⟩ ?_
        exact ih4 (i + 1) x (by omega) (by omega) (by rw [C_firstL_s, ← hc_x, C_firstLB, if_neg h33]) hx
      · refine j_aloadn F dX3_firstByLiking_36 rfl ?_
        refine j_aload F dX3_firstByLiking_37 rfl ?_
        refine gf_X3_111 F (v := .int (v 21 i)) dX3_firstByLiking_39 (4 + nA G + i) (cg_T h12) rfl ?_
        refine j_rdV F (qX0_hasSkill (kl k) hst (kD k) G v r a0 (v 21 i) ha) lk_X3_116 dX3_firstByLiking_42 ⟨(Nat.le_of_ble_eq_true rfl), (Nat.le_of_ble_eq_true rfl)⟩ (fun _ h => h) (4 + a0) (cg_A ha) rfl rfl (Nat.le_of_ble_eq_true rfl) ⟨(Nat.le_of_ble_eq_true rfl), (Nat.le_of_ble_eq_true rfl)⟩ ?_
        refine j_ifbeq F (tgt := 66) dX3_firstByLiking_45 (by decide) (fun h45 => ?_) (fun h45 => ?_)
        · refine j_iincN F [some (.ref (G.1 0 0)), some (.ref (aA G a0)), some (va_rf ((x).map (aT G))), some (.int (nI (i + 1))), some (.ref (aT G i))] dX3_firstByLiking_66 rfl (by rcases x with _ | _ <;> rfl) rfl rfl ?_
          refine j_goto F (tgt := 4) dX3_firstByLiking_69 (by decide) ?_
          refine j_lvw [some (.ref (G.1 0 0)), some (.ref (aA G a0)), some (va_rf ((x).map (aT G))), some (.int (nI (i + 1))), none] ⟨rfl, rfl, rfl, rfl, trivial⟩ ?_
          exact ih4 (i + 1) x (by omega) (by omega) (by rw [C_firstL_s, ← hc_x, C_firstLB, if_pos h33, if_neg h45]) hx
        · refine j_aloadnq F dX3_firstByLiking_48 rfl ?_
          refine j_ifnullq F (tgt := 63) dX3_firstByLiking_49 (by decide) (fun e49 => ?_) (fun a49 e49 => ?_)
          · rw [e49]
            have h49 := map_none e49
            refine j_aload F dX3_firstByLiking_63 rfl ?_
            refine j_astoren F [some (.ref (G.1 0 0)), some (.ref (aA G a0)), some (.ref (aT G i)), some (.int (nI i)), some (.ref (aT G i))] dX3_firstByLiking_65 rfl rfl rfl ?_
            refine j_iincN F [some (.ref (G.1 0 0)), some (.ref (aA G a0)), some (.ref (aT G i)), some (.int (nI (i + 1))), some (.ref (aT G i))] dX3_firstByLiking_66 rfl rfl rfl rfl ?_
            refine j_goto F (tgt := 4) dX3_firstByLiking_69 (by decide) ?_
            refine j_lvw [some (.ref (G.1 0 0)), some (.ref (aA G a0)), some (.ref (aT G i)), some (.int (nI (i + 1))), none] ⟨rfl, rfl, rfl, rfl, trivial⟩ ?_
            exact ih4 (i + 1) (some i) (by omega) (by omega) (by rw [C_firstL_s, ← hc_x, C_firstLB, if_pos h33, if_pos h45, if_pos h49]) ((fun _ e => by cases e; exact h12))
          · obtain ⟨ea, h49⟩ := rf_some e49
            subst ea
            rw [e49]
            refine j_aloadn F dX3_firstByLiking_52 rfl ?_
            refine j_aloadn F dX3_firstByLiking_53 rfl ?_
            refine j_aload F dX3_firstByLiking_54 rfl ?_
            refine j_aloadn F dX3_firstByLiking_56 rfl ?_
            refine j_rdV F (qX3_isLikedMore (kl k) hst (kD k) G v r a0 i (gd x) hG hC ha h12 ((hx _ (gd_some h49)))) lk_X3_297 dX3_firstByLiking_57 ⟨(Nat.le_of_ble_eq_true rfl), (Nat.le_of_ble_eq_true rfl)⟩ (fun _ h => h) 0 rfl rfl rfl (Nat.le_of_ble_eq_true rfl) ⟨(Nat.le_of_ble_eq_true rfl), (Nat.le_of_ble_eq_true rfl)⟩ ?_
            refine j_ifbeq F (tgt := 66) dX3_firstByLiking_60 (by decide) (fun h60 => ?_) (fun h60 => ?_)
            · refine j_iincN F [some (.ref (G.1 0 0)), some (.ref (aA G a0)), some (.ref (aT G (gd x))), some (.int (nI (i + 1))), some (.ref (aT G i))] dX3_firstByLiking_66 rfl rfl rfl rfl ?_
              refine j_goto F (tgt := 4) dX3_firstByLiking_69 (by decide) ?_
              refine j_lvw [some (.ref (G.1 0 0)), some (.ref (aA G a0)), some (.ref (aT G (gd x))), some (.int (nI (i + 1))), none] ⟨rfl, rfl, rfl, rfl, trivial⟩ ?_
              exact ih4 (i + 1) (some (gd x)) (by omega) (by omega) (by rw [C_firstL_s, ← hc_x, C_firstLB, if_pos h33, if_pos h45, if_neg h49, if_neg h60]) ((fun _ e => by cases e; exact (hx _ (gd_some h49))))
            · refine j_aload F dX3_firstByLiking_63 rfl ?_
              refine j_astoren F [some (.ref (G.1 0 0)), some (.ref (aA G a0)), some (.ref (aT G i)), some (.int (nI i)), some (.ref (aT G i))] dX3_firstByLiking_65 rfl rfl rfl ?_
              refine j_iincN F [some (.ref (G.1 0 0)), some (.ref (aA G a0)), some (.ref (aT G i)), some (.int (nI (i + 1))), some (.ref (aT G i))] dX3_firstByLiking_66 rfl rfl rfl rfl ?_
              refine j_goto F (tgt := 4) dX3_firstByLiking_69 (by decide) ?_
              refine j_lvw [some (.ref (G.1 0 0)), some (.ref (aA G a0)), some (.ref (aT G i)), some (.int (nI (i + 1))), none] ⟨rfl, rfl, rfl, rfl, trivial⟩ ?_
              exact ih4 (i + 1) (some i) (by omega) (by omega) (by rw [C_firstL_s, ← hc_x, C_firstLB, if_pos h33, if_pos h45, if_neg h49, if_pos h60]) ((fun _ e => by cases e; exact h12))
theorem C_firstL_lt {na nt : Nat} {v : S2} {r : R2} {a : Nat} : ∀ (n y : Nat), C_firstL na nt v r a n = some y → y < n
  | 0, y, h => by cases h
  | n + 1, y, h => by
    rw [C_firstL_s, C_firstLB] at h
    have ih : ∀ z, C_firstL na nt v r a n = some z → z < n := fun z => C_firstL_lt n z
    generalize C_firstL na nt v r a n = x at h ih
    have hx : x = some y → y < n + 1 := fun e => Nat.lt_succ_of_lt (ih y e)
    split at h
    · split at h
      · split at h
        · cases h; exact Nat.lt_succ_self n
        · rename_i hn
          split at h
          · cases h; exact Nat.lt_succ_self n
          · exact hx ((gd_some hn).trans h)
      · exact hx h
    · exact hx h
theorem C_first_lt {na nt : Nat} {v : S2} {r : R2} {a : Nat} : ∀ y, C_firstByLiking na nt v r a = some y → y < nt := fun y h => C_firstL_lt nt y h
theorem CI_age {na nt : Nat} {G : CG} {v : S2} {r : R2} (h : CI G v r) : CI G (C_ageTickets na nt v r).1 (C_ageTickets na nt v r).2 := by
  show CI G (C_ageL na nt v r nt) r
  have : ∀ n, CI G (C_ageL na nt v r n) r := fun n => by
    induction n with
    | zero => exact h
    | succ n ih =>
      rw [C_ageL_s, C_ageLB]
      split
      · exact CI_v (by decide) ih
      · split
        · exact CI_v (by decide) ih
        · exact ih
  exact this nt
theorem CI_home {na nt : Nat} {G : CG} {v : S2} {r : R2} (h : CI G v r) : CI G (C_sendHomeAgents na nt v r).1 (C_sendHomeAgents na nt v r).2 := by
  have : ∀ n, CI G (C_homeL na nt v r n).1 (C_homeL na nt v r n).2 := fun n => by
    induction n with
    | zero => exact h
    | succ n ih =>
      rw [C_homeL_s, C_homeLB]
      split
      · exact ih
      · split
        · exact ih
        · exact CI_handBack ih
  exact this na
def C_outLB (na : Nat) (nt : Nat) (v : S2) (r : R2) (i : Nat) (x : S2) (y : R2) : S2 × R2 := if y 15 i = none then (if (C_A_isThere na nt x y i (x 0 0)) = true then (if C_firstByLiking na nt x y i = none then (x, y) else ((C_give na nt x y (gd (C_firstByLiking na nt x y i)) i).1, (C_give na nt x y (gd (C_firstByLiking na nt x y i)) i).2)) else (x, y)) else (x, y)
def C_outL (na : Nat) (nt : Nat) (v : S2) (r : R2) : Nat → S2 × R2
  | 0 => (v, r)
  | n + 1 => C_outLB na nt v r n ((C_outL na nt v r n)).1 ((C_outL na nt v r n)).2
theorem C_outL_s (na : Nat) (nt : Nat) (v : S2) (r : R2) (n : Nat) : C_outL na nt v r (n + 1) = C_outLB na nt v r n ((C_outL na nt v r n)).1 ((C_outL na nt v r n)).2 := rfl
def C_giveOutTickets (na nt : Nat) (v : S2) (r : R2) : S2 × R2 := ((C_outL na nt v r na).1, (C_outL na nt v r na).2)
set_option maxHeartbeats 4000000 in
set_option maxRecDepth 100000 in
theorem qX3_giveOutTickets (l : Launch) (hst : l.stackTraces = false) (D : va_G) (G : CG) (v : S2) (r : R2) (hG : GI D G) (hC : CI G v r) : CM l D yX3_giveOutTickets cX3_giveOutTickets 4 none 4 88 0 0 (CW D G v r) [.ref (G.1 0 0)] (dP none (CW D G (C_giveOutTickets (nA G) (nT G) v r).1 (C_giveOutTickets (nA G) (nT G) v r).2)) := by
  refine CM_of [some (.ref (G.1 0 0)), none, none, none] hst (by decide +kernel) rfl (Nat.le_of_ble_eq_true rfl) (fun k F hl hD hin hR => ?_)
  subst hl hD
  have hNA : nA G ≤ 6 := hG.nA
  refine j_iconst F (v := 0) dX3_giveOutTickets_0 (by decide) ?_
  refine j_istoren F [some (.ref (G.1 0 0)), some (.int 0), none, none] dX3_giveOutTickets_1 rfl rfl rfl ?_
  refine (show ∀ (fuel i : Nat) (x : S2) (y : R2), (nA G) - i < fuel → i ≤ (nA G) → x = (C_outL (nA G) (nT G) v r i).1 → y = (C_outL (nA G) (nT G) v r i).2 → CI G x y →  J k (CW (kD k) G x y) 0 0 2 [some (.ref (G.1 0 0)), some (.int (nI i)), none, none] [] from ?_) ((nA G) + 1) 0 v r (by omega) (Nat.zero_le _) rfl rfl hC
  intro fu2
  induction fu2 with
  | zero => intro i x y hm; exact absurd hm (Nat.not_lt_zero _)
  | succ fu2 ih2 =>
    intro i x y hm2 hi2 hc_x hc_y hM
    refine j_iloadn F dX3_giveOutTickets_2 rfl ?_
    refine j_aloadn F dX3_giveOutTickets_3 rfl ?_
    refine gf_X3_26 F (v := .ref (G.1 0 4)) dX3_giveOutTickets_4 0 rfl rfl ?_
    refine j_sizeA F lk_X3_77 dX3_giveOutTickets_7 ⟨(Nat.le_of_ble_eq_true rfl), (Nat.le_of_ble_eq_true rfl)⟩ (Nat.le_of_ble_eq_true rfl) ⟨(Nat.le_of_ble_eq_true rfl), (Nat.le_of_ble_eq_true rfl)⟩ hst ?_
    refine j_icgeN F (x := i) (y := (nA G)) (tgt := 64) dX3_giveOutTickets_10 (by decide) ⟨by omega, by omega⟩ (fun h10 => ?_) (fun h10 => ?_)
    · obtain rfl : i = (nA G) := by omega
      subst hc_x
      subst hc_y
      have hz : C_giveOutTickets (nA G) (nT G) v r = ((C_outL (nA G) (nT G) v r (nA G)).1, (C_outL (nA G) (nT G) v r (nA G)).2) := rfl
      exact j_vret F hR dX3_giveOutTickets_64 (Nat.le_of_ble_eq_true rfl) (Nat.le_of_ble_eq_true rfl) ⟨rfl, by rw [hz]⟩
    · refine j_aloadn F dX3_giveOutTickets_13 rfl ?_
      refine gf_X3_26 F (v := .ref (G.1 0 4)) dX3_giveOutTickets_14 0 rfl rfl ?_
      refine j_iloadn F dX3_giveOutTickets_17 rfl ?_
      refine j_getAN F hG h10 lk_X3_231 dX3_giveOutTickets_18 ⟨(Nat.le_of_ble_eq_true rfl), (Nat.le_of_ble_eq_true rfl)⟩ (Nat.le_of_ble_eq_true rfl) ⟨(Nat.le_of_ble_eq_true rfl), (Nat.le_of_ble_eq_true rfl)⟩ hst ?_
      refine j_cast F ul_X3_86 dX3_giveOutTickets_21 (4 + i) (cg_A h10) rfl ?_
      refine j_astoren F [some (.ref (G.1 0 0)), some (.int (nI i)), some (.ref (aA G i)), none] dX3_giveOutTickets_24 rfl rfl rfl ?_
      refine j_aloadn F dX3_giveOutTickets_25 rfl ?_
      refine gf_X3_107 F (v := va_rf ((y 15 i).map (aT G))) dX3_giveOutTickets_26 (4 + i) (cg_A h10) rfl ?_
      refine j_ifnonnullq F (tgt := 58) dX3_giveOutTickets_29 (by decide) (fun a29 e29 => ?_) (fun e29 => ?_)
      · obtain ⟨ea, h29⟩ := rf_some e29
        subst ea
        refine j_iincN F [some (.ref (G.1 0 0)), some (.int (nI (i + 1))), some (.ref (aA G i)), none] dX3_giveOutTickets_58 rfl rfl rfl rfl ?_
        refine j_goto F (tgt := 2) dX3_giveOutTickets_61 (by decide) ?_
        refine j_lvw [some (.ref (G.1 0 0)), some (.int (nI (i + 1))), none, none] ⟨rfl, rfl, trivial⟩ ?_
        exact ih2 (i + 1) x y (by omega) (by omega) (by rw [C_outL_s, ← hc_x, ← hc_y, C_outLB, if_neg h29]) (by rw [C_outL_s, ← hc_x, ← hc_y, C_outLB, if_neg h29]) hM
      · have h29 := map_none e29
        refine j_aloadn F dX3_giveOutTickets_32 rfl ?_
        refine j_aloadn F dX3_giveOutTickets_33 rfl ?_
        refine gf_X3_33 F (v := .int (x 0 0)) dX3_giveOutTickets_34 0 rfl rfl ?_
        refine j_rdV F (qX0_isThere (kl k) hst (kD k) G x y i (x 0 0) h10) lk_X3_271 dX3_giveOutTickets_37 ⟨(Nat.le_of_ble_eq_true rfl), (Nat.le_of_ble_eq_true rfl)⟩ (fun _ h => h) (4 + i) (cg_A h10) rfl rfl (Nat.le_of_ble_eq_true rfl) ⟨(Nat.le_of_ble_eq_true rfl), (Nat.le_of_ble_eq_true rfl)⟩ ?_
        refine j_ifbeq F (tgt := 58) dX3_giveOutTickets_40 (by decide) (fun h40 => ?_) (fun h40 => ?_)
        · refine j_iincN F [some (.ref (G.1 0 0)), some (.int (nI (i + 1))), some (.ref (aA G i)), none] dX3_giveOutTickets_58 rfl rfl rfl rfl ?_
          refine j_goto F (tgt := 2) dX3_giveOutTickets_61 (by decide) ?_
          refine j_lvw [some (.ref (G.1 0 0)), some (.int (nI (i + 1))), none, none] ⟨rfl, rfl, trivial⟩ ?_
          exact ih2 (i + 1) x y (by omega) (by omega) (by rw [C_outL_s, ← hc_x, ← hc_y, C_outLB, if_pos h29, if_neg h40]) (by rw [C_outL_s, ← hc_x, ← hc_y, C_outLB, if_pos h29, if_neg h40]) hM
        · refine j_aloadn F dX3_giveOutTickets_43 rfl ?_
          refine j_aloadn F dX3_giveOutTickets_44 rfl ?_
          refine j_rdV F (qX3_firstByLiking (kl k) hst (kD k) G x y i hG hM h10) lk_X3_129 dX3_giveOutTickets_45 ⟨(Nat.le_of_ble_eq_true rfl), (Nat.le_of_ble_eq_true rfl)⟩ (fun _ h => h) 0 rfl rfl rfl (Nat.le_of_ble_eq_true rfl) ⟨(Nat.le_of_ble_eq_true rfl), (Nat.le_of_ble_eq_true rfl)⟩ ?_
          refine j_astorenq F [some (.ref (G.1 0 0)), some (.int (nI i)), some (.ref (aA G i)), some (va_rf ((C_firstByLiking (nA G) (nT G) x y i).map (aT G)))] dX3_giveOutTickets_48 rfl rfl rfl ?_
          refine j_aloadnq F dX3_giveOutTickets_49 rfl ?_
          refine j_ifnullq F (tgt := 58) dX3_giveOutTickets_50 (by decide) (fun e50 => ?_) (fun a50 e50 => ?_)
          · rw [e50]
            have h50 := map_none e50
            refine j_iincN F [some (.ref (G.1 0 0)), some (.int (nI (i + 1))), some (.ref (aA G i)), some (.null)] dX3_giveOutTickets_58 rfl rfl rfl rfl ?_
            refine j_goto F (tgt := 2) dX3_giveOutTickets_61 (by decide) ?_
            refine j_lvw [some (.ref (G.1 0 0)), some (.int (nI (i + 1))), none, none] ⟨rfl, rfl, trivial⟩ ?_
            exact ih2 (i + 1) x y (by omega) (by omega) (by rw [C_outL_s, ← hc_x, ← hc_y, C_outLB, if_pos h29, if_pos h40, if_pos h50]) (by rw [C_outL_s, ← hc_x, ← hc_y, C_outLB, if_pos h29, if_pos h40, if_pos h50]) hM
          · obtain ⟨ea, h50⟩ := rf_some e50
            subst ea
            rw [e50]
            refine j_aloadn F dX3_giveOutTickets_53 rfl ?_
            refine j_aloadn F dX3_giveOutTickets_54 rfl ?_
            refine j_dmS F hR.1 (qX3_give (kl k) hst (kD k) G x y (gd (C_firstByLiking (nA G) (nT G) x y i)) i ((C_first_lt _ (gd_some h50))) h10) lk_X3_274 dX3_giveOutTickets_55 ⟨(Nat.le_of_ble_eq_true rfl), (Nat.le_of_ble_eq_true rfl)⟩ rfl (Nat.le_of_ble_eq_true rfl) ⟨(Nat.le_of_ble_eq_true rfl), (Nat.le_of_ble_eq_true rfl)⟩ rfl ?_
            refine j_iincN F [some (.ref (G.1 0 0)), some (.int (nI (i + 1))), some (.ref (aA G i)), some (.ref (aT G (gd (C_firstByLiking (nA G) (nT G) x y i))))] dX3_giveOutTickets_58 rfl rfl rfl rfl ?_
            refine j_goto F (tgt := 2) dX3_giveOutTickets_61 (by decide) ?_
            refine j_lvw [some (.ref (G.1 0 0)), some (.int (nI (i + 1))), none, none] ⟨rfl, rfl, trivial⟩ ?_
            exact ih2 (i + 1) ((C_give (nA G) (nT G) x y (gd (C_firstByLiking (nA G) (nT G) x y i)) i).1) ((C_give (nA G) (nT G) x y (gd (C_firstByLiking (nA G) (nT G) x y i)) i).2) (by omega) (by omega) (by rw [C_outL_s, ← hc_x, ← hc_y, C_outLB, if_pos h29, if_pos h40, if_neg h50]) (by rw [C_outL_s, ← hc_x, ← hc_y, C_outLB, if_pos h29, if_pos h40, if_neg h50]) ((CI_give hM (C_first_lt _ (gd_some h50)) h10))
theorem CI_out {G : CG} {v : S2} {r : R2} (h : CI G v r) : CI G (C_giveOutTickets (nA G) (nT G) v r).1 (C_giveOutTickets (nA G) (nT G) v r).2 := by
  have : ∀ n, n ≤ nA G → CI G (C_outL (nA G) (nT G) v r n).1 (C_outL (nA G) (nT G) v r n).2 := fun n => by
    induction n with
    | zero => intro _; exact h
    | succ n ih =>
      intro hn
      have ih := ih (by omega)
      rw [C_outL_s, C_outLB]
      generalize (C_outL (nA G) (nT G) v r n).1 = x at ih ⊢
      generalize (C_outL (nA G) (nT G) v r n).2 = y at ih ⊢
      repeat' split
      all_goals first | exact ih | exact CI_give (na := nA G) (nt := nT G) ih (C_first_lt _ (gd_some ‹_›)) (by omega)
  exact this _ (Nat.le_refl _)
def C_workLB (na : Nat) (nt : Nat) (v : S2) (r : R2) (i : Nat) (s : Int32) (x : S2) (y : R2) : Int32 × S2 × R2 := if y 15 i = none then (s, x, y) else if ((u2 (u2 x 16 i ((x 16 i) + 1)) 26 (gd (y 15 i)) ((x 26 (gd (y 15 i))) + 1)) 26 (gd (y 15 i))) = (x 23 (gd (y 15 i))) then (s + 1, (C_solve na nt (u2 (u2 x 16 i ((x 16 i) + 1)) 26 (gd (y 15 i)) ((x 26 (gd (y 15 i))) + 1)) y (gd (y 15 i)) i).1, (C_solve na nt (u2 (u2 x 16 i ((x 16 i) + 1)) 26 (gd (y 15 i)) ((x 26 (gd (y 15 i))) + 1)) y (gd (y 15 i)) i).2) else (s, u2 (u2 x 16 i ((x 16 i) + 1)) 26 (gd (y 15 i)) ((x 26 (gd (y 15 i))) + 1), y)
def C_workL (na : Nat) (nt : Nat) (v : S2) (r : R2) : Nat → Int32 × S2 × R2
  | 0 => (0, v, r)
  | n + 1 => C_workLB na nt v r n ((C_workL na nt v r n)).1 ((C_workL na nt v r n)).2.1 ((C_workL na nt v r n)).2.2
theorem C_workL_s (na : Nat) (nt : Nat) (v : S2) (r : R2) (n : Nat) : C_workL na nt v r (n + 1) = C_workLB na nt v r n ((C_workL na nt v r n)).1 ((C_workL na nt v r n)).2.1 ((C_workL na nt v r n)).2.2 := rfl
def C_work (na nt : Nat) (v : S2) (r : R2) : Int32 × S2 × R2 := ((C_workL na nt v r na).1, (C_workL na nt v r na).2.1, (C_workL na nt v r na).2.2)
set_option maxHeartbeats 4000000 in
set_option maxRecDepth 100000 in
theorem qX3_work (l : Launch) (hst : l.stackTraces = false) (D : va_G) (G : CG) (v : S2) (r : R2) (hG : GI D G) (hC : CI G v r) : CM l D yX3_work cX3_work 5 (some .int) 3 64 0 0 (CW D G v r) [.ref (G.1 0 0)] (dP (some (.int ((C_work (nA G) (nT G) v r).1))) (CW D G (C_work (nA G) (nT G) v r).2.1 (C_work (nA G) (nT G) v r).2.2)) := by
  refine CM_of [some (.ref (G.1 0 0)), none, none, none, none] hst (by decide +kernel) rfl (Nat.le_of_ble_eq_true rfl) (fun k F hl hD hin hR => ?_)
  subst hl hD
  have hNA : nA G ≤ 6 := hG.nA
  refine j_iconst F (v := 0) dX3_work_0 (by decide) ?_
  refine j_istoren F [some (.ref (G.1 0 0)), some (.int 0), none, none, none] dX3_work_1 rfl rfl rfl ?_
  refine j_iconst F (v := 0) dX3_work_2 (by decide) ?_
  refine j_istoren F [some (.ref (G.1 0 0)), some (.int 0), some (.int 0), none, none] dX3_work_3 rfl rfl rfl ?_
  refine (show ∀ (fuel i : Nat) (s : Int32) (x : S2) (y : R2), (nA G) - i < fuel → i ≤ (nA G) → s = (C_workL (nA G) (nT G) v r i).1 → x = (C_workL (nA G) (nT G) v r i).2.1 → y = (C_workL (nA G) (nT G) v r i).2.2 → CI G x y →  J k (CW (kD k) G x y) 0 0 4 [some (.ref (G.1 0 0)), some (.int s), some (.int (nI i)), none, none] [] from ?_) ((nA G) + 1) 0 0 v r (by omega) (Nat.zero_le _) rfl rfl rfl hC
  intro fu4
  induction fu4 with
  | zero => intro i s x y hm; exact absurd hm (Nat.not_lt_zero _)
  | succ fu4 ih4 =>
    intro i s x y hm4 hi4 hc_s hc_x hc_y hM
    refine j_iloadn F dX3_work_4 rfl ?_
    refine j_aloadn F dX3_work_5 rfl ?_
    refine gf_X3_26 F (v := .ref (G.1 0 4)) dX3_work_6 0 rfl rfl ?_
    refine j_sizeA F lk_X3_77 dX3_work_9 ⟨(Nat.le_of_ble_eq_true rfl), (Nat.le_of_ble_eq_true rfl)⟩ (Nat.le_of_ble_eq_true rfl) ⟨(Nat.le_of_ble_eq_true rfl), (Nat.le_of_ble_eq_true rfl)⟩ hst ?_
    refine j_icgeN F (x := i) (y := (nA G)) (tgt := 88) dX3_work_12 (by decide) ⟨by omega, by omega⟩ (fun h12 => ?_) (fun h12 => ?_)
    · obtain rfl : i = (nA G) := by omega
      subst hc_s
      subst hc_x
      subst hc_y
      refine j_iloadn F dX3_work_88 rfl ?_
      have hz : C_work (nA G) (nT G) v r = ((C_workL (nA G) (nT G) v r (nA G)).1, (C_workL (nA G) (nT G) v r (nA G)).2.1, (C_workL (nA G) (nT G) v r (nA G)).2.2) := rfl
      exact j_iret F hR dX3_work_89 (Nat.le_of_ble_eq_true rfl) (Nat.le_of_ble_eq_true rfl) ⟨by rw [hz], by rw [hz]⟩
    · refine j_aloadn F dX3_work_15 rfl ?_
      refine gf_X3_26 F (v := .ref (G.1 0 4)) dX3_work_16 0 rfl rfl ?_
      refine j_iloadn F dX3_work_19 rfl ?_
      refine j_getAN F hG h12 lk_X3_231 dX3_work_20 ⟨(Nat.le_of_ble_eq_true rfl), (Nat.le_of_ble_eq_true rfl)⟩ (Nat.le_of_ble_eq_true rfl) ⟨(Nat.le_of_ble_eq_true rfl), (Nat.le_of_ble_eq_true rfl)⟩ hst ?_
      refine j_cast F ul_X3_86 dX3_work_23 (4 + i) (cg_A h12) rfl ?_
      refine j_astoren F [some (.ref (G.1 0 0)), some (.int s), some (.int (nI i)), some (.ref (aA G i)), none] dX3_work_26 rfl rfl rfl ?_
      refine j_aloadn F dX3_work_27 rfl ?_
      refine gf_X3_107 F (v := va_rf ((y 15 i).map (aT G))) dX3_work_28 (4 + i) (cg_A h12) rfl ?_
      refine j_astoreq F [some (.ref (G.1 0 0)), some (.int s), some (.int (nI i)), some (.ref (aA G i)), some (va_rf ((y 15 i).map (aT G)))] dX3_work_31 rfl rfl rfl ?_
      refine j_aloadq F dX3_work_33 rfl ?_
      refine j_ifnullq F (tgt := 82) dX3_work_35 (by decide) (fun e35 => ?_) (fun a35 e35 => ?_)
      · rw [e35]
        have h35 := map_none e35
        refine j_iincN F [some (.ref (G.1 0 0)), some (.int s), some (.int (nI (i + 1))), some (.ref (aA G i)), some (.null)] dX3_work_82 rfl rfl rfl rfl ?_
        refine j_goto F (tgt := 4) dX3_work_85 (by decide) ?_
        refine j_lvw [some (.ref (G.1 0 0)), some (.int s), some (.int (nI (i + 1))), none, none] ⟨rfl, rfl, rfl, trivial⟩ ?_
        exact ih4 (i + 1) s x y (by omega) (by omega) (by rw [C_workL_s, ← hc_s, ← hc_x, ← hc_y, C_workLB, if_pos h35]) (by rw [C_workL_s, ← hc_s, ← hc_x, ← hc_y, C_workLB, if_pos h35]) (by rw [C_workL_s, ← hc_s, ← hc_x, ← hc_y, C_workLB, if_pos h35]) hM
      · obtain ⟨ea, h35⟩ := rf_some e35
        subst ea
        rw [e35]
        refine j_aloadn F dX3_work_38 rfl ?_
        refine j_dup F dX3_work_39 rfl ?_
        refine gf_X3_278 F (v := .int (x 16 i)) dX3_work_40 (4 + i) (cg_A h12) rfl ?_
        refine j_iconst F (v := 1) dX3_work_43 (by decide) ?_
        refine j_iadd F dX3_work_44 ?_
        refine pf_X3_278 F hR.1 dX3_work_45 rfl rfl (4 + i) (cg_A h12) (Nat.le_of_ble_eq_true rfl) (CW (kD k) G (u2 x 16 i ((x 16 i) + 1)) y) (csA_6 h12) ?_
        refine j_aload F dX3_work_48 rfl ?_
        refine j_dup F dX3_work_50 rfl ?_
        refine gf_X3_166 F (v := .int (x 26 (gd (y 15 i)))) dX3_work_51 (4 + nA G + (gd (y 15 i))) (cg_T ((CI.held hM h12) _ (gd_some h35))) rfl ?_
        refine j_iconst F (v := 1) dX3_work_54 (by decide) ?_
        refine j_iadd F dX3_work_55 ?_
        refine pf_X3_166 F hR.1 dX3_work_56 rfl rfl (4 + nA G + (gd (y 15 i))) (cg_T ((CI.held hM h12) _ (gd_some h35))) (Nat.le_of_ble_eq_true rfl) (CW (kD k) G (u2 (u2 x 16 i ((x 16 i) + 1)) 26 (gd (y 15 i)) ((x 26 (gd (y 15 i))) + 1)) y) (csT_6 ((CI.held hM h12) _ (gd_some h35))) ?_
        refine j_aload F dX3_work_59 rfl ?_
        refine gf_X3_166 F (v := .int ((u2 (u2 x 16 i ((x 16 i) + 1)) 26 (gd (y 15 i)) ((x 26 (gd (y 15 i))) + 1)) 26 (gd (y 15 i)))) dX3_work_61 (4 + nA G + (gd (y 15 i))) (cg_T ((CI.held hM h12) _ (gd_some h35))) rfl ?_
        refine j_aload F dX3_work_64 rfl ?_
        refine gf_X3_163 F (v := .int (x 23 (gd (y 15 i)))) dX3_work_66 (4 + nA G + (gd (y 15 i))) (cg_T ((CI.held hM h12) _ (gd_some h35))) rfl ?_
        refine j_icne F (tgt := 82) dX3_work_69 (by decide) (fun h69 => ?_) (fun h69 => ?_)
        · refine j_iincN F [some (.ref (G.1 0 0)), some (.int s), some (.int (nI (i + 1))), some (.ref (aA G i)), some (.ref (aT G (gd (y 15 i))))] dX3_work_82 rfl rfl rfl rfl ?_
          refine j_goto F (tgt := 4) dX3_work_85 (by decide) ?_
          refine j_lvw [some (.ref (G.1 0 0)), some (.int s), some (.int (nI (i + 1))), none, none] ⟨rfl, rfl, rfl, trivial⟩ ?_
          exact ih4 (i + 1) s (u2 (u2 x 16 i ((x 16 i) + 1)) 26 (gd (y 15 i)) ((x 26 (gd (y 15 i))) + 1)) y (by omega) (by omega) (by rw [C_workL_s, ← hc_s, ← hc_x, ← hc_y, C_workLB, if_neg h35, if_neg h69]) (by rw [C_workL_s, ← hc_s, ← hc_x, ← hc_y, C_workLB, if_neg h35, if_neg h69]) (by rw [C_workL_s, ← hc_s, ← hc_x, ← hc_y, C_workLB, if_neg h35, if_neg h69]) ((CI_v (by decide) (CI_v (by decide) hM)))
        · refine j_aloadn F dX3_work_72 rfl ?_
          refine j_aload F dX3_work_73 rfl ?_
          refine j_aloadn F dX3_work_75 rfl ?_
          refine j_dmV F hR.1 (qX3_solve (kl k) hst (kD k) G (u2 (u2 x 16 i ((x 16 i) + 1)) 26 (gd (y 15 i)) ((x 26 (gd (y 15 i))) + 1)) y (gd (y 15 i)) i ((CI_v (by decide) (CI_v (by decide) hM))) (((CI.held hM h12) _ (gd_some h35))) h12) lk_X3_281 dX3_work_76 ⟨(Nat.le_of_ble_eq_true rfl), (Nat.le_of_ble_eq_true rfl)⟩ 0 rfl rfl rfl (Nat.le_of_ble_eq_true rfl) ⟨(Nat.le_of_ble_eq_true rfl), (Nat.le_of_ble_eq_true rfl)⟩ rfl ?_
          refine j_iinc F [some (.ref (G.1 0 0)), some (.int (s + 1)), some (.int (nI i)), some (.ref (aA G i)), some (.ref (aT G (gd (y 15 i))))] dX3_work_79 rfl (v := s + 1) rfl rfl rfl rfl ?_
          refine j_iincN F [some (.ref (G.1 0 0)), some (.int (s + 1)), some (.int (nI (i + 1))), some (.ref (aA G i)), some (.ref (aT G (gd (y 15 i))))] dX3_work_82 rfl rfl rfl rfl ?_
          refine j_goto F (tgt := 4) dX3_work_85 (by decide) ?_
          refine j_lvw [some (.ref (G.1 0 0)), some (.int (s + 1)), some (.int (nI (i + 1))), none, none] ⟨rfl, rfl, rfl, trivial⟩ ?_
          exact ih4 (i + 1) (s + 1) ((C_solve (nA G) (nT G) (u2 (u2 x 16 i ((x 16 i) + 1)) 26 (gd (y 15 i)) ((x 26 (gd (y 15 i))) + 1)) y (gd (y 15 i)) i).1) ((C_solve (nA G) (nT G) (u2 (u2 x 16 i ((x 16 i) + 1)) 26 (gd (y 15 i)) ((x 26 (gd (y 15 i))) + 1)) y (gd (y 15 i)) i).2) (by omega) (by omega) (by rw [C_workL_s, ← hc_s, ← hc_x, ← hc_y, C_workLB, if_neg h35, if_pos h69]) (by rw [C_workL_s, ← hc_s, ← hc_x, ← hc_y, C_workLB, if_neg h35, if_pos h69]) (by rw [C_workL_s, ← hc_s, ← hc_x, ← hc_y, C_workLB, if_neg h35, if_pos h69]) ((CI_solve (CI_v (by decide) (CI_v (by decide) hM))))
theorem CI_work {na nt : Nat} {G : CG} {v : S2} {r : R2} (h : CI G v r) : CI G (C_work na nt v r).2.1 (C_work na nt v r).2.2 := by
  have : ∀ n, CI G (C_workL na nt v r n).2.1 (C_workL na nt v r n).2.2 := fun n => by
    induction n with
    | zero => exact h
    | succ n ih =>
      rw [C_workL_s, C_workLB]
      generalize (C_workL na nt v r n).2.1 = x at ih ⊢
      generalize (C_workL na nt v r n).2.2 = y at ih ⊢
      repeat' split
      all_goals first | exact ih | exact CI_solve (CI_v (by decide) (CI_v (by decide) ih)) | exact CI_v (by decide) (CI_v (by decide) ih)
  exact this na
def C_passMinute (na nt : Nat) (v : S2) (r : R2) : Int32 × S2 × R2 := if (C_H_isService na nt ((C_giveOutTickets na nt ((C_sendHomeAgents na nt v r).1) ((C_sendHomeAgents na nt v r).2)).1) ((C_giveOutTickets na nt ((C_sendHomeAgents na nt v r).1) ((C_sendHomeAgents na nt v r).2)).2) (((C_giveOutTickets na nt ((C_sendHomeAgents na nt v r).1) ((C_sendHomeAgents na nt v r).2)).1) 0 0)) = true then ((C_work na nt ((C_ageTickets na nt ((C_giveOutTickets na nt ((C_sendHomeAgents na nt v r).1) ((C_sendHomeAgents na nt v r).2)).1) ((C_giveOutTickets na nt ((C_sendHomeAgents na nt v r).1) ((C_sendHomeAgents na nt v r).2)).2)).1) ((C_ageTickets na nt ((C_giveOutTickets na nt ((C_sendHomeAgents na nt v r).1) ((C_sendHomeAgents na nt v r).2)).1) ((C_giveOutTickets na nt ((C_sendHomeAgents na nt v r).1) ((C_sendHomeAgents na nt v r).2)).2)).2)).1, u2 ((C_work na nt ((C_ageTickets na nt ((C_giveOutTickets na nt ((C_sendHomeAgents na nt v r).1) ((C_sendHomeAgents na nt v r).2)).1) ((C_giveOutTickets na nt ((C_sendHomeAgents na nt v r).1) ((C_sendHomeAgents na nt v r).2)).2)).1) ((C_ageTickets na nt ((C_giveOutTickets na nt ((C_sendHomeAgents na nt v r).1) ((C_sendHomeAgents na nt v r).2)).1) ((C_giveOutTickets na nt ((C_sendHomeAgents na nt v r).1) ((C_sendHomeAgents na nt v r).2)).2)).2)).2.1) 0 0 ((((C_work na nt ((C_ageTickets na nt ((C_giveOutTickets na nt ((C_sendHomeAgents na nt v r).1) ((C_sendHomeAgents na nt v r).2)).1) ((C_giveOutTickets na nt ((C_sendHomeAgents na nt v r).1) ((C_sendHomeAgents na nt v r).2)).2)).1) ((C_ageTickets na nt ((C_giveOutTickets na nt ((C_sendHomeAgents na nt v r).1) ((C_sendHomeAgents na nt v r).2)).1) ((C_giveOutTickets na nt ((C_sendHomeAgents na nt v r).1) ((C_sendHomeAgents na nt v r).2)).2)).2)).2.1) 0 0) + 1), (C_work na nt ((C_ageTickets na nt ((C_giveOutTickets na nt ((C_sendHomeAgents na nt v r).1) ((C_sendHomeAgents na nt v r).2)).1) ((C_giveOutTickets na nt ((C_sendHomeAgents na nt v r).1) ((C_sendHomeAgents na nt v r).2)).2)).1) ((C_ageTickets na nt ((C_giveOutTickets na nt ((C_sendHomeAgents na nt v r).1) ((C_sendHomeAgents na nt v r).2)).1) ((C_giveOutTickets na nt ((C_sendHomeAgents na nt v r).1) ((C_sendHomeAgents na nt v r).2)).2)).2)).2.2) else ((C_work na nt ((C_giveOutTickets na nt ((C_sendHomeAgents na nt v r).1) ((C_sendHomeAgents na nt v r).2)).1) ((C_giveOutTickets na nt ((C_sendHomeAgents na nt v r).1) ((C_sendHomeAgents na nt v r).2)).2)).1, u2 ((C_work na nt ((C_giveOutTickets na nt ((C_sendHomeAgents na nt v r).1) ((C_sendHomeAgents na nt v r).2)).1) ((C_giveOutTickets na nt ((C_sendHomeAgents na nt v r).1) ((C_sendHomeAgents na nt v r).2)).2)).2.1) 0 0 ((((C_work na nt ((C_giveOutTickets na nt ((C_sendHomeAgents na nt v r).1) ((C_sendHomeAgents na nt v r).2)).1) ((C_giveOutTickets na nt ((C_sendHomeAgents na nt v r).1) ((C_sendHomeAgents na nt v r).2)).2)).2.1) 0 0) + 1), (C_work na nt ((C_giveOutTickets na nt ((C_sendHomeAgents na nt v r).1) ((C_sendHomeAgents na nt v r).2)).1) ((C_giveOutTickets na nt ((C_sendHomeAgents na nt v r).1) ((C_sendHomeAgents na nt v r).2)).2)).2.2)
set_option maxHeartbeats 4000000 in
set_option maxRecDepth 100000 in
theorem qX3_passMinute (l : Launch) (hst : l.stackTraces = false) (D : va_G) (G : CG) (v : S2) (r : R2) (hG : GI D G) (hC : CI G v r) : CM l D yX3_passMinute cX3_passMinute 2 (some .int) 5 111 0 0 (CW D G v r) [.ref (G.1 0 0)] (dP (some (.int ((C_passMinute (nA G) (nT G) v r).1))) (CW D G (C_passMinute (nA G) (nT G) v r).2.1 (C_passMinute (nA G) (nT G) v r).2.2)) := by
  refine CM_of [some (.ref (G.1 0 0)), none] hst (by decide +kernel) rfl (Nat.le_of_ble_eq_true rfl) (fun k F hl hD hin hR => ?_)
  subst hl hD
  refine j_aloadn F dX3_passMinute_0 rfl ?_
  refine j_dmV F hR.1 (qX3_sendHomeAgents (kl k) hst (kD k) G v r hG hC) lk_X3_256 dX3_passMinute_1 ⟨(Nat.le_of_ble_eq_true rfl), (Nat.le_of_ble_eq_true rfl)⟩ 0 rfl rfl rfl (Nat.le_of_ble_eq_true rfl) ⟨(Nat.le_of_ble_eq_true rfl), (Nat.le_of_ble_eq_true rfl)⟩ rfl ?_
  refine j_aloadn F dX3_passMinute_4 rfl ?_
  refine j_dmV F hR.1 (qX3_giveOutTickets (kl k) hst (kD k) G ((C_sendHomeAgents (nA G) (nT G) v r).1) ((C_sendHomeAgents (nA G) (nT G) v r).2) hG ((CI_home hC))) lk_X3_259 dX3_passMinute_5 ⟨(Nat.le_of_ble_eq_true rfl), (Nat.le_of_ble_eq_true rfl)⟩ 0 rfl rfl rfl (Nat.le_of_ble_eq_true rfl) ⟨(Nat.le_of_ble_eq_true rfl), (Nat.le_of_ble_eq_true rfl)⟩ rfl ?_
  refine j_aloadn F dX3_passMinute_8 rfl ?_
  refine gf_X3_10 F (v := .ref (G.1 0 1)) dX3_passMinute_9 0 rfl rfl ?_
  refine j_aloadn F dX3_passMinute_12 rfl ?_
  refine gf_X3_33 F (v := .int (((C_giveOutTickets (nA G) (nT G) ((C_sendHomeAgents (nA G) (nT G) v r).1) ((C_sendHomeAgents (nA G) (nT G) v r).2)).1) 0 0)) dX3_passMinute_13 0 rfl rfl ?_
  refine j_rdV F (qX1_isService (kl k) hst (kD k) G ((C_giveOutTickets (nA G) (nT G) ((C_sendHomeAgents (nA G) (nT G) v r).1) ((C_sendHomeAgents (nA G) (nT G) v r).2)).1) ((C_giveOutTickets (nA G) (nT G) ((C_sendHomeAgents (nA G) (nT G) v r).1) ((C_sendHomeAgents (nA G) (nT G) v r).2)).2) (((C_giveOutTickets (nA G) (nT G) ((C_sendHomeAgents (nA G) (nT G) v r).1) ((C_sendHomeAgents (nA G) (nT G) v r).2)).1) 0 0)) lk_X3_262 dX3_passMinute_16 ⟨(Nat.le_of_ble_eq_true rfl), (Nat.le_of_ble_eq_true rfl)⟩ (fun _ h => h) 1 rfl rfl rfl (Nat.le_of_ble_eq_true rfl) ⟨(Nat.le_of_ble_eq_true rfl), (Nat.le_of_ble_eq_true rfl)⟩ ?_
  refine j_ifbeq F (tgt := 26) dX3_passMinute_19 (by decide) (fun h19 => ?_) (fun h19 => ?_)
  · refine j_aloadn F dX3_passMinute_26 rfl ?_
    refine j_dmV F hR.1 (qX3_work (kl k) hst (kD k) G ((C_giveOutTickets (nA G) (nT G) ((C_sendHomeAgents (nA G) (nT G) v r).1) ((C_sendHomeAgents (nA G) (nT G) v r).2)).1) ((C_giveOutTickets (nA G) (nT G) ((C_sendHomeAgents (nA G) (nT G) v r).1) ((C_sendHomeAgents (nA G) (nT G) v r).2)).2) hG ((CI_out (CI_home hC)))) lk_X3_268 dX3_passMinute_27 ⟨(Nat.le_of_ble_eq_true rfl), (Nat.le_of_ble_eq_true rfl)⟩ 0 rfl rfl rfl (Nat.le_of_ble_eq_true rfl) ⟨(Nat.le_of_ble_eq_true rfl), (Nat.le_of_ble_eq_true rfl)⟩ rfl ?_
    refine j_istoren F [some (.ref (G.1 0 0)), some (.int ((C_work (nA G) (nT G) ((C_giveOutTickets (nA G) (nT G) ((C_sendHomeAgents (nA G) (nT G) v r).1) ((C_sendHomeAgents (nA G) (nT G) v r).2)).1) ((C_giveOutTickets (nA G) (nT G) ((C_sendHomeAgents (nA G) (nT G) v r).1) ((C_sendHomeAgents (nA G) (nT G) v r).2)).2)).1))] dX3_passMinute_30 rfl rfl rfl ?_
    refine j_aloadn F dX3_passMinute_31 rfl ?_
    refine j_dup F dX3_passMinute_32 rfl ?_
    refine gf_X3_33 F (v := .int (((C_work (nA G) (nT G) ((C_giveOutTickets (nA G) (nT G) ((C_sendHomeAgents (nA G) (nT G) v r).1) ((C_sendHomeAgents (nA G) (nT G) v r).2)).1) ((C_giveOutTickets (nA G) (nT G) ((C_sendHomeAgents (nA G) (nT G) v r).1) ((C_sendHomeAgents (nA G) (nT G) v r).2)).2)).2.1) 0 0)) dX3_passMinute_33 0 rfl rfl ?_
    refine j_iconst F (v := 1) dX3_passMinute_36 (by decide) ?_
    refine j_iadd F dX3_passMinute_37 ?_
    refine pf_X3_33 F hR.1 dX3_passMinute_38 rfl rfl 0 rfl (Nat.le_of_ble_eq_true rfl) (CW (kD k) G (u2 ((C_work (nA G) (nT G) ((C_giveOutTickets (nA G) (nT G) ((C_sendHomeAgents (nA G) (nT G) v r).1) ((C_sendHomeAgents (nA G) (nT G) v r).2)).1) ((C_giveOutTickets (nA G) (nT G) ((C_sendHomeAgents (nA G) (nT G) v r).1) ((C_sendHomeAgents (nA G) (nT G) v r).2)).2)).2.1) 0 0 ((((C_work (nA G) (nT G) ((C_giveOutTickets (nA G) (nT G) ((C_sendHomeAgents (nA G) (nT G) v r).1) ((C_sendHomeAgents (nA G) (nT G) v r).2)).1) ((C_giveOutTickets (nA G) (nT G) ((C_sendHomeAgents (nA G) (nT G) v r).1) ((C_sendHomeAgents (nA G) (nT G) v r).2)).2)).2.1) 0 0) + 1)) ((C_work (nA G) (nT G) ((C_giveOutTickets (nA G) (nT G) ((C_sendHomeAgents (nA G) (nT G) v r).1) ((C_sendHomeAgents (nA G) (nT G) v r).2)).1) ((C_giveOutTickets (nA G) (nT G) ((C_sendHomeAgents (nA G) (nT G) v r).1) ((C_sendHomeAgents (nA G) (nT G) v r).2)).2)).2.2)) cs_0 ?_
    refine j_iloadn F dX3_passMinute_41 rfl ?_
    have hz : C_passMinute (nA G) (nT G) v r = ((C_work (nA G) (nT G) ((C_giveOutTickets (nA G) (nT G) ((C_sendHomeAgents (nA G) (nT G) v r).1) ((C_sendHomeAgents (nA G) (nT G) v r).2)).1) ((C_giveOutTickets (nA G) (nT G) ((C_sendHomeAgents (nA G) (nT G) v r).1) ((C_sendHomeAgents (nA G) (nT G) v r).2)).2)).1, u2 ((C_work (nA G) (nT G) ((C_giveOutTickets (nA G) (nT G) ((C_sendHomeAgents (nA G) (nT G) v r).1) ((C_sendHomeAgents (nA G) (nT G) v r).2)).1) ((C_giveOutTickets (nA G) (nT G) ((C_sendHomeAgents (nA G) (nT G) v r).1) ((C_sendHomeAgents (nA G) (nT G) v r).2)).2)).2.1) 0 0 ((((C_work (nA G) (nT G) ((C_giveOutTickets (nA G) (nT G) ((C_sendHomeAgents (nA G) (nT G) v r).1) ((C_sendHomeAgents (nA G) (nT G) v r).2)).1) ((C_giveOutTickets (nA G) (nT G) ((C_sendHomeAgents (nA G) (nT G) v r).1) ((C_sendHomeAgents (nA G) (nT G) v r).2)).2)).2.1) 0 0) + 1), (C_work (nA G) (nT G) ((C_giveOutTickets (nA G) (nT G) ((C_sendHomeAgents (nA G) (nT G) v r).1) ((C_sendHomeAgents (nA G) (nT G) v r).2)).1) ((C_giveOutTickets (nA G) (nT G) ((C_sendHomeAgents (nA G) (nT G) v r).1) ((C_sendHomeAgents (nA G) (nT G) v r).2)).2)).2.2) := by rw [C_passMinute, if_neg h19]
    exact j_iret F hR dX3_passMinute_42 (Nat.le_of_ble_eq_true rfl) (Nat.le_of_ble_eq_true rfl) ⟨by rw [hz], by rw [hz]⟩
  · refine j_aloadn F dX3_passMinute_22 rfl ?_
    refine j_dmV F hR.1 (qX3_ageTickets (kl k) hst (kD k) G ((C_giveOutTickets (nA G) (nT G) ((C_sendHomeAgents (nA G) (nT G) v r).1) ((C_sendHomeAgents (nA G) (nT G) v r).2)).1) ((C_giveOutTickets (nA G) (nT G) ((C_sendHomeAgents (nA G) (nT G) v r).1) ((C_sendHomeAgents (nA G) (nT G) v r).2)).2) hG) lk_X3_265 dX3_passMinute_23 ⟨(Nat.le_of_ble_eq_true rfl), (Nat.le_of_ble_eq_true rfl)⟩ 0 rfl rfl rfl (Nat.le_of_ble_eq_true rfl) ⟨(Nat.le_of_ble_eq_true rfl), (Nat.le_of_ble_eq_true rfl)⟩ rfl ?_
    refine j_aloadn F dX3_passMinute_26 rfl ?_
    refine j_dmV F hR.1 (qX3_work (kl k) hst (kD k) G ((C_ageTickets (nA G) (nT G) ((C_giveOutTickets (nA G) (nT G) ((C_sendHomeAgents (nA G) (nT G) v r).1) ((C_sendHomeAgents (nA G) (nT G) v r).2)).1) ((C_giveOutTickets (nA G) (nT G) ((C_sendHomeAgents (nA G) (nT G) v r).1) ((C_sendHomeAgents (nA G) (nT G) v r).2)).2)).1) ((C_ageTickets (nA G) (nT G) ((C_giveOutTickets (nA G) (nT G) ((C_sendHomeAgents (nA G) (nT G) v r).1) ((C_sendHomeAgents (nA G) (nT G) v r).2)).1) ((C_giveOutTickets (nA G) (nT G) ((C_sendHomeAgents (nA G) (nT G) v r).1) ((C_sendHomeAgents (nA G) (nT G) v r).2)).2)).2) hG ((CI_age (CI_out (CI_home hC))))) lk_X3_268 dX3_passMinute_27 ⟨(Nat.le_of_ble_eq_true rfl), (Nat.le_of_ble_eq_true rfl)⟩ 0 rfl rfl rfl (Nat.le_of_ble_eq_true rfl) ⟨(Nat.le_of_ble_eq_true rfl), (Nat.le_of_ble_eq_true rfl)⟩ rfl ?_
    refine j_istoren F [some (.ref (G.1 0 0)), some (.int ((C_work (nA G) (nT G) ((C_ageTickets (nA G) (nT G) ((C_giveOutTickets (nA G) (nT G) ((C_sendHomeAgents (nA G) (nT G) v r).1) ((C_sendHomeAgents (nA G) (nT G) v r).2)).1) ((C_giveOutTickets (nA G) (nT G) ((C_sendHomeAgents (nA G) (nT G) v r).1) ((C_sendHomeAgents (nA G) (nT G) v r).2)).2)).1) ((C_ageTickets (nA G) (nT G) ((C_giveOutTickets (nA G) (nT G) ((C_sendHomeAgents (nA G) (nT G) v r).1) ((C_sendHomeAgents (nA G) (nT G) v r).2)).1) ((C_giveOutTickets (nA G) (nT G) ((C_sendHomeAgents (nA G) (nT G) v r).1) ((C_sendHomeAgents (nA G) (nT G) v r).2)).2)).2)).1))] dX3_passMinute_30 rfl rfl rfl ?_
    refine j_aloadn F dX3_passMinute_31 rfl ?_
    refine j_dup F dX3_passMinute_32 rfl ?_
    refine gf_X3_33 F (v := .int (((C_work (nA G) (nT G) ((C_ageTickets (nA G) (nT G) ((C_giveOutTickets (nA G) (nT G) ((C_sendHomeAgents (nA G) (nT G) v r).1) ((C_sendHomeAgents (nA G) (nT G) v r).2)).1) ((C_giveOutTickets (nA G) (nT G) ((C_sendHomeAgents (nA G) (nT G) v r).1) ((C_sendHomeAgents (nA G) (nT G) v r).2)).2)).1) ((C_ageTickets (nA G) (nT G) ((C_giveOutTickets (nA G) (nT G) ((C_sendHomeAgents (nA G) (nT G) v r).1) ((C_sendHomeAgents (nA G) (nT G) v r).2)).1) ((C_giveOutTickets (nA G) (nT G) ((C_sendHomeAgents (nA G) (nT G) v r).1) ((C_sendHomeAgents (nA G) (nT G) v r).2)).2)).2)).2.1) 0 0)) dX3_passMinute_33 0 rfl rfl ?_
    refine j_iconst F (v := 1) dX3_passMinute_36 (by decide) ?_
    refine j_iadd F dX3_passMinute_37 ?_
    refine pf_X3_33 F hR.1 dX3_passMinute_38 rfl rfl 0 rfl (Nat.le_of_ble_eq_true rfl) (CW (kD k) G (u2 ((C_work (nA G) (nT G) ((C_ageTickets (nA G) (nT G) ((C_giveOutTickets (nA G) (nT G) ((C_sendHomeAgents (nA G) (nT G) v r).1) ((C_sendHomeAgents (nA G) (nT G) v r).2)).1) ((C_giveOutTickets (nA G) (nT G) ((C_sendHomeAgents (nA G) (nT G) v r).1) ((C_sendHomeAgents (nA G) (nT G) v r).2)).2)).1) ((C_ageTickets (nA G) (nT G) ((C_giveOutTickets (nA G) (nT G) ((C_sendHomeAgents (nA G) (nT G) v r).1) ((C_sendHomeAgents (nA G) (nT G) v r).2)).1) ((C_giveOutTickets (nA G) (nT G) ((C_sendHomeAgents (nA G) (nT G) v r).1) ((C_sendHomeAgents (nA G) (nT G) v r).2)).2)).2)).2.1) 0 0 ((((C_work (nA G) (nT G) ((C_ageTickets (nA G) (nT G) ((C_giveOutTickets (nA G) (nT G) ((C_sendHomeAgents (nA G) (nT G) v r).1) ((C_sendHomeAgents (nA G) (nT G) v r).2)).1) ((C_giveOutTickets (nA G) (nT G) ((C_sendHomeAgents (nA G) (nT G) v r).1) ((C_sendHomeAgents (nA G) (nT G) v r).2)).2)).1) ((C_ageTickets (nA G) (nT G) ((C_giveOutTickets (nA G) (nT G) ((C_sendHomeAgents (nA G) (nT G) v r).1) ((C_sendHomeAgents (nA G) (nT G) v r).2)).1) ((C_giveOutTickets (nA G) (nT G) ((C_sendHomeAgents (nA G) (nT G) v r).1) ((C_sendHomeAgents (nA G) (nT G) v r).2)).2)).2)).2.1) 0 0) + 1)) ((C_work (nA G) (nT G) ((C_ageTickets (nA G) (nT G) ((C_giveOutTickets (nA G) (nT G) ((C_sendHomeAgents (nA G) (nT G) v r).1) ((C_sendHomeAgents (nA G) (nT G) v r).2)).1) ((C_giveOutTickets (nA G) (nT G) ((C_sendHomeAgents (nA G) (nT G) v r).1) ((C_sendHomeAgents (nA G) (nT G) v r).2)).2)).1) ((C_ageTickets (nA G) (nT G) ((C_giveOutTickets (nA G) (nT G) ((C_sendHomeAgents (nA G) (nT G) v r).1) ((C_sendHomeAgents (nA G) (nT G) v r).2)).1) ((C_giveOutTickets (nA G) (nT G) ((C_sendHomeAgents (nA G) (nT G) v r).1) ((C_sendHomeAgents (nA G) (nT G) v r).2)).2)).2)).2.2)) cs_0 ?_
    refine j_iloadn F dX3_passMinute_41 rfl ?_
    have hz : C_passMinute (nA G) (nT G) v r = ((C_work (nA G) (nT G) ((C_ageTickets (nA G) (nT G) ((C_giveOutTickets (nA G) (nT G) ((C_sendHomeAgents (nA G) (nT G) v r).1) ((C_sendHomeAgents (nA G) (nT G) v r).2)).1) ((C_giveOutTickets (nA G) (nT G) ((C_sendHomeAgents (nA G) (nT G) v r).1) ((C_sendHomeAgents (nA G) (nT G) v r).2)).2)).1) ((C_ageTickets (nA G) (nT G) ((C_giveOutTickets (nA G) (nT G) ((C_sendHomeAgents (nA G) (nT G) v r).1) ((C_sendHomeAgents (nA G) (nT G) v r).2)).1) ((C_giveOutTickets (nA G) (nT G) ((C_sendHomeAgents (nA G) (nT G) v r).1) ((C_sendHomeAgents (nA G) (nT G) v r).2)).2)).2)).1, u2 ((C_work (nA G) (nT G) ((C_ageTickets (nA G) (nT G) ((C_giveOutTickets (nA G) (nT G) ((C_sendHomeAgents (nA G) (nT G) v r).1) ((C_sendHomeAgents (nA G) (nT G) v r).2)).1) ((C_giveOutTickets (nA G) (nT G) ((C_sendHomeAgents (nA G) (nT G) v r).1) ((C_sendHomeAgents (nA G) (nT G) v r).2)).2)).1) ((C_ageTickets (nA G) (nT G) ((C_giveOutTickets (nA G) (nT G) ((C_sendHomeAgents (nA G) (nT G) v r).1) ((C_sendHomeAgents (nA G) (nT G) v r).2)).1) ((C_giveOutTickets (nA G) (nT G) ((C_sendHomeAgents (nA G) (nT G) v r).1) ((C_sendHomeAgents (nA G) (nT G) v r).2)).2)).2)).2.1) 0 0 ((((C_work (nA G) (nT G) ((C_ageTickets (nA G) (nT G) ((C_giveOutTickets (nA G) (nT G) ((C_sendHomeAgents (nA G) (nT G) v r).1) ((C_sendHomeAgents (nA G) (nT G) v r).2)).1) ((C_giveOutTickets (nA G) (nT G) ((C_sendHomeAgents (nA G) (nT G) v r).1) ((C_sendHomeAgents (nA G) (nT G) v r).2)).2)).1) ((C_ageTickets (nA G) (nT G) ((C_giveOutTickets (nA G) (nT G) ((C_sendHomeAgents (nA G) (nT G) v r).1) ((C_sendHomeAgents (nA G) (nT G) v r).2)).1) ((C_giveOutTickets (nA G) (nT G) ((C_sendHomeAgents (nA G) (nT G) v r).1) ((C_sendHomeAgents (nA G) (nT G) v r).2)).2)).2)).2.1) 0 0) + 1), (C_work (nA G) (nT G) ((C_ageTickets (nA G) (nT G) ((C_giveOutTickets (nA G) (nT G) ((C_sendHomeAgents (nA G) (nT G) v r).1) ((C_sendHomeAgents (nA G) (nT G) v r).2)).1) ((C_giveOutTickets (nA G) (nT G) ((C_sendHomeAgents (nA G) (nT G) v r).1) ((C_sendHomeAgents (nA G) (nT G) v r).2)).2)).1) ((C_ageTickets (nA G) (nT G) ((C_giveOutTickets (nA G) (nT G) ((C_sendHomeAgents (nA G) (nT G) v r).1) ((C_sendHomeAgents (nA G) (nT G) v r).2)).1) ((C_giveOutTickets (nA G) (nT G) ((C_sendHomeAgents (nA G) (nT G) v r).1) ((C_sendHomeAgents (nA G) (nT G) v r).2)).2)).2)).2.2) := by rw [C_passMinute, if_pos h19]
    exact j_iret F hR dX3_passMinute_42 (Nat.le_of_ble_eq_true rfl) (Nat.le_of_ble_eq_true rfl) ⟨by rw [hz], by rw [hz]⟩
theorem CI_pm {G : CG} {v : S2} {r : R2} (h : CI G v r) : CI G (C_passMinute (nA G) (nT G) v r).2.1 (C_passMinute (nA G) (nT G) v r).2.2 := by
  unfold C_passMinute
  split
  · exact CI_v (by decide) (CI_work (CI_age (CI_out (CI_home h))))
  · exact CI_v (by decide) (CI_work (CI_out (CI_home h)))
theorem p_nI {x : Int32} (h1 : ¬ x < 1) (h2 : x ≤ 600) : x = nI (ix x) ∧ ix x ≤ 600 := by
  have e1 : (1 : Int32).toInt = 1 := by decide
  have e2 : (600 : Int32).toInt = 600 := by decide
  rw [Int32.lt_iff_toInt_lt, e1] at h1
  rw [Int32.le_iff_toInt_le, e2] at h2
  have h : vp_in x 601 := vp_in_iff.mpr ⟨by omega, by omega⟩
  exact ⟨in_nI h, by have := vp_lt h; omega⟩
def C_passLB (na : Nat) (nt : Nat) (v : S2) (r : R2) (i : Nat) (s : Int32) (x : S2) (y : R2) : Int32 × S2 × R2 := (s + ((C_passMinute na nt x y).1), (C_passMinute na nt x y).2.1, (C_passMinute na nt x y).2.2)
def C_passL (na : Nat) (nt : Nat) (v : S2) (r : R2) : Nat → Int32 × S2 × R2
  | 0 => (0, v, r)
  | n + 1 => C_passLB na nt v r n ((C_passL na nt v r n)).1 ((C_passL na nt v r n)).2.1 ((C_passL na nt v r n)).2.2
theorem C_passL_s (na : Nat) (nt : Nat) (v : S2) (r : R2) (n : Nat) : C_passL na nt v r (n + 1) = C_passLB na nt v r n ((C_passL na nt v r n)).1 ((C_passL na nt v r n)).2.1 ((C_passL na nt v r n)).2.2 := rfl
def C_pass (na nt : Nat) (v : S2) (r : R2) (p0 : Int32) : Nat × Int32 × S2 × R2 := if p0 < 1 then (1, 0, v, r) else if p0 ≤ 600 then (if p0 ≤ (99999 - (v 0 0)) then (0, (C_passL na nt v r (ix p0)).1, (C_passL na nt v r (ix p0)).2.1, (C_passL na nt v r (ix p0)).2.2) else (3, 0, v, r)) else (1, 0, v, r)
set_option maxHeartbeats 4000000 in
set_option maxRecDepth 100000 in
theorem qX3_pass (l : Launch) (hst : l.stackTraces = false) (D : va_G) (G : CG) (v : S2) (r : R2) (p0 : Int32) (hG : GI D G) (hC : CI G v r) : CX l D yX3_pass cX3_pass 4 (some .int) 6 132 1 6 (CW D G v r) [.ref (G.1 0 0), .int p0] (fun u w => (C_pass (nA G) (nT G) v r p0).1 = 0 ∧ u = some (.int ((C_pass (nA G) (nT G) v r p0).2.1)) ∧ w = CW D G (C_pass (nA G) (nT G) v r p0).2.2.1 (C_pass (nA G) (nT G) v r p0).2.2.2) (fun E => (C_pass (nA G) (nT G) v r p0).1 ≠ 0 ∧ E = xE (C_pass (nA G) (nT G) v r p0).1) := by
  refine CX_of [some (.ref (G.1 0 0)), some (.int p0), none, none] hst (by decide +kernel) rfl (Nat.le_of_ble_eq_true rfl) (fun k F hl hD hR hX hNT => ?_)
  subst hl hD
  refine j_iloadn F dX3_pass_0 rfl ?_
  refine j_iconst F (v := 1) dX3_pass_1 (by decide) ?_
  refine j_iclt F (tgt := 12) dX3_pass_2 (by decide) (fun h2 => ?_) (fun h2 => ?_)
  · have hz : C_pass (nA G) (nT G) v r p0 = (1, 0, v, r) := by rw [C_pass, if_pos h2]
    exact j_throw F hX hNT lt_eA (text := "no such number of minutes") (by decide +kernel) ⟨by rw [hz]; exact (Nat.succ_ne_zero _), by rw [hz]; rfl⟩ dX3_pass_12 dX3_pass_15 dX3_pass_16 dX3_pass_18 dX3_pass_21 ⟨(Nat.le_of_ble_eq_true rfl), (Nat.le_of_ble_eq_true rfl), (Nat.le_of_ble_eq_true rfl), (Nat.le_of_ble_eq_true rfl)⟩ (Nat.le_of_ble_eq_true rfl) (Nat.le_of_ble_eq_true rfl)
  · refine j_iloadn F dX3_pass_5 rfl ?_
    refine j_sipush F (v := 600) dX3_pass_6 (by decide) ?_
    refine j_icle F (tgt := 22) dX3_pass_9 (by decide) (fun h9 => ?_) (fun h9 => ?_)
    · refine j_iloadn F dX3_pass_22 rfl ?_
      refine j_ldc F uc_X3_65 dX3_pass_23 ?_
      refine j_aloadn F dX3_pass_25 rfl ?_
      refine gf_X3_33 F (v := .int (v 0 0)) dX3_pass_26 0 rfl rfl ?_
      refine j_isub F dX3_pass_29 ?_
      refine j_icle F (tgt := 43) dX3_pass_30 (by decide) (fun h30 => ?_) (fun h30 => ?_)
      · refine j_iconst F (v := 0) dX3_pass_43 (by decide) ?_
        refine j_istoren F [some (.ref (G.1 0 0)), some (.int p0), some (.int 0), none] dX3_pass_44 rfl rfl rfl ?_
        refine j_iconst F (v := 0) dX3_pass_45 (by decide) ?_
        refine j_istoren F [some (.ref (G.1 0 0)), some (.int p0), some (.int 0), some (.int 0)] dX3_pass_46 rfl rfl rfl ?_
        have ep := p_nI h2 h9
        have ep2 := ep.2
        refine (show ∀ (fuel i : Nat) (s : Int32) (x : S2) (y : R2), (ix p0) - i < fuel → i ≤ (ix p0) → s = (C_passL (nA G) (nT G) v r i).1 → x = (C_passL (nA G) (nT G) v r i).2.1 → y = (C_passL (nA G) (nT G) v r i).2.2 → CI G x y →  J k (CW (kD k) G x y) 0 0 47 [some (.ref (G.1 0 0)), some (.int p0), some (.int s), some (.int (nI i))] [] from ?_) ((ix p0) + 1) 0 0 v r (by omega) (Nat.zero_le _) rfl rfl rfl hC
        intro fu47
        induction fu47 with
        | zero => intro i s x y hm; exact absurd hm (Nat.not_lt_zero _)
        | succ fu47 ih47 =>
          intro i s x y hm47 hi47 hc_s hc_x hc_y hM
          refine j_iloadn F dX3_pass_47 rfl ?_
          refine j_iloadn F dX3_pass_48 rfl ?_
          refine j_icgeE F (x := i) (y := (ix p0)) ep.1 (tgt := 65) dX3_pass_49 (by decide) ⟨by omega, by omega⟩ (fun h49 => ?_) (fun h49 => ?_)
          · obtain rfl : i = (ix p0) := by omega
            subst hc_s
            subst hc_x
            subst hc_y
            refine j_iloadn F dX3_pass_65 rfl ?_
            have hz : C_pass (nA G) (nT G) v r p0 = (0, (C_passL (nA G) (nT G) v r (ix p0)).1, (C_passL (nA G) (nT G) v r (ix p0)).2.1, (C_passL (nA G) (nT G) v r (ix p0)).2.2) := by rw [C_pass, if_neg h2, if_pos h9, if_pos h30]
            exact j_iret F hR dX3_pass_66 (Nat.le_of_ble_eq_true rfl) (Nat.le_of_ble_eq_true rfl) ⟨by rw [hz], by rw [hz], by rw [hz]⟩
          · refine j_iloadn F dX3_pass_52 rfl ?_
            refine j_aloadn F dX3_pass_53 rfl ?_
            refine j_dmV F hR.1 (qX3_passMinute (kl k) hst (kD k) G x y hG hM) lk_X3_226 dX3_pass_54 ⟨(Nat.le_of_ble_eq_true rfl), (Nat.le_of_ble_eq_true rfl)⟩ 0 rfl rfl rfl (Nat.le_of_ble_eq_true rfl) ⟨(Nat.le_of_ble_eq_true rfl), (Nat.le_of_ble_eq_true rfl)⟩ rfl ?_
            refine j_iadd F dX3_pass_57 ?_
            refine j_istoren F [some (.ref (G.1 0 0)), some (.int p0), some (.int (s + ((C_passMinute (nA G) (nT G) x y).1))), some (.int (nI i))] dX3_pass_58 rfl rfl rfl ?_
            refine j_iincN F [some (.ref (G.1 0 0)), some (.int p0), some (.int (s + ((C_passMinute (nA G) (nT G) x y).1))), some (.int (nI (i + 1)))] dX3_pass_59 rfl rfl rfl rfl ?_
            refine j_goto F (tgt := 47) dX3_pass_62 (by decide) ?_
            exact ih47 (i + 1) (s + ((C_passMinute (nA G) (nT G) x y).1)) ((C_passMinute (nA G) (nT G) x y).2.1) ((C_passMinute (nA G) (nT G) x y).2.2) (by omega) (by omega) (by rw [C_passL_s, ← hc_s, ← hc_x, ← hc_y, C_passLB]) (by rw [C_passL_s, ← hc_s, ← hc_x, ← hc_y, C_passLB]) (by rw [C_passL_s, ← hc_s, ← hc_x, ← hc_y, C_passLB]) ((CI_pm hM))
      · have hz : C_pass (nA G) (nT G) v r p0 = (3, 0, v, r) := by rw [C_pass, if_neg h2, if_pos h9, if_neg h30]
        exact j_throw F hX hNT lt_eS (text := "it would be later than the last minute") (by decide +kernel) ⟨by rw [hz]; exact (Nat.succ_ne_zero _), by rw [hz]; rfl⟩ dX3_pass_33 dX3_pass_36 dX3_pass_37 dX3_pass_39 dX3_pass_42 ⟨(Nat.le_of_ble_eq_true rfl), (Nat.le_of_ble_eq_true rfl), (Nat.le_of_ble_eq_true rfl), (Nat.le_of_ble_eq_true rfl)⟩ (Nat.le_of_ble_eq_true rfl) (Nat.le_of_ble_eq_true rfl)
    · have hz : C_pass (nA G) (nT G) v r p0 = (1, 0, v, r) := by rw [C_pass, if_neg h2, if_neg h9]
      exact j_throw F hX hNT lt_eA (text := "no such number of minutes") (by decide +kernel) ⟨by rw [hz]; exact (Nat.succ_ne_zero _), by rw [hz]; rfl⟩ dX3_pass_12 dX3_pass_15 dX3_pass_16 dX3_pass_18 dX3_pass_21 ⟨(Nat.le_of_ble_eq_true rfl), (Nat.le_of_ble_eq_true rfl), (Nat.le_of_ble_eq_true rfl), (Nat.le_of_ble_eq_true rfl)⟩ (Nat.le_of_ble_eq_true rfl) (Nat.le_of_ble_eq_true rfl)
def C_allLB (na : Nat) (nt : Nat) (v : S2) (r : R2) (p0 : Int32) (i : Nat) (x : Int32) : Int32 := if (v 24 i) = p0 then x ||| (1 <<< ((nI i) &&& 31)) else x
def C_allL (na : Nat) (nt : Nat) (v : S2) (r : R2) (p0 : Int32) : Nat → Int32
  | 0 => 0
  | n + 1 => C_allLB na nt v r p0 n (C_allL na nt v r p0 n)
theorem C_allL_s (na : Nat) (nt : Nat) (v : S2) (r : R2) (p0 : Int32) (n : Nat) : C_allL na nt v r p0 (n + 1) = C_allLB na nt v r p0 n (C_allL na nt v r p0 n) := rfl
def C_all (na nt : Nat) (v : S2) (r : R2) (p0 : Int32) : Nat × Int32 × S2 × R2 := if p0 < 0 then (2, 0, v, r) else if p0 ≤ 4 then (0, C_allL na nt v r p0 nt, v, r) else (2, 0, v, r)
set_option maxHeartbeats 4000000 in
set_option maxRecDepth 100000 in
theorem qX3_all (l : Launch) (hst : l.stackTraces = false) (D : va_G) (G : CG) (v : S2) (r : R2) (p0 : Int32) (hG : GI D G) : CX l D yX3_all cX3_all 4 (some .int) 6 90 1 6 (CW D G v r) [.ref (G.1 0 0), .int p0] (fun u w => (C_all (nA G) (nT G) v r p0).1 = 0 ∧ u = some (.int ((C_all (nA G) (nT G) v r p0).2.1)) ∧ w = CW D G (C_all (nA G) (nT G) v r p0).2.2.1 (C_all (nA G) (nT G) v r p0).2.2.2) (fun E => (C_all (nA G) (nT G) v r p0).1 ≠ 0 ∧ E = xE (C_all (nA G) (nT G) v r p0).1) := by
  refine CX_of [some (.ref (G.1 0 0)), some (.int p0), none, none] hst (by decide +kernel) rfl (Nat.le_of_ble_eq_true rfl) (fun k F hl hD hR hX hNT => ?_)
  subst hl hD
  have hNT0 : nT G ≤ 20 := hG.nT
  refine j_iloadn F dX3_all_0 rfl ?_
  refine j_iflt F (tgt := 9) dX3_all_1 (by decide) (fun h1 => ?_) (fun h1 => ?_)
  · have hz : C_all (nA G) (nT G) v r p0 = (2, 0, v, r) := by rw [C_all, if_pos h1]
    exact j_throw F hX hNT lt_eI (text := "no such state") (by decide +kernel) ⟨by rw [hz]; exact (Nat.succ_ne_zero _), by rw [hz]; rfl⟩ dX3_all_9 dX3_all_12 dX3_all_13 dX3_all_15 dX3_all_18 ⟨(Nat.le_of_ble_eq_true rfl), (Nat.le_of_ble_eq_true rfl), (Nat.le_of_ble_eq_true rfl), (Nat.le_of_ble_eq_true rfl)⟩ (Nat.le_of_ble_eq_true rfl) (Nat.le_of_ble_eq_true rfl)
  · refine j_iloadn F dX3_all_4 rfl ?_
    refine j_iconst F (v := 4) dX3_all_5 (by decide) ?_
    refine j_icle F (tgt := 19) dX3_all_6 (by decide) (fun h6 => ?_) (fun h6 => ?_)
    · refine j_iconst F (v := 0) dX3_all_19 (by decide) ?_
      refine j_istoren F [some (.ref (G.1 0 0)), some (.int p0), some (.int 0), none] dX3_all_20 rfl rfl rfl ?_
      refine j_iconst F (v := 0) dX3_all_21 (by decide) ?_
      refine j_istoren F [some (.ref (G.1 0 0)), some (.int p0), some (.int 0), some (.int 0)] dX3_all_22 rfl rfl rfl ?_
      refine (show ∀ (fuel i : Nat) (x : Int32), (nT G) - i < fuel → i ≤ (nT G) → x = C_allL (nA G) (nT G) v r p0 i →  J k (CW (kD k) G v r) 0 0 23 [some (.ref (G.1 0 0)), some (.int p0), some (.int x), some (.int (nI i))] [] from ?_) ((nT G) + 1) 0 0 (by omega) (Nat.zero_le _) rfl 
      intro fu23
      induction fu23 with
      | zero => intro i x hm; exact absurd hm (Nat.not_lt_zero _)
      | succ fu23 ih23 =>
        intro i x hm23 hi23 hc_x 
        refine j_iloadn F dX3_all_23 rfl ?_
        refine j_aloadn F dX3_all_24 rfl ?_
        refine gf_X3_30 F (v := .ref (G.1 0 5)) dX3_all_25 0 rfl rfl ?_
        refine j_sizeT F lk_X3_77 dX3_all_28 ⟨(Nat.le_of_ble_eq_true rfl), (Nat.le_of_ble_eq_true rfl)⟩ (Nat.le_of_ble_eq_true rfl) ⟨(Nat.le_of_ble_eq_true rfl), (Nat.le_of_ble_eq_true rfl)⟩ hst ?_
        refine j_icgeN F (x := i) (y := (nT G)) (tgt := 64) dX3_all_31 (by decide) ⟨by omega, by omega⟩ (fun h31 => ?_) (fun h31 => ?_)
        · obtain rfl : i = (nT G) := by omega
          subst hc_x
          refine j_iloadn F dX3_all_64 rfl ?_
          have hz : C_all (nA G) (nT G) v r p0 = (0, C_allL (nA G) (nT G) v r p0 (nT G), v, r) := by rw [C_all, if_neg h1, if_pos h6]
          exact j_iret F hR dX3_all_65 (Nat.le_of_ble_eq_true rfl) (Nat.le_of_ble_eq_true rfl) ⟨by rw [hz], by rw [hz], by rw [hz]⟩
        · refine j_aloadn F dX3_all_34 rfl ?_
          refine gf_X3_30 F (v := .ref (G.1 0 5)) dX3_all_35 0 rfl rfl ?_
          refine j_iloadn F dX3_all_38 rfl ?_
          refine j_getTN F hG h31 lk_X3_231 dX3_all_39 ⟨(Nat.le_of_ble_eq_true rfl), (Nat.le_of_ble_eq_true rfl)⟩ (Nat.le_of_ble_eq_true rfl) ⟨(Nat.le_of_ble_eq_true rfl), (Nat.le_of_ble_eq_true rfl)⟩ hst ?_
          refine j_cast F ul_X3_112 dX3_all_42 (4 + nA G + i) (cg_T h31) rfl ?_
          refine gf_X3_147 F (v := .int (v 24 i)) dX3_all_45 (4 + nA G + i) (cg_T h31) rfl ?_
          refine j_iloadn F dX3_all_48 rfl ?_
          refine j_icne F (tgt := 58) dX3_all_49 (by decide) (fun h49 => ?_) (fun h49 => ?_)
          · refine j_iincN F [some (.ref (G.1 0 0)), some (.int p0), some (.int x), some (.int (nI (i + 1)))] dX3_all_58 rfl rfl rfl rfl ?_
            refine j_goto F (tgt := 23) dX3_all_61 (by decide) ?_
            exact ih23 (i + 1) x (by omega) (by omega) (by rw [C_allL_s, ← hc_x, C_allLB, if_neg h49]) 
          · refine j_iloadn F dX3_all_52 rfl ?_
            refine j_iconst F (v := 1) dX3_all_53 (by decide) ?_
            refine j_iloadn F dX3_all_54 rfl ?_
            refine j_ishl F dX3_all_55 ?_
            refine j_ior F dX3_all_56 ?_
            refine j_istoren F [some (.ref (G.1 0 0)), some (.int p0), some (.int (x ||| (1 <<< ((nI i) &&& 31)))), some (.int (nI i))] dX3_all_57 rfl rfl rfl ?_
            refine j_iincN F [some (.ref (G.1 0 0)), some (.int p0), some (.int (x ||| (1 <<< ((nI i) &&& 31)))), some (.int (nI (i + 1)))] dX3_all_58 rfl rfl rfl rfl ?_
            refine j_goto F (tgt := 23) dX3_all_61 (by decide) ?_
            exact ih23 (i + 1) (x ||| (1 <<< ((nI i) &&& 31))) (by omega) (by omega) (by rw [C_allL_s, ← hc_x, C_allLB, if_pos h49]) 
    · have hz : C_all (nA G) (nT G) v r p0 = (2, 0, v, r) := by rw [C_all, if_neg h1, if_neg h6]
      exact j_throw F hX hNT lt_eI (text := "no such state") (by decide +kernel) ⟨by rw [hz]; exact (Nat.succ_ne_zero _), by rw [hz]; rfl⟩ dX3_all_9 dX3_all_12 dX3_all_13 dX3_all_15 dX3_all_18 ⟨(Nat.le_of_ble_eq_true rfl), (Nat.le_of_ble_eq_true rfl), (Nat.le_of_ble_eq_true rfl), (Nat.le_of_ble_eq_true rfl)⟩ (Nat.le_of_ble_eq_true rfl) (Nat.le_of_ble_eq_true rfl)
def C_brokenLB (na : Nat) (nt : Nat) (v : S2) (r : R2) (p0 : Bool) (i : Nat) (x : Int32) : Int32 := if p0 = true then (if (C_breaksAnswer na nt v r i) = true then x ||| (1 <<< ((nI i) &&& 31)) else x) else if (C_breaksSolution na nt v r i) = true then x ||| (1 <<< ((nI i) &&& 31)) else x
def C_brokenL (na : Nat) (nt : Nat) (v : S2) (r : R2) (p0 : Bool) : Nat → Int32
  | 0 => 0
  | n + 1 => C_brokenLB na nt v r p0 n (C_brokenL na nt v r p0 n)
theorem C_brokenL_s (na : Nat) (nt : Nat) (v : S2) (r : R2) (p0 : Bool) (n : Nat) : C_brokenL na nt v r p0 (n + 1) = C_brokenLB na nt v r p0 n (C_brokenL na nt v r p0 n) := rfl
def C_broken (na nt : Nat) (v : S2) (r : R2) (p0 : Bool) : Int32 := C_brokenL na nt v r p0 nt
def C_lackLB (na : Nat) (nt : Nat) (v : S2) (r : R2) (i : Nat) (x : Int32) : Int32 := if (C_T_isOpen na nt v r i) = true then x ||| (1 <<< ((v 21 i) &&& 31)) else x
def C_lackL (na : Nat) (nt : Nat) (v : S2) (r : R2) : Nat → Int32
  | 0 => 0
  | n + 1 => C_lackLB na nt v r n (C_lackL na nt v r n)
theorem C_lackL_s (na : Nat) (nt : Nat) (v : S2) (r : R2) (n : Nat) : C_lackL na nt v r (n + 1) = C_lackLB na nt v r n (C_lackL na nt v r n) := rfl
def C_lackMB (na : Nat) (nt : Nat) (v : S2) (r : R2) (i : Nat) (y : Int32) : Int32 := y ||| (v 14 i)
def C_lackM (na : Nat) (nt : Nat) (v : S2) (r : R2) : Nat → Int32
  | 0 => 0
  | n + 1 => C_lackMB na nt v r n (C_lackM na nt v r n)
theorem C_lackM_s (na : Nat) (nt : Nat) (v : S2) (r : R2) (n : Nat) : C_lackM na nt v r (n + 1) = C_lackMB na nt v r n (C_lackM na nt v r n) := rfl
def C_lacking (na nt : Nat) (v : S2) (r : R2) : Int32 := (C_lackL na nt v r nt) &&& ((C_lackM na nt v r na) ^^^ ((-1)))
def C_succLB (na : Nat) (nt : Nat) (v : S2) (r : R2) (i : Nat) (x : Nat) (y : Nat) : Nat × Nat := if (v 24 i) = 3 then (if (C_breaksSolution na nt v r i) = true then ((x + 1), y) else ((x + 1), (y + 1))) else (x, y)
def C_succL (na : Nat) (nt : Nat) (v : S2) (r : R2) : Nat → Nat × Nat
  | 0 => (0, 0)
  | n + 1 => C_succLB na nt v r n ((C_succL na nt v r n)).1 ((C_succL na nt v r n)).2
theorem C_succL_s (na : Nat) (nt : Nat) (v : S2) (r : R2) (n : Nat) : C_succL na nt v r (n + 1) = C_succLB na nt v r n ((C_succL na nt v r n)).1 ((C_succL na nt v r n)).2 := rfl
def C_success (na nt : Nat) (v : S2) (r : R2) : UInt64 := if (nI ((C_succL na nt v r nt).1)) = 0 then FP.dconst1 else FP.ddiv (FP.i2d (nI ((C_succL na nt v r nt).2))) (FP.i2d (nI ((C_succL na nt v r nt).1)))
def C_dALB (na : Nat) (nt : Nat) (v : S2) (r : R2) (p0 : Int64) (a1 : Nat) (i : Nat) (d : Int64) : Int64 := C_digested d (C_toldOfAgent na nt v r a1 (nI i))
def C_dAL (na : Nat) (nt : Nat) (v : S2) (r : R2) (p0 : Int64) (a1 : Nat) : Nat → Int64
  | 0 => C_digested p0 (v 14 a1)
  | n + 1 => C_dALB na nt v r p0 a1 n (C_dAL na nt v r p0 a1 n)
theorem C_dAL_s (na : Nat) (nt : Nat) (v : S2) (r : R2) (p0 : Int64) (a1 : Nat) (n : Nat) : C_dAL na nt v r p0 a1 (n + 1) = C_dALB na nt v r p0 a1 n (C_dAL na nt v r p0 a1 n) := rfl
def C_digestedAgent (na nt : Nat) (v : S2) (r : R2) (p0 : Int64) (a1 : Nat) : Int64 := C_dAL na nt v r p0 a1 4
def C_dTLB (na : Nat) (nt : Nat) (v : S2) (r : R2) (p0 : Int64) (t1 : Nat) (i : Nat) (d : Int64) : Int64 := C_digested d (C_toldOfTicket na nt v r t1 (nI i))
def C_dTL (na : Nat) (nt : Nat) (v : S2) (r : R2) (p0 : Int64) (t1 : Nat) : Nat → Int64
  | 0 => C_digested p0 (v 21 t1)
  | n + 1 => C_dTLB na nt v r p0 t1 n (C_dTL na nt v r p0 t1 n)
theorem C_dTL_s (na : Nat) (nt : Nat) (v : S2) (r : R2) (p0 : Int64) (t1 : Nat) (n : Nat) : C_dTL na nt v r p0 t1 (n + 1) = C_dTLB na nt v r p0 t1 n (C_dTL na nt v r p0 t1 n) := rfl
def C_digestedTicket (na nt : Nat) (v : S2) (r : R2) (p0 : Int64) (t1 : Nat) : Int64 := C_digested (C_digested (C_dTL na nt v r p0 t1 8) (v 20 (C_mainOf na nt v r t1))) (v 31 t1)
def C_dgPB (na : Nat) (nt : Nat) (v : S2) (r : R2) (x0 : Int64) (i : Nat) (d : Int64) : Int64 := C_digested (C_digested d (v 1 i)) (v 2 i)
def C_dgP (na : Nat) (nt : Nat) (v : S2) (r : R2) (x0 : Int64) : Nat → Int64
  | 0 => x0
  | n + 1 => C_dgPB na nt v r x0 n (C_dgP na nt v r x0 n)
theorem C_dgP_s (na : Nat) (nt : Nat) (v : S2) (r : R2) (x0 : Int64) (n : Nat) : C_dgP na nt v r x0 (n + 1) = C_dgPB na nt v r x0 n (C_dgP na nt v r x0 n) := rfl
def C_dgAB (na : Nat) (nt : Nat) (v : S2) (r : R2) (x0 : Int64) (i : Nat) (d : Int64) : Int64 := C_digestedAgent na nt v r d i
def C_dgA (na : Nat) (nt : Nat) (v : S2) (r : R2) (x0 : Int64) : Nat → Int64
  | 0 => x0
  | n + 1 => C_dgAB na nt v r x0 n (C_dgA na nt v r x0 n)
theorem C_dgA_s (na : Nat) (nt : Nat) (v : S2) (r : R2) (x0 : Int64) (n : Nat) : C_dgA na nt v r x0 (n + 1) = C_dgAB na nt v r x0 n (C_dgA na nt v r x0 n) := rfl
def C_dgTB (na : Nat) (nt : Nat) (v : S2) (r : R2) (x0 : Int64) (i : Nat) (d : Int64) : Int64 := C_digestedTicket na nt v r d i
def C_dgT (na : Nat) (nt : Nat) (v : S2) (r : R2) (x0 : Int64) : Nat → Int64
  | 0 => x0
  | n + 1 => C_dgTB na nt v r x0 n (C_dgT na nt v r x0 n)
theorem C_dgT_s (na : Nat) (nt : Nat) (v : S2) (r : R2) (x0 : Int64) (n : Nat) : C_dgT na nt v r x0 (n + 1) = C_dgTB na nt v r x0 n (C_dgT na nt v r x0 n) := rfl
def C_digest (na nt : Nat) (v : S2) (r : R2) : Int64 := C_dgT na nt v r (C_digested (C_dgA na nt v r (C_digested (C_dgP na nt v r (C_digested (C_digested (C_digested 193 (v 0 0)) (v 0 1)) (v 0 2)) 4) (nI na)) na) (nI nt)) nt
end
section
/-! THE CLASS'S METHODS that the law calls, save those that make a thing -/
theorem sv0 {p0 p1 : Int32} (h1 : ¬ p0 < 0) (h6 : ¬ p1 < p0) (h12 : p1 ≤ 99999) : vp_in p0 100001 := by
  have e : (99999 : Int32).toInt = 99999 := by decide
  have e0 : (0 : Int32).toInt = 0 := by decide
  rw [Int32.lt_iff_toInt_lt, e0] at h1
  rw [Int32.lt_iff_toInt_lt] at h6
  rw [Int32.le_iff_toInt_le, e] at h12
  exact vp_in_iff.mpr ⟨by omega, by omega⟩
theorem sv1 {p0 p1 : Int32} (h1 : ¬ p0 < 0) (h6 : ¬ p1 < p0) (h12 : p1 ≤ 99999) : vp_in p1 100001 := by
  have e : (99999 : Int32).toInt = 99999 := by decide
  have e0 : (0 : Int32).toInt = 0 := by decide
  rw [Int32.lt_iff_toInt_lt, e0] at h1
  rw [Int32.lt_iff_toInt_lt] at h6
  rw [Int32.le_iff_toInt_le, e] at h12
  exact vp_in_iff.mpr ⟨by omega, by omega⟩
def C_setHours (na nt : Nat) (v : S2) (r : R2) (p0 : Int32) (p1 : Int32) : Nat × Bool × S2 × R2 := if (C_isSpanOfDay p0 p1) = true then (if p0 = (v 0 1) then (if p1 = (v 0 2) then (0, false, u2 (u2 v 0 1 p0) 0 2 p1, r) else (0, true, u2 (u2 v 0 1 p0) 0 2 p1, r)) else (0, true, u2 (u2 v 0 1 p0) 0 2 p1, r)) else (1, false, v, r)
set_option maxHeartbeats 4000000 in
set_option maxRecDepth 100000 in
theorem qX3_setHours (l : Launch) (hst : l.stackTraces = false) (D : va_G) (G : CG) (v : S2) (r : R2) (p0 : Int32) (p1 : Int32) : CX l D yX3_setHours cX3_setHours 4 (some .boolean) 6 90 1 6 (CW D G v r) [.ref (G.1 0 0), .int p0, .int p1] (fun u w => (C_setHours (nA G) (nT G) v r p0 p1).1 = 0 ∧ u = some (.int (b1 ((C_setHours (nA G) (nT G) v r p0 p1).2.1))) ∧ w = CW D G (C_setHours (nA G) (nT G) v r p0 p1).2.2.1 (C_setHours (nA G) (nT G) v r p0 p1).2.2.2) (fun E => (C_setHours (nA G) (nT G) v r p0 p1).1 ≠ 0 ∧ E = xE (C_setHours (nA G) (nT G) v r p0 p1).1) := by
  refine CX_of [some (.ref (G.1 0 0)), some (.int p0), some (.int p1), none] hst (by decide +kernel) rfl (Nat.le_of_ble_eq_true rfl) (fun k F hl hD hR hX hNT => ?_)
  subst hl hD
  refine j_iloadn F dX3_setHours_0 rfl ?_
  refine j_iloadn F dX3_setHours_1 rfl ?_
  refine j_rdS F (qX3_isSpanOfDay (kl k) hst (kD k) p0 p1) lk_X3_37 dX3_setHours_2 ⟨(Nat.le_of_ble_eq_true rfl), (Nat.le_of_ble_eq_true rfl)⟩ (fun _ h => nomatch h) rfl (Nat.le_of_ble_eq_true rfl) ⟨(Nat.le_of_ble_eq_true rfl), (Nat.le_of_ble_eq_true rfl)⟩ ?_
  refine j_ifbne F (tgt := 18) dX3_setHours_5 (by decide) (fun h5 => ?_) (fun h5 => ?_)
  · refine j_iloadn F dX3_setHours_18 rfl ?_
    refine j_aloadn F dX3_setHours_19 rfl ?_
    refine gf_X3_10 F (v := .ref (G.1 0 1)) dX3_setHours_20 0 rfl rfl ?_
    refine gf_X3_48 F (v := .int (v 0 1)) dX3_setHours_23 1 rfl rfl ?_
    refine j_icne F (tgt := 40) dX3_setHours_26 (by decide) (fun h26 => ?_) (fun h26 => ?_)
    · refine j_iconst F (v := 1) dX3_setHours_40 (by decide) ?_
      refine j_goto F (tgt := 45) dX3_setHours_41 (by decide) ?_
      refine j_istoren F [some (.ref (G.1 0 0)), some (.int p0), some (.int p1), some (.int 1)] dX3_setHours_45 rfl rfl rfl ?_
      refine j_aloadn F dX3_setHours_46 rfl ?_
      refine gf_X3_10 F (v := .ref (G.1 0 1)) dX3_setHours_47 0 rfl rfl ?_
      refine j_iloadn F dX3_setHours_50 rfl ?_
      refine pf_X3_48 F hR.1 dX3_setHours_51 rfl rfl 1 rfl (Nat.le_of_ble_eq_true rfl) (CW (kD k) G (u2 v 0 1 p0) r) cs_1 ?_
      refine j_aloadn F dX3_setHours_54 rfl ?_
      refine gf_X3_10 F (v := .ref (G.1 0 1)) dX3_setHours_55 0 rfl rfl ?_
      refine j_iloadn F dX3_setHours_58 rfl ?_
      refine pf_X3_51 F hR.1 dX3_setHours_59 rfl rfl 1 rfl (Nat.le_of_ble_eq_true rfl) (CW (kD k) G (u2 (u2 v 0 1 p0) 0 2 p1) r) cs_2 ?_
      refine j_iloadn F dX3_setHours_62 rfl ?_
      have hz : C_setHours (nA G) (nT G) v r p0 p1 = (0, true, u2 (u2 v 0 1 p0) 0 2 p1, r) := by rw [C_setHours, if_pos h5, if_neg h26]
      exact j_zret F (b := true) hR dX3_setHours_63 (Nat.le_of_ble_eq_true rfl) (Nat.le_of_ble_eq_true rfl) rfl ⟨by rw [hz], by rw [hz], by rw [hz]⟩
    · refine j_iloadn F dX3_setHours_29 rfl ?_
      refine j_aloadn F dX3_setHours_30 rfl ?_
      refine gf_X3_10 F (v := .ref (G.1 0 1)) dX3_setHours_31 0 rfl rfl ?_
      refine gf_X3_51 F (v := .int (v 0 2)) dX3_setHours_34 1 rfl rfl ?_
      refine j_iceq F (tgt := 44) dX3_setHours_37 (by decide) (fun h37 => ?_) (fun h37 => ?_)
      · refine j_iconst F (v := 0) dX3_setHours_44 (by decide) ?_
        refine j_istoren F [some (.ref (G.1 0 0)), some (.int p0), some (.int p1), some (.int 0)] dX3_setHours_45 rfl rfl rfl ?_
        refine j_aloadn F dX3_setHours_46 rfl ?_
        refine gf_X3_10 F (v := .ref (G.1 0 1)) dX3_setHours_47 0 rfl rfl ?_
        refine j_iloadn F dX3_setHours_50 rfl ?_
        refine pf_X3_48 F hR.1 dX3_setHours_51 rfl rfl 1 rfl (Nat.le_of_ble_eq_true rfl) (CW (kD k) G (u2 v 0 1 p0) r) cs_1 ?_
        refine j_aloadn F dX3_setHours_54 rfl ?_
        refine gf_X3_10 F (v := .ref (G.1 0 1)) dX3_setHours_55 0 rfl rfl ?_
        refine j_iloadn F dX3_setHours_58 rfl ?_
        refine pf_X3_51 F hR.1 dX3_setHours_59 rfl rfl 1 rfl (Nat.le_of_ble_eq_true rfl) (CW (kD k) G (u2 (u2 v 0 1 p0) 0 2 p1) r) cs_2 ?_
        refine j_iloadn F dX3_setHours_62 rfl ?_
        have hz : C_setHours (nA G) (nT G) v r p0 p1 = (0, false, u2 (u2 v 0 1 p0) 0 2 p1, r) := by rw [C_setHours, if_pos h5, if_pos h26, if_pos h37]
        exact j_zret F (b := false) hR dX3_setHours_63 (Nat.le_of_ble_eq_true rfl) (Nat.le_of_ble_eq_true rfl) rfl ⟨by rw [hz], by rw [hz], by rw [hz]⟩
      · refine j_iconst F (v := 1) dX3_setHours_40 (by decide) ?_
        refine j_goto F (tgt := 45) dX3_setHours_41 (by decide) ?_
        refine j_istoren F [some (.ref (G.1 0 0)), some (.int p0), some (.int p1), some (.int 1)] dX3_setHours_45 rfl rfl rfl ?_
        refine j_aloadn F dX3_setHours_46 rfl ?_
        refine gf_X3_10 F (v := .ref (G.1 0 1)) dX3_setHours_47 0 rfl rfl ?_
        refine j_iloadn F dX3_setHours_50 rfl ?_
        refine pf_X3_48 F hR.1 dX3_setHours_51 rfl rfl 1 rfl (Nat.le_of_ble_eq_true rfl) (CW (kD k) G (u2 v 0 1 p0) r) cs_1 ?_
        refine j_aloadn F dX3_setHours_54 rfl ?_
        refine gf_X3_10 F (v := .ref (G.1 0 1)) dX3_setHours_55 0 rfl rfl ?_
        refine j_iloadn F dX3_setHours_58 rfl ?_
        refine pf_X3_51 F hR.1 dX3_setHours_59 rfl rfl 1 rfl (Nat.le_of_ble_eq_true rfl) (CW (kD k) G (u2 (u2 v 0 1 p0) 0 2 p1) r) cs_2 ?_
        refine j_iloadn F dX3_setHours_62 rfl ?_
        have hz : C_setHours (nA G) (nT G) v r p0 p1 = (0, true, u2 (u2 v 0 1 p0) 0 2 p1, r) := by rw [C_setHours, if_pos h5, if_pos h26, if_neg h37]
        exact j_zret F (b := true) hR dX3_setHours_63 (Nat.le_of_ble_eq_true rfl) (Nat.le_of_ble_eq_true rfl) rfl ⟨by rw [hz], by rw [hz], by rw [hz]⟩
  · have hz : C_setHours (nA G) (nT G) v r p0 p1 = (1, false, v, r) := by rw [C_setHours, if_neg h5]
    exact j_throw F hX hNT lt_eA (text := "no such hours") (by decide +kernel) ⟨by rw [hz]; exact (Nat.succ_ne_zero _), by rw [hz]; rfl⟩ dX3_setHours_8 dX3_setHours_11 dX3_setHours_12 dX3_setHours_14 dX3_setHours_17 ⟨(Nat.le_of_ble_eq_true rfl), (Nat.le_of_ble_eq_true rfl), (Nat.le_of_ble_eq_true rfl), (Nat.le_of_ble_eq_true rfl)⟩ (Nat.le_of_ble_eq_true rfl) (Nat.le_of_ble_eq_true rfl)
def C_setTargets (na nt : Nat) (v : S2) (r : R2) (p0 : Int32) (p1 : Int32) (p2 : Int32) : Nat × Int32 × S2 × R2 := if (C_isPriority p0) = true then (if p1 < 1 then (1, 0, v, r) else if 9999 < p1 then (1, 0, v, r) else if p2 < p1 then (1, 0, v, r) else if p2 ≤ 9999 then (0, v 2 (ix p0), u2 (u2 v 1 (ix p0) p1) 2 (ix p0) p2, r) else (1, 0, v, r)) else (2, 0, v, r)
set_option maxHeartbeats 4000000 in
set_option maxRecDepth 100000 in
theorem qX3_setTargets (l : Launch) (hst : l.stackTraces = false) (D : va_G) (G : CG) (v : S2) (r : R2) (p0 : Int32) (p1 : Int32) (p2 : Int32) : CX l D yX3_setTargets cX3_setTargets 5 (some .int) 6 90 1 6 (CW D G v r) [.ref (G.1 0 0), .int p0, .int p1, .int p2] (fun u w => (C_setTargets (nA G) (nT G) v r p0 p1 p2).1 = 0 ∧ u = some (.int ((C_setTargets (nA G) (nT G) v r p0 p1 p2).2.1)) ∧ w = CW D G (C_setTargets (nA G) (nT G) v r p0 p1 p2).2.2.1 (C_setTargets (nA G) (nT G) v r p0 p1 p2).2.2.2) (fun E => (C_setTargets (nA G) (nT G) v r p0 p1 p2).1 ≠ 0 ∧ E = xE (C_setTargets (nA G) (nT G) v r p0 p1 p2).1) := by
  refine CX_of [some (.ref (G.1 0 0)), some (.int p0), some (.int p1), some (.int p2), none] hst (by decide +kernel) rfl (Nat.le_of_ble_eq_true rfl) (fun k F hl hD hR hX hNT => ?_)
  subst hl hD
  refine j_iloadn F dX3_setTargets_0 rfl ?_
  refine j_rdS F (qX3_isPriority (kl k) hst (kD k) p0) lk_X3_54 dX3_setTargets_1 ⟨(Nat.le_of_ble_eq_true rfl), (Nat.le_of_ble_eq_true rfl)⟩ (fun _ h => nomatch h) rfl (Nat.le_of_ble_eq_true rfl) ⟨(Nat.le_of_ble_eq_true rfl), (Nat.le_of_ble_eq_true rfl)⟩ ?_
  refine j_ifbne F (tgt := 17) dX3_setTargets_4 (by decide) (fun h4 => ?_) (fun h4 => ?_)
  · refine j_iloadn F dX3_setTargets_17 rfl ?_
    refine j_iconst F (v := 1) dX3_setTargets_18 (by decide) ?_
    refine j_iclt F (tgt := 41) dX3_setTargets_19 (by decide) (fun h19 => ?_) (fun h19 => ?_)
    · have hz : C_setTargets (nA G) (nT G) v r p0 p1 p2 = (1, 0, v, r) := by rw [C_setTargets, if_pos h4, if_pos h19]
      exact j_throw F hX hNT lt_eA (text := "no such targets") (by decide +kernel) ⟨by rw [hz]; exact (Nat.succ_ne_zero _), by rw [hz]; rfl⟩ dX3_setTargets_41 dX3_setTargets_44 dX3_setTargets_45 dX3_setTargets_47 dX3_setTargets_50 ⟨(Nat.le_of_ble_eq_true rfl), (Nat.le_of_ble_eq_true rfl), (Nat.le_of_ble_eq_true rfl), (Nat.le_of_ble_eq_true rfl)⟩ (Nat.le_of_ble_eq_true rfl) (Nat.le_of_ble_eq_true rfl)
    · refine j_iloadn F dX3_setTargets_22 rfl ?_
      refine j_sipush F (v := 9999) dX3_setTargets_23 (by decide) ?_
      refine j_icgt F (tgt := 41) dX3_setTargets_26 (by decide) (fun h26 => ?_) (fun h26 => ?_)
      · have hz : C_setTargets (nA G) (nT G) v r p0 p1 p2 = (1, 0, v, r) := by rw [C_setTargets, if_pos h4, if_neg h19, if_pos h26]
        exact j_throw F hX hNT lt_eA (text := "no such targets") (by decide +kernel) ⟨by rw [hz]; exact (Nat.succ_ne_zero _), by rw [hz]; rfl⟩ dX3_setTargets_41 dX3_setTargets_44 dX3_setTargets_45 dX3_setTargets_47 dX3_setTargets_50 ⟨(Nat.le_of_ble_eq_true rfl), (Nat.le_of_ble_eq_true rfl), (Nat.le_of_ble_eq_true rfl), (Nat.le_of_ble_eq_true rfl)⟩ (Nat.le_of_ble_eq_true rfl) (Nat.le_of_ble_eq_true rfl)
      · refine j_iloadn F dX3_setTargets_29 rfl ?_
        refine j_iloadn F dX3_setTargets_30 rfl ?_
        refine j_iclt F (tgt := 41) dX3_setTargets_31 (by decide) (fun h31 => ?_) (fun h31 => ?_)
        · have hz : C_setTargets (nA G) (nT G) v r p0 p1 p2 = (1, 0, v, r) := by rw [C_setTargets, if_pos h4, if_neg h19, if_neg h26, if_pos h31]
          exact j_throw F hX hNT lt_eA (text := "no such targets") (by decide +kernel) ⟨by rw [hz]; exact (Nat.succ_ne_zero _), by rw [hz]; rfl⟩ dX3_setTargets_41 dX3_setTargets_44 dX3_setTargets_45 dX3_setTargets_47 dX3_setTargets_50 ⟨(Nat.le_of_ble_eq_true rfl), (Nat.le_of_ble_eq_true rfl), (Nat.le_of_ble_eq_true rfl), (Nat.le_of_ble_eq_true rfl)⟩ (Nat.le_of_ble_eq_true rfl) (Nat.le_of_ble_eq_true rfl)
        · refine j_iloadn F dX3_setTargets_34 rfl ?_
          refine j_sipush F (v := 9999) dX3_setTargets_35 (by decide) ?_
          refine j_icle F (tgt := 51) dX3_setTargets_38 (by decide) (fun h38 => ?_) (fun h38 => ?_)
          · refine j_aloadn F dX3_setTargets_51 rfl ?_
            refine gf_X3_20 F (v := .ref (G.1 0 3)) dX3_setTargets_52 0 rfl rfl ?_
            refine j_iloadn F dX3_setTargets_55 rfl ?_
            refine j_iald F dX3_setTargets_56 (f := v 2) 3 rfl (C_isPriority_in h4) ?_
            refine j_istore F [some (.ref (G.1 0 0)), some (.int p0), some (.int p1), some (.int p2), some (.int (v 2 (ix p0)))] dX3_setTargets_57 rfl rfl rfl ?_
            refine j_aloadn F dX3_setTargets_59 rfl ?_
            refine gf_X3_16 F (v := .ref (G.1 0 2)) dX3_setTargets_60 0 rfl rfl ?_
            refine j_iloadn F dX3_setTargets_63 rfl ?_
            refine j_iloadn F dX3_setTargets_64 rfl ?_
            refine j_iast F hR.1 dX3_setTargets_65 2 rfl (C_isPriority_in h4) (CW (kD k) G (u2 v 1 (ix p0) p1) r) cs_an ?_
            refine j_aloadn F dX3_setTargets_66 rfl ?_
            refine gf_X3_20 F (v := .ref (G.1 0 3)) dX3_setTargets_67 0 rfl rfl ?_
            refine j_iloadn F dX3_setTargets_70 rfl ?_
            refine j_iloadn F dX3_setTargets_71 rfl ?_
            refine j_iast F hR.1 dX3_setTargets_72 3 rfl (C_isPriority_in h4) (CW (kD k) G (u2 (u2 v 1 (ix p0) p1) 2 (ix p0) p2) r) cs_so ?_
            refine j_iload F dX3_setTargets_73 rfl ?_
            have hz : C_setTargets (nA G) (nT G) v r p0 p1 p2 = (0, v 2 (ix p0), u2 (u2 v 1 (ix p0) p1) 2 (ix p0) p2, r) := by rw [C_setTargets, if_pos h4, if_neg h19, if_neg h26, if_neg h31, if_pos h38]
            exact j_iret F hR dX3_setTargets_75 (Nat.le_of_ble_eq_true rfl) (Nat.le_of_ble_eq_true rfl) ⟨by rw [hz], by rw [hz], by rw [hz]⟩
          · have hz : C_setTargets (nA G) (nT G) v r p0 p1 p2 = (1, 0, v, r) := by rw [C_setTargets, if_pos h4, if_neg h19, if_neg h26, if_neg h31, if_neg h38]
            exact j_throw F hX hNT lt_eA (text := "no such targets") (by decide +kernel) ⟨by rw [hz]; exact (Nat.succ_ne_zero _), by rw [hz]; rfl⟩ dX3_setTargets_41 dX3_setTargets_44 dX3_setTargets_45 dX3_setTargets_47 dX3_setTargets_50 ⟨(Nat.le_of_ble_eq_true rfl), (Nat.le_of_ble_eq_true rfl), (Nat.le_of_ble_eq_true rfl), (Nat.le_of_ble_eq_true rfl)⟩ (Nat.le_of_ble_eq_true rfl) (Nat.le_of_ble_eq_true rfl)
  · have hz : C_setTargets (nA G) (nT G) v r p0 p1 p2 = (2, 0, v, r) := by rw [C_setTargets, if_neg h4]
    exact j_throw F hX hNT lt_eI (text := "no such priority") (by decide +kernel) ⟨by rw [hz]; exact (Nat.succ_ne_zero _), by rw [hz]; rfl⟩ dX3_setTargets_7 dX3_setTargets_10 dX3_setTargets_11 dX3_setTargets_13 dX3_setTargets_16 ⟨(Nat.le_of_ble_eq_true rfl), (Nat.le_of_ble_eq_true rfl), (Nat.le_of_ble_eq_true rfl), (Nat.le_of_ble_eq_true rfl)⟩ (Nat.le_of_ble_eq_true rfl) (Nat.le_of_ble_eq_true rfl)
def C_now (na nt : Nat) (v : S2) (r : R2) : Int32 := v 0 0
set_option maxHeartbeats 4000000 in
set_option maxRecDepth 100000 in
theorem qX3_now (l : Launch) (hst : l.stackTraces = false) (D : va_G) (G : CG) (v : S2) (r : R2) : CR l D yX3_now cX3_now 1 (some .int) 0 0 (CW D G v r) [.ref (G.1 0 0)] (.int (C_now (nA G) (nT G) v r)) := by
  refine CR_of [some (.ref (G.1 0 0))] hst (by decide +kernel) rfl (Nat.le_of_ble_eq_true rfl) (fun k F hl hD hR => ?_)
  subst hl hD
  refine j_aloadn F dX3_now_0 rfl ?_
  refine gf_X3_33 F (v := .int (v 0 0)) dX3_now_1 0 rfl rfl ?_
  exact j_iretR F hR dX3_now_4 (congrArg Value.int (show C_now (nA G) (nT G) v r = v 0 0 from rfl))
def C_service (na nt : Nat) (v : S2) (r : R2) (p0 : Int32) (p1 : Int32) : Nat × Int32 × S2 × R2 := if p0 < 0 then (1, 0, v, r) else if p1 < p0 then (1, 0, v, r) else if p1 ≤ 99999 then (0, C_H_minutesBetween na nt v r p0 p1, v, r) else (1, 0, v, r)
set_option maxHeartbeats 4000000 in
set_option maxRecDepth 100000 in
theorem qX3_service (l : Launch) (hst : l.stackTraces = false) (D : va_G) (G : CG) (v : S2) (r : R2) (p0 : Int32) (p1 : Int32) : CX l D yX3_service cX3_service 3 (some .int) 6 90 1 6 (CW D G v r) [.ref (G.1 0 0), .int p0, .int p1] (fun u w => (C_service (nA G) (nT G) v r p0 p1).1 = 0 ∧ u = some (.int ((C_service (nA G) (nT G) v r p0 p1).2.1)) ∧ w = CW D G (C_service (nA G) (nT G) v r p0 p1).2.2.1 (C_service (nA G) (nT G) v r p0 p1).2.2.2) (fun E => (C_service (nA G) (nT G) v r p0 p1).1 ≠ 0 ∧ E = xE (C_service (nA G) (nT G) v r p0 p1).1) := by
  refine CX_of [some (.ref (G.1 0 0)), some (.int p0), some (.int p1)] hst (by decide +kernel) rfl (Nat.le_of_ble_eq_true rfl) (fun k F hl hD hR hX hNT => ?_)
  subst hl hD
  refine j_iloadn F dX3_service_0 rfl ?_
  refine j_iflt F (tgt := 15) dX3_service_1 (by decide) (fun h1 => ?_) (fun h1 => ?_)
  · have hz : C_service (nA G) (nT G) v r p0 p1 = (1, 0, v, r) := by rw [C_service, if_pos h1]
    exact j_throw F hX hNT lt_eA (text := "no such span of minutes") (by decide +kernel) ⟨by rw [hz]; exact (Nat.succ_ne_zero _), by rw [hz]; rfl⟩ dX3_service_15 dX3_service_18 dX3_service_19 dX3_service_21 dX3_service_24 ⟨(Nat.le_of_ble_eq_true rfl), (Nat.le_of_ble_eq_true rfl), (Nat.le_of_ble_eq_true rfl), (Nat.le_of_ble_eq_true rfl)⟩ (Nat.le_of_ble_eq_true rfl) (Nat.le_of_ble_eq_true rfl)
  · refine j_iloadn F dX3_service_4 rfl ?_
    refine j_iloadn F dX3_service_5 rfl ?_
    refine j_iclt F (tgt := 15) dX3_service_6 (by decide) (fun h6 => ?_) (fun h6 => ?_)
    · have hz : C_service (nA G) (nT G) v r p0 p1 = (1, 0, v, r) := by rw [C_service, if_neg h1, if_pos h6]
      exact j_throw F hX hNT lt_eA (text := "no such span of minutes") (by decide +kernel) ⟨by rw [hz]; exact (Nat.succ_ne_zero _), by rw [hz]; rfl⟩ dX3_service_15 dX3_service_18 dX3_service_19 dX3_service_21 dX3_service_24 ⟨(Nat.le_of_ble_eq_true rfl), (Nat.le_of_ble_eq_true rfl), (Nat.le_of_ble_eq_true rfl), (Nat.le_of_ble_eq_true rfl)⟩ (Nat.le_of_ble_eq_true rfl) (Nat.le_of_ble_eq_true rfl)
    · refine j_iloadn F dX3_service_9 rfl ?_
      refine j_ldc F uc_X3_65 dX3_service_10 ?_
      refine j_icle F (tgt := 25) dX3_service_12 (by decide) (fun h12 => ?_) (fun h12 => ?_)
      · refine j_aloadn F dX3_service_25 rfl ?_
        refine gf_X3_10 F (v := .ref (G.1 0 1)) dX3_service_26 0 rfl rfl ?_
        refine j_iloadn F dX3_service_29 rfl ?_
        refine j_iloadn F dX3_service_30 rfl ?_
        refine j_rdV F (qX1_minutesBetween (kl k) hst (kD k) G v r p0 p1 ((sv0 h1 h6 h12)) ((sv1 h1 h6 h12))) lk_X3_68 dX3_service_31 ⟨(Nat.le_of_ble_eq_true rfl), (Nat.le_of_ble_eq_true rfl)⟩ (fun _ h => h) 1 rfl rfl rfl (Nat.le_of_ble_eq_true rfl) ⟨(Nat.le_of_ble_eq_true rfl), (Nat.le_of_ble_eq_true rfl)⟩ ?_
        have hz : C_service (nA G) (nT G) v r p0 p1 = (0, C_H_minutesBetween (nA G) (nT G) v r p0 p1, v, r) := by rw [C_service, if_neg h1, if_neg h6, if_pos h12]
        exact j_iret F hR dX3_service_34 (Nat.le_of_ble_eq_true rfl) (Nat.le_of_ble_eq_true rfl) ⟨by rw [hz], by rw [hz], by rw [hz]⟩
      · have hz : C_service (nA G) (nT G) v r p0 p1 = (1, 0, v, r) := by rw [C_service, if_neg h1, if_neg h6, if_neg h12]
        exact j_throw F hX hNT lt_eA (text := "no such span of minutes") (by decide +kernel) ⟨by rw [hz]; exact (Nat.succ_ne_zero _), by rw [hz]; rfl⟩ dX3_service_15 dX3_service_18 dX3_service_19 dX3_service_21 dX3_service_24 ⟨(Nat.le_of_ble_eq_true rfl), (Nat.le_of_ble_eq_true rfl), (Nat.le_of_ble_eq_true rfl), (Nat.le_of_ble_eq_true rfl)⟩ (Nat.le_of_ble_eq_true rfl) (Nat.le_of_ble_eq_true rfl)
def C_setSkills (na nt : Nat) (v : S2) (r : R2) (p0 : Int32) (p1 : Int32) : Nat × Int32 × S2 × R2 := if inR p0 na = true then (if (C_isSetOfSkills p1) = true then (if r 15 (ix p0) = none then (0, v 14 (ix p0), u2 v 14 (ix p0) p1, r) else if (C_A_hasSkill na nt (u2 v 14 (ix p0) p1) r (ix p0) (v 21 (gd (r 15 (ix p0))))) = true then (0, v 14 (ix p0), u2 v 14 (ix p0) p1, r) else (0, v 14 (ix p0), (C_handBack na nt (u2 v 14 (ix p0) p1) r (gd (r 15 (ix p0)))).1, (C_handBack na nt (u2 v 14 (ix p0) p1) r (gd (r 15 (ix p0)))).2)) else (1, 0, v, r)) else (2, 0, v, r)
def C_agent (na nt : Nat) (v : S2) (r : R2) (p0 : Int32) (p1 : Int32) : Nat × Int32 × S2 × R2 := if inR p0 na = true then (if p1 < 0 then (2, 0, v, r) else if p1 < 4 then (0, C_toldOfAgent na nt v r (ix p0) p1, v, r) else (2, 0, v, r)) else (2, 0, v, r)
set_option maxHeartbeats 4000000 in
set_option maxRecDepth 100000 in
theorem qX3_agent (l : Launch) (hst : l.stackTraces = false) (D : va_G) (G : CG) (v : S2) (r : R2) (p0 : Int32) (p1 : Int32) (hG : GI D G) (hC : CI G v r) : CX l D yX3_agent cX3_agent 4 (some .int) 7 131 2 12 (CW D G v r) [.ref (G.1 0 0), .int p0, .int p1] (fun u w => (C_agent (nA G) (nT G) v r p0 p1).1 = 0 ∧ u = some (.int ((C_agent (nA G) (nT G) v r p0 p1).2.1)) ∧ w = CW D G (C_agent (nA G) (nT G) v r p0 p1).2.2.1 (C_agent (nA G) (nT G) v r p0 p1).2.2.2) (fun E => (C_agent (nA G) (nT G) v r p0 p1).1 ≠ 0 ∧ E = xE (C_agent (nA G) (nT G) v r p0 p1).1) := by
  refine CX_of [some (.ref (G.1 0 0)), some (.int p0), some (.int p1), none] hst (by decide +kernel) rfl (Nat.le_of_ble_eq_true rfl) (fun k F hl hD hR hX hNT => ?_)
  subst hl hD
  refine j_aloadn F dX3_agent_0 rfl ?_
  refine j_iloadn F dX3_agent_1 rfl ?_
  refine j_cxV0 F hR.1 (qX3_agentAt (kl k) hst (kD k) G v r p0 hG) lk_X3_98 dX3_agent_2 ⟨(Nat.le_of_ble_eq_true rfl), (Nat.le_of_ble_eq_true rfl)⟩ 0 rfl rfl rfl (Nat.le_of_ble_eq_true rfl) ⟨(Nat.le_of_ble_eq_true rfl), (Nat.le_of_ble_eq_true rfl)⟩ (fun u w1 hp => ?_) (fun E hE => ?_)
  · obtain ⟨h2, rfl, rfl⟩ := hp
    refine j_st [.ref (aA G (ix p0))] rfl ?_
    refine j_astoren F [some (.ref (G.1 0 0)), some (.int p0), some (.int p1), some (.ref (aA G (ix p0)))] dX3_agent_5 rfl rfl rfl ?_
    refine j_iloadn F dX3_agent_6 rfl ?_
    refine j_iflt F (tgt := 15) dX3_agent_7 (by decide) (fun h7 => ?_) (fun h7 => ?_)
    · have hz : C_agent (nA G) (nT G) v r p0 p1 = (2, 0, v, r) := by rw [C_agent, if_pos h2, if_pos h7]
      exact j_throw F hX hNT lt_eI (text := "no such thing is told of an agent") (by decide +kernel) ⟨by rw [hz]; exact (Nat.succ_ne_zero _), by rw [hz]; rfl⟩ dX3_agent_15 dX3_agent_18 dX3_agent_19 dX3_agent_21 dX3_agent_24 ⟨(Nat.le_of_ble_eq_true rfl), (Nat.le_of_ble_eq_true rfl), (Nat.le_of_ble_eq_true rfl), (Nat.le_of_ble_eq_true rfl)⟩ (Nat.le_of_ble_eq_true rfl) (Nat.le_of_ble_eq_true rfl)
    · refine j_iloadn F dX3_agent_10 rfl ?_
      refine j_iconst F (v := 4) dX3_agent_11 (by decide) ?_
      refine j_iclt F (tgt := 25) dX3_agent_12 (by decide) (fun h12 => ?_) (fun h12 => ?_)
      · refine j_aloadn F dX3_agent_25 rfl ?_
        refine j_aloadn F dX3_agent_26 rfl ?_
        refine j_iloadn F dX3_agent_27 rfl ?_
        refine j_rdV F (qX3_toldOfAgent (kl k) hst (kD k) G v r (ix p0) p1 hC ((vp_lt (inR_iff.mp h2)))) lk_X3_125 dX3_agent_28 ⟨(Nat.le_of_ble_eq_true rfl), (Nat.le_of_ble_eq_true rfl)⟩ (fun _ h => h) 0 rfl rfl rfl (Nat.le_of_ble_eq_true rfl) ⟨(Nat.le_of_ble_eq_true rfl), (Nat.le_of_ble_eq_true rfl)⟩ ?_
        have hz : C_agent (nA G) (nT G) v r p0 p1 = (0, C_toldOfAgent (nA G) (nT G) v r (ix p0) p1, v, r) := by rw [C_agent, if_pos h2, if_neg h7, if_pos h12]
        exact j_iret F hR dX3_agent_31 (Nat.le_of_ble_eq_true rfl) (Nat.le_of_ble_eq_true rfl) ⟨by rw [hz], by rw [hz], by rw [hz]⟩
      · have hz : C_agent (nA G) (nT G) v r p0 p1 = (2, 0, v, r) := by rw [C_agent, if_pos h2, if_neg h7, if_neg h12]
        exact j_throw F hX hNT lt_eI (text := "no such thing is told of an agent") (by decide +kernel) ⟨by rw [hz]; exact (Nat.succ_ne_zero _), by rw [hz]; rfl⟩ dX3_agent_15 dX3_agent_18 dX3_agent_19 dX3_agent_21 dX3_agent_24 ⟨(Nat.le_of_ble_eq_true rfl), (Nat.le_of_ble_eq_true rfl), (Nat.le_of_ble_eq_true rfl), (Nat.le_of_ble_eq_true rfl)⟩ (Nat.le_of_ble_eq_true rfl) (Nat.le_of_ble_eq_true rfl)
  · obtain ⟨h2, rfl⟩ := hE
    have hz : C_agent (nA G) (nT G) v r p0 p1 = (2, 0, v, r) := by rw [C_agent, if_neg h2]
    exact jx_out F hX hNT ⟨by rw [hz]; exact (Nat.succ_ne_zero _), by rw [hz]; rfl⟩ (Nat.le_of_ble_eq_true rfl) (Nat.le_of_ble_eq_true rfl)
def C_next (na nt : Nat) (v : S2) (r : R2) (p0 : Int32) : Nat × Int32 × S2 × R2 := if inR p0 na = true then (0, C_numberOfTicket na nt v r (C_firstByLiking na nt v r (ix p0)), v, r) else (2, 0, v, r)
def C_setPriority (na nt : Nat) (v : S2) (r : R2) (p0 : Int32) (p1 : Int32) : Nat × Int32 × S2 × R2 := if inR p0 nt = true then (if (C_isPriority p1) = true then (if (v 24 (ix p0)) = 4 then (3, 0, v, r) else (0, v 22 (ix p0), u2 v 22 (ix p0) p1, r)) else (1, 0, v, r)) else (2, 0, v, r)
def C_pause (na nt : Nat) (v : S2) (r : R2) (p0 : Int32) : Nat × Int32 × S2 × R2 := if inR p0 nt = true then (if (v 24 (ix p0)) = 0 then (0, (((C_takeFromHolder na nt v r (ix p0)).1) 23 (ix p0)) - (((C_takeFromHolder na nt v r (ix p0)).1) 26 (ix p0)), u2 (u2 ((C_takeFromHolder na nt v r (ix p0)).1) 24 (ix p0) 2) 29 (ix p0) (((C_takeFromHolder na nt v r (ix p0)).1) 0 0), (C_takeFromHolder na nt v r (ix p0)).2) else if (v 24 (ix p0)) = 1 then (0, (((C_takeFromHolder na nt v r (ix p0)).1) 23 (ix p0)) - (((C_takeFromHolder na nt v r (ix p0)).1) 26 (ix p0)), u2 (u2 ((C_takeFromHolder na nt v r (ix p0)).1) 24 (ix p0) 2) 29 (ix p0) (((C_takeFromHolder na nt v r (ix p0)).1) 0 0), (C_takeFromHolder na nt v r (ix p0)).2) else (3, 0, v, r)) else (2, 0, v, r)
set_option maxHeartbeats 4000000 in
set_option maxRecDepth 100000 in
theorem qX3_pause (l : Launch) (hst : l.stackTraces = false) (D : va_G) (G : CG) (v : S2) (r : R2) (p0 : Int32) (hG : GI D G) (hC : CI G v r) : CX l D yX3_pause cX3_pause 3 (some .int) 7 131 2 12 (CW D G v r) [.ref (G.1 0 0), .int p0] (fun u w => (C_pause (nA G) (nT G) v r p0).1 = 0 ∧ u = some (.int ((C_pause (nA G) (nT G) v r p0).2.1)) ∧ w = CW D G (C_pause (nA G) (nT G) v r p0).2.2.1 (C_pause (nA G) (nT G) v r p0).2.2.2) (fun E => (C_pause (nA G) (nT G) v r p0).1 ≠ 0 ∧ E = xE (C_pause (nA G) (nT G) v r p0).1) := by
  refine CX_of [some (.ref (G.1 0 0)), some (.int p0), none] hst (by decide +kernel) rfl (Nat.le_of_ble_eq_true rfl) (fun k F hl hD hR hX hNT => ?_)
  subst hl hD
  refine j_aloadn F dX3_pause_0 rfl ?_
  refine j_iloadn F dX3_pause_1 rfl ?_
  refine j_cxV0 F hR.1 (qX3_ticketAt (kl k) hst (kD k) G v r p0 hG) lk_X3_143 dX3_pause_2 ⟨(Nat.le_of_ble_eq_true rfl), (Nat.le_of_ble_eq_true rfl)⟩ 0 rfl rfl rfl (Nat.le_of_ble_eq_true rfl) ⟨(Nat.le_of_ble_eq_true rfl), (Nat.le_of_ble_eq_true rfl)⟩ (fun u w1 hp => ?_) (fun E hE => ?_)
  · obtain ⟨h2, rfl, rfl⟩ := hp
    refine j_st [.ref (aT G (ix p0))] rfl ?_
    refine j_astoren F [some (.ref (G.1 0 0)), some (.int p0), some (.ref (aT G (ix p0)))] dX3_pause_5 rfl rfl rfl ?_
    refine j_aloadn F dX3_pause_6 rfl ?_
    refine gf_X3_147 F (v := .int (v 24 (ix p0))) dX3_pause_7 (4 + nA G + (ix p0)) (cg_T (vp_lt (inR_iff.mp h2))) rfl ?_
    refine j_ifeq F (tgt := 31) dX3_pause_10 (by decide) (fun h10 => ?_) (fun h10 => ?_)
    · refine j_aloadn F dX3_pause_31 rfl ?_
      refine j_dmS F hR.1 (qX3_takeFromHolder (kl k) hst (kD k) G v r (ix p0) hC ((vp_lt (inR_iff.mp h2)))) lk_X3_157 dX3_pause_32 ⟨(Nat.le_of_ble_eq_true rfl), (Nat.le_of_ble_eq_true rfl)⟩ rfl (Nat.le_of_ble_eq_true rfl) ⟨(Nat.le_of_ble_eq_true rfl), (Nat.le_of_ble_eq_true rfl)⟩ rfl ?_
      refine j_aloadn F dX3_pause_35 rfl ?_
      refine j_iconst F (v := 2) dX3_pause_36 (by decide) ?_
      refine pf_X3_147 F hR.1 dX3_pause_37 rfl rfl (4 + nA G + (ix p0)) (cg_T (vp_lt (inR_iff.mp h2))) (Nat.le_of_ble_eq_true rfl) (CW (kD k) G (u2 ((C_takeFromHolder (nA G) (nT G) v r (ix p0)).1) 24 (ix p0) 2) ((C_takeFromHolder (nA G) (nT G) v r (ix p0)).2)) (csT_4 (vp_lt (inR_iff.mp h2))) ?_
      refine j_aloadn F dX3_pause_40 rfl ?_
      refine j_aloadn F dX3_pause_41 rfl ?_
      refine gf_X3_33 F (v := .int (((C_takeFromHolder (nA G) (nT G) v r (ix p0)).1) 0 0)) dX3_pause_42 0 rfl (dfi_5 (u2_ne1 (by decide))) ?_
      refine pf_X3_160 F hR.1 dX3_pause_45 rfl rfl (4 + nA G + (ix p0)) (cg_T (vp_lt (inR_iff.mp h2))) (Nat.le_of_ble_eq_true rfl) (CW (kD k) G (u2 (u2 ((C_takeFromHolder (nA G) (nT G) v r (ix p0)).1) 24 (ix p0) 2) 29 (ix p0) (((C_takeFromHolder (nA G) (nT G) v r (ix p0)).1) 0 0)) ((C_takeFromHolder (nA G) (nT G) v r (ix p0)).2)) (csT_9 (vp_lt (inR_iff.mp h2))) ?_
      refine j_aloadn F dX3_pause_48 rfl ?_
      refine gf_X3_163 F (v := .int (((C_takeFromHolder (nA G) (nT G) v r (ix p0)).1) 23 (ix p0))) dX3_pause_49 (4 + nA G + (ix p0)) (cg_T (vp_lt (inR_iff.mp h2))) (tfi_3 (Eq.trans (u2_ne1 (by decide)) (u2_ne1 (by decide)))) ?_
      refine j_aloadn F dX3_pause_52 rfl ?_
      refine gf_X3_166 F (v := .int (((C_takeFromHolder (nA G) (nT G) v r (ix p0)).1) 26 (ix p0))) dX3_pause_53 (4 + nA G + (ix p0)) (cg_T (vp_lt (inR_iff.mp h2))) (tfi_6 (Eq.trans (u2_ne1 (by decide)) (u2_ne1 (by decide)))) ?_
      refine j_isub F dX3_pause_56 ?_
      have hz : C_pause (nA G) (nT G) v r p0 = (0, (((C_takeFromHolder (nA G) (nT G) v r (ix p0)).1) 23 (ix p0)) - (((C_takeFromHolder (nA G) (nT G) v r (ix p0)).1) 26 (ix p0)), u2 (u2 ((C_takeFromHolder (nA G) (nT G) v r (ix p0)).1) 24 (ix p0) 2) 29 (ix p0) (((C_takeFromHolder (nA G) (nT G) v r (ix p0)).1) 0 0), (C_takeFromHolder (nA G) (nT G) v r (ix p0)).2) := by rw [C_pause, if_pos h2, if_pos h10]
      exact j_iret F hR dX3_pause_57 (Nat.le_of_ble_eq_true rfl) (Nat.le_of_ble_eq_true rfl) ⟨by rw [hz], by rw [hz], by rw [hz]⟩
    · refine j_aloadn F dX3_pause_13 rfl ?_
      refine gf_X3_147 F (v := .int (v 24 (ix p0))) dX3_pause_14 (4 + nA G + (ix p0)) (cg_T (vp_lt (inR_iff.mp h2))) rfl ?_
      refine j_iconst F (v := 1) dX3_pause_17 (by decide) ?_
      refine j_iceq F (tgt := 31) dX3_pause_18 (by decide) (fun h18 => ?_) (fun h18 => ?_)
      · refine j_aloadn F dX3_pause_31 rfl ?_
        refine j_dmS F hR.1 (qX3_takeFromHolder (kl k) hst (kD k) G v r (ix p0) hC ((vp_lt (inR_iff.mp h2)))) lk_X3_157 dX3_pause_32 ⟨(Nat.le_of_ble_eq_true rfl), (Nat.le_of_ble_eq_true rfl)⟩ rfl (Nat.le_of_ble_eq_true rfl) ⟨(Nat.le_of_ble_eq_true rfl), (Nat.le_of_ble_eq_true rfl)⟩ rfl ?_
        refine j_aloadn F dX3_pause_35 rfl ?_
        refine j_iconst F (v := 2) dX3_pause_36 (by decide) ?_
        refine pf_X3_147 F hR.1 dX3_pause_37 rfl rfl (4 + nA G + (ix p0)) (cg_T (vp_lt (inR_iff.mp h2))) (Nat.le_of_ble_eq_true rfl) (CW (kD k) G (u2 ((C_takeFromHolder (nA G) (nT G) v r (ix p0)).1) 24 (ix p0) 2) ((C_takeFromHolder (nA G) (nT G) v r (ix p0)).2)) (csT_4 (vp_lt (inR_iff.mp h2))) ?_
        refine j_aloadn F dX3_pause_40 rfl ?_
        refine j_aloadn F dX3_pause_41 rfl ?_
        refine gf_X3_33 F (v := .int (((C_takeFromHolder (nA G) (nT G) v r (ix p0)).1) 0 0)) dX3_pause_42 0 rfl (dfi_5 (u2_ne1 (by decide))) ?_
        refine pf_X3_160 F hR.1 dX3_pause_45 rfl rfl (4 + nA G + (ix p0)) (cg_T (vp_lt (inR_iff.mp h2))) (Nat.le_of_ble_eq_true rfl) (CW (kD k) G (u2 (u2 ((C_takeFromHolder (nA G) (nT G) v r (ix p0)).1) 24 (ix p0) 2) 29 (ix p0) (((C_takeFromHolder (nA G) (nT G) v r (ix p0)).1) 0 0)) ((C_takeFromHolder (nA G) (nT G) v r (ix p0)).2)) (csT_9 (vp_lt (inR_iff.mp h2))) ?_
        refine j_aloadn F dX3_pause_48 rfl ?_
        refine gf_X3_163 F (v := .int (((C_takeFromHolder (nA G) (nT G) v r (ix p0)).1) 23 (ix p0))) dX3_pause_49 (4 + nA G + (ix p0)) (cg_T (vp_lt (inR_iff.mp h2))) (tfi_3 (Eq.trans (u2_ne1 (by decide)) (u2_ne1 (by decide)))) ?_
        refine j_aloadn F dX3_pause_52 rfl ?_
        refine gf_X3_166 F (v := .int (((C_takeFromHolder (nA G) (nT G) v r (ix p0)).1) 26 (ix p0))) dX3_pause_53 (4 + nA G + (ix p0)) (cg_T (vp_lt (inR_iff.mp h2))) (tfi_6 (Eq.trans (u2_ne1 (by decide)) (u2_ne1 (by decide)))) ?_
        refine j_isub F dX3_pause_56 ?_
        have hz : C_pause (nA G) (nT G) v r p0 = (0, (((C_takeFromHolder (nA G) (nT G) v r (ix p0)).1) 23 (ix p0)) - (((C_takeFromHolder (nA G) (nT G) v r (ix p0)).1) 26 (ix p0)), u2 (u2 ((C_takeFromHolder (nA G) (nT G) v r (ix p0)).1) 24 (ix p0) 2) 29 (ix p0) (((C_takeFromHolder (nA G) (nT G) v r (ix p0)).1) 0 0), (C_takeFromHolder (nA G) (nT G) v r (ix p0)).2) := by rw [C_pause, if_pos h2, if_neg h10, if_pos h18]
        exact j_iret F hR dX3_pause_57 (Nat.le_of_ble_eq_true rfl) (Nat.le_of_ble_eq_true rfl) ⟨by rw [hz], by rw [hz], by rw [hz]⟩
      · have hz : C_pause (nA G) (nT G) v r p0 = (3, 0, v, r) := by rw [C_pause, if_pos h2, if_neg h10, if_neg h18]
        exact j_throw F hX hNT lt_eS (text := "the ticket is neither waiting nor worked at") (by decide +kernel) ⟨by rw [hz]; exact (Nat.succ_ne_zero _), by rw [hz]; rfl⟩ dX3_pause_21 dX3_pause_24 dX3_pause_25 dX3_pause_27 dX3_pause_30 ⟨(Nat.le_of_ble_eq_true rfl), (Nat.le_of_ble_eq_true rfl), (Nat.le_of_ble_eq_true rfl), (Nat.le_of_ble_eq_true rfl)⟩ (Nat.le_of_ble_eq_true rfl) (Nat.le_of_ble_eq_true rfl)
  · obtain ⟨h2, rfl⟩ := hE
    have hz : C_pause (nA G) (nT G) v r p0 = (2, 0, v, r) := by rw [C_pause, if_neg h2]
    exact jx_out F hX hNT ⟨by rw [hz]; exact (Nat.succ_ne_zero _), by rw [hz]; rfl⟩ (Nat.le_of_ble_eq_true rfl) (Nat.le_of_ble_eq_true rfl)
def C_resume (na nt : Nat) (v : S2) (r : R2) (p0 : Int32) : Nat × Int32 × S2 × R2 := if inR p0 nt = true then (if (v 24 (ix p0)) = 2 then (0, (v 0 0) - (v 29 (ix p0)), u2 v 24 (ix p0) 0, r) else (3, 0, v, r)) else (2, 0, v, r)
set_option maxHeartbeats 4000000 in
set_option maxRecDepth 100000 in
theorem qX3_resume (l : Launch) (hst : l.stackTraces = false) (D : va_G) (G : CG) (v : S2) (r : R2) (p0 : Int32) (hG : GI D G) : CX l D yX3_resume cX3_resume 3 (some .int) 7 131 2 12 (CW D G v r) [.ref (G.1 0 0), .int p0] (fun u w => (C_resume (nA G) (nT G) v r p0).1 = 0 ∧ u = some (.int ((C_resume (nA G) (nT G) v r p0).2.1)) ∧ w = CW D G (C_resume (nA G) (nT G) v r p0).2.2.1 (C_resume (nA G) (nT G) v r p0).2.2.2) (fun E => (C_resume (nA G) (nT G) v r p0).1 ≠ 0 ∧ E = xE (C_resume (nA G) (nT G) v r p0).1) := by
  refine CX_of [some (.ref (G.1 0 0)), some (.int p0), none] hst (by decide +kernel) rfl (Nat.le_of_ble_eq_true rfl) (fun k F hl hD hR hX hNT => ?_)
  subst hl hD
  refine j_aloadn F dX3_resume_0 rfl ?_
  refine j_iloadn F dX3_resume_1 rfl ?_
  refine j_cxV0 F hR.1 (qX3_ticketAt (kl k) hst (kD k) G v r p0 hG) lk_X3_143 dX3_resume_2 ⟨(Nat.le_of_ble_eq_true rfl), (Nat.le_of_ble_eq_true rfl)⟩ 0 rfl rfl rfl (Nat.le_of_ble_eq_true rfl) ⟨(Nat.le_of_ble_eq_true rfl), (Nat.le_of_ble_eq_true rfl)⟩ (fun u w1 hp => ?_) (fun E hE => ?_)
  · obtain ⟨h2, rfl, rfl⟩ := hp
    refine j_st [.ref (aT G (ix p0))] rfl ?_
    refine j_astoren F [some (.ref (G.1 0 0)), some (.int p0), some (.ref (aT G (ix p0)))] dX3_resume_5 rfl rfl rfl ?_
    refine j_aloadn F dX3_resume_6 rfl ?_
    refine gf_X3_147 F (v := .int (v 24 (ix p0))) dX3_resume_7 (4 + nA G + (ix p0)) (cg_T (vp_lt (inR_iff.mp h2))) rfl ?_
    refine j_iconst F (v := 2) dX3_resume_10 (by decide) ?_
    refine j_iceq F (tgt := 24) dX3_resume_11 (by decide) (fun h11 => ?_) (fun h11 => ?_)
    · refine j_aloadn F dX3_resume_24 rfl ?_
      refine j_iconst F (v := 0) dX3_resume_25 (by decide) ?_
      refine pf_X3_147 F hR.1 dX3_resume_26 rfl rfl (4 + nA G + (ix p0)) (cg_T (vp_lt (inR_iff.mp h2))) (Nat.le_of_ble_eq_true rfl) (CW (kD k) G (u2 v 24 (ix p0) 0) r) (csT_4 (vp_lt (inR_iff.mp h2))) ?_
      refine j_aloadn F dX3_resume_29 rfl ?_
      refine gf_X3_33 F (v := .int (v 0 0)) dX3_resume_30 0 rfl rfl ?_
      refine j_aloadn F dX3_resume_33 rfl ?_
      refine gf_X3_160 F (v := .int (v 29 (ix p0))) dX3_resume_34 (4 + nA G + (ix p0)) (cg_T (vp_lt (inR_iff.mp h2))) rfl ?_
      refine j_isub F dX3_resume_37 ?_
      have hz : C_resume (nA G) (nT G) v r p0 = (0, (v 0 0) - (v 29 (ix p0)), u2 v 24 (ix p0) 0, r) := by rw [C_resume, if_pos h2, if_pos h11]
      exact j_iret F hR dX3_resume_38 (Nat.le_of_ble_eq_true rfl) (Nat.le_of_ble_eq_true rfl) ⟨by rw [hz], by rw [hz], by rw [hz]⟩
    · have hz : C_resume (nA G) (nT G) v r p0 = (3, 0, v, r) := by rw [C_resume, if_pos h2, if_neg h11]
      exact j_throw F hX hNT lt_eS (text := "the ticket is not paused") (by decide +kernel) ⟨by rw [hz]; exact (Nat.succ_ne_zero _), by rw [hz]; rfl⟩ dX3_resume_14 dX3_resume_17 dX3_resume_18 dX3_resume_20 dX3_resume_23 ⟨(Nat.le_of_ble_eq_true rfl), (Nat.le_of_ble_eq_true rfl), (Nat.le_of_ble_eq_true rfl), (Nat.le_of_ble_eq_true rfl)⟩ (Nat.le_of_ble_eq_true rfl) (Nat.le_of_ble_eq_true rfl)
  · obtain ⟨h2, rfl⟩ := hE
    have hz : C_resume (nA G) (nT G) v r p0 = (2, 0, v, r) := by rw [C_resume, if_neg h2]
    exact jx_out F hX hNT ⟨by rw [hz]; exact (Nat.succ_ne_zero _), by rw [hz]; rfl⟩ (Nat.le_of_ble_eq_true rfl) (Nat.le_of_ble_eq_true rfl)
def C_merge (na nt : Nat) (v : S2) (r : R2) (p0 : Int32) (p1 : Int32) : Nat × Int32 × S2 × R2 := if inR p0 nt = true then (if inR p1 nt = true then (if p0 = p1 then (1, 0, v, r) else if (C_T_isOpen na nt v r (ix p0)) = true then (if (C_T_isOpen na nt v r (ix p1)) = true then (0, (u2 (u2 (u2 (u2 ((C_takeFromHolder na nt v r (ix p0)).1) 24 (ix p0) 4) 22 (ix p1) (if (((C_takeFromHolder na nt v r (ix p0)).1) 22 (ix p0)) < (((C_takeFromHolder na nt v r (ix p0)).1) 22 (ix p1)) then (((C_takeFromHolder na nt v r (ix p0)).1) 22 (ix p0)) else (((C_takeFromHolder na nt v r (ix p0)).1) 22 (ix p1)))) 25 (ix p1) (if (((C_takeFromHolder na nt v r (ix p0)).1) 25 (ix p1)) < (((C_takeFromHolder na nt v r (ix p0)).1) 25 (ix p0)) then (((C_takeFromHolder na nt v r (ix p0)).1) 25 (ix p0)) else (((C_takeFromHolder na nt v r (ix p0)).1) 25 (ix p1)))) 31 (ix p1) ((((C_takeFromHolder na nt v r (ix p0)).1) 31 (ix p1)) ||| (((C_takeFromHolder na nt v r (ix p0)).1) 31 (ix p0)))) 31 (ix p1), u2 (u2 (u2 (u2 ((C_takeFromHolder na nt v r (ix p0)).1) 24 (ix p0) 4) 22 (ix p1) (if (((C_takeFromHolder na nt v r (ix p0)).1) 22 (ix p0)) < (((C_takeFromHolder na nt v r (ix p0)).1) 22 (ix p1)) then (((C_takeFromHolder na nt v r (ix p0)).1) 22 (ix p0)) else (((C_takeFromHolder na nt v r (ix p0)).1) 22 (ix p1)))) 25 (ix p1) (if (((C_takeFromHolder na nt v r (ix p0)).1) 25 (ix p1)) < (((C_takeFromHolder na nt v r (ix p0)).1) 25 (ix p0)) then (((C_takeFromHolder na nt v r (ix p0)).1) 25 (ix p0)) else (((C_takeFromHolder na nt v r (ix p0)).1) 25 (ix p1)))) 31 (ix p1) ((((C_takeFromHolder na nt v r (ix p0)).1) 31 (ix p1)) ||| (((C_takeFromHolder na nt v r (ix p0)).1) 31 (ix p0))), u3 ((C_takeFromHolder na nt v r (ix p0)).2) 34 (ix p0) (some (ix p1))) else (3, 0, v, r)) else (3, 0, v, r)) else (2, 0, v, r)) else (2, 0, v, r)
set_option maxHeartbeats 4000000 in
set_option maxRecDepth 100000 in
theorem qX3_merge (l : Launch) (hst : l.stackTraces = false) (D : va_G) (G : CG) (v : S2) (r : R2) (p0 : Int32) (p1 : Int32) (hG : GI D G) (hC : CI G v r) : CX l D yX3_merge cX3_merge 5 (some .int) 7 131 3 18 (CW D G v r) [.ref (G.1 0 0), .int p0, .int p1] (fun u w => (C_merge (nA G) (nT G) v r p0 p1).1 = 0 ∧ u = some (.int ((C_merge (nA G) (nT G) v r p0 p1).2.1)) ∧ w = CW D G (C_merge (nA G) (nT G) v r p0 p1).2.2.1 (C_merge (nA G) (nT G) v r p0 p1).2.2.2) (fun E => (C_merge (nA G) (nT G) v r p0 p1).1 ≠ 0 ∧ E = xE (C_merge (nA G) (nT G) v r p0 p1).1) := by
  refine CX_of [some (.ref (G.1 0 0)), some (.int p0), some (.int p1), none, none] hst (by decide +kernel) rfl (Nat.le_of_ble_eq_true rfl) (fun k F hl hD hR hX hNT => ?_)
  subst hl hD
  refine j_aloadn F dX3_merge_0 rfl ?_
  refine j_iloadn F dX3_merge_1 rfl ?_
  refine j_cxV0 F hR.1 (qX3_ticketAt (kl k) hst (kD k) G v r p0 hG) lk_X3_143 dX3_merge_2 ⟨(Nat.le_of_ble_eq_true rfl), (Nat.le_of_ble_eq_true rfl)⟩ 0 rfl rfl rfl (Nat.le_of_ble_eq_true rfl) ⟨(Nat.le_of_ble_eq_true rfl), (Nat.le_of_ble_eq_true rfl)⟩ (fun u w1 hp => ?_) (fun E hE => ?_)
  · obtain ⟨h2, rfl, rfl⟩ := hp
    refine j_st [.ref (aT G (ix p0))] rfl ?_
    refine j_astoren F [some (.ref (G.1 0 0)), some (.int p0), some (.int p1), some (.ref (aT G (ix p0))), none] dX3_merge_5 rfl rfl rfl ?_
    refine j_aloadn F dX3_merge_6 rfl ?_
    refine j_iloadn F dX3_merge_7 rfl ?_
    refine j_cxV0 F hR.1 (qX3_ticketAt (kl k) hst (kD k) G v r p1 hG) lk_X3_143 dX3_merge_8 ⟨(Nat.le_of_ble_eq_true rfl), (Nat.le_of_ble_eq_true rfl)⟩ 0 rfl rfl rfl (Nat.le_of_ble_eq_true rfl) ⟨(Nat.le_of_ble_eq_true rfl), (Nat.le_of_ble_eq_true rfl)⟩ (fun u w1 hp => ?_) (fun E hE => ?_)
    · obtain ⟨h8, rfl, rfl⟩ := hp
      refine j_st [.ref (aT G (ix p1))] rfl ?_
      refine j_astore F [some (.ref (G.1 0 0)), some (.int p0), some (.int p1), some (.ref (aT G (ix p0))), some (.ref (aT G (ix p1)))] dX3_merge_11 rfl rfl rfl ?_
      refine j_iloadn F dX3_merge_13 rfl ?_
      refine j_iloadn F dX3_merge_14 rfl ?_
      refine j_icne F (tgt := 28) dX3_merge_15 (by decide) (fun h15 => ?_) (fun h15 => ?_)
      · refine j_aloadn F dX3_merge_28 rfl ?_
        refine j_rdV F (qX2_isOpen (kl k) hst (kD k) G v r (ix p0) ((vp_lt (inR_iff.mp h2)))) lk_X3_173 dX3_merge_29 ⟨(Nat.le_of_ble_eq_true rfl), (Nat.le_of_ble_eq_true rfl)⟩ (fun _ h => h) (4 + nA G + (ix p0)) (cg_T (vp_lt (inR_iff.mp h2))) rfl rfl (Nat.le_of_ble_eq_true rfl) ⟨(Nat.le_of_ble_eq_true rfl), (Nat.le_of_ble_eq_true rfl)⟩ ?_
        refine j_ifbeq F (tgt := 43) dX3_merge_32 (by decide) (fun h32 => ?_) (fun h32 => ?_)
        · have hz : C_merge (nA G) (nT G) v r p0 p1 = (3, 0, v, r) := by rw [C_merge, if_pos h2, if_pos h8, if_neg h15, if_neg h32]
          exact j_throw F hX hNT lt_eS (text := "one of the tickets is not open") (by decide +kernel) ⟨by rw [hz]; exact (Nat.succ_ne_zero _), by rw [hz]; rfl⟩ dX3_merge_43 dX3_merge_46 dX3_merge_47 dX3_merge_49 dX3_merge_52 ⟨(Nat.le_of_ble_eq_true rfl), (Nat.le_of_ble_eq_true rfl), (Nat.le_of_ble_eq_true rfl), (Nat.le_of_ble_eq_true rfl)⟩ (Nat.le_of_ble_eq_true rfl) (Nat.le_of_ble_eq_true rfl)
        · refine j_aload F dX3_merge_35 rfl ?_
          refine j_rdV F (qX2_isOpen (kl k) hst (kD k) G v r (ix p1) ((vp_lt (inR_iff.mp h8)))) lk_X3_173 dX3_merge_37 ⟨(Nat.le_of_ble_eq_true rfl), (Nat.le_of_ble_eq_true rfl)⟩ (fun _ h => h) (4 + nA G + (ix p1)) (cg_T (vp_lt (inR_iff.mp h8))) rfl rfl (Nat.le_of_ble_eq_true rfl) ⟨(Nat.le_of_ble_eq_true rfl), (Nat.le_of_ble_eq_true rfl)⟩ ?_
          refine j_ifbne F (tgt := 53) dX3_merge_40 (by decide) (fun h40 => ?_) (fun h40 => ?_)
          · refine j_aloadn F dX3_merge_53 rfl ?_
            refine j_dmS F hR.1 (qX3_takeFromHolder (kl k) hst (kD k) G v r (ix p0) hC ((vp_lt (inR_iff.mp h2)))) lk_X3_157 dX3_merge_54 ⟨(Nat.le_of_ble_eq_true rfl), (Nat.le_of_ble_eq_true rfl)⟩ rfl (Nat.le_of_ble_eq_true rfl) ⟨(Nat.le_of_ble_eq_true rfl), (Nat.le_of_ble_eq_true rfl)⟩ rfl ?_
            refine j_aloadn F dX3_merge_57 rfl ?_
            refine j_iconst F (v := 4) dX3_merge_58 (by decide) ?_
            refine pf_X3_147 F hR.1 dX3_merge_59 rfl rfl (4 + nA G + (ix p0)) (cg_T (vp_lt (inR_iff.mp h2))) (Nat.le_of_ble_eq_true rfl) (CW (kD k) G (u2 ((C_takeFromHolder (nA G) (nT G) v r (ix p0)).1) 24 (ix p0) 4) ((C_takeFromHolder (nA G) (nT G) v r (ix p0)).2)) (csT_4 (vp_lt (inR_iff.mp h2))) ?_
            refine j_aloadn F dX3_merge_62 rfl ?_
            refine j_aload F dX3_merge_63 rfl ?_
            refine pf_X3_179 F hR.1 dX3_merge_65 rfl rfl (4 + nA G + (ix p0)) (cg_T (vp_lt (inR_iff.mp h2))) (Nat.le_of_ble_eq_true rfl) (CW (kD k) G (u2 ((C_takeFromHolder (nA G) (nT G) v r (ix p0)).1) 24 (ix p0) 4) (u3 ((C_takeFromHolder (nA G) (nT G) v r (ix p0)).2) 34 (ix p0) (some (ix p1)))) (csT_14 (x := some (ix p1)) (vp_lt (inR_iff.mp h2))) ?_
            refine j_aload F dX3_merge_68 rfl ?_
            refine j_aload F dX3_merge_70 rfl ?_
            refine gf_X3_152 F (v := .int (((C_takeFromHolder (nA G) (nT G) v r (ix p0)).1) 22 (ix p1))) dX3_merge_72 (4 + nA G + (ix p1)) (cg_T (vp_lt (inR_iff.mp h8))) (tfi_2 (u2_ne1 (by decide))) ?_
            refine j_aloadn F dX3_merge_75 rfl ?_
            refine gf_X3_152 F (v := .int (((C_takeFromHolder (nA G) (nT G) v r (ix p0)).1) 22 (ix p0))) dX3_merge_76 (4 + nA G + (ix p0)) (cg_T (vp_lt (inR_iff.mp h2))) (tfi_2 (u2_ne1 (by decide))) ?_
            refine j_mmin F um_X3_182 us_min ui_Math ud_min dX3_merge_79 ⟨(Nat.le_of_ble_eq_true rfl), (Nat.le_of_ble_eq_true rfl), (Nat.le_of_ble_eq_true rfl), (Nat.le_of_ble_eq_true rfl)⟩ ?_
            refine pf_X3_152 F hR.1 dX3_merge_82 rfl rfl (4 + nA G + (ix p1)) (cg_T (vp_lt (inR_iff.mp h8))) (Nat.le_of_ble_eq_true rfl) (CW (kD k) G (u2 (u2 ((C_takeFromHolder (nA G) (nT G) v r (ix p0)).1) 24 (ix p0) 4) 22 (ix p1) (if (((C_takeFromHolder (nA G) (nT G) v r (ix p0)).1) 22 (ix p0)) < (((C_takeFromHolder (nA G) (nT G) v r (ix p0)).1) 22 (ix p1)) then (((C_takeFromHolder (nA G) (nT G) v r (ix p0)).1) 22 (ix p0)) else (((C_takeFromHolder (nA G) (nT G) v r (ix p0)).1) 22 (ix p1)))) (u3 ((C_takeFromHolder (nA G) (nT G) v r (ix p0)).2) 34 (ix p0) (some (ix p1)))) (csT_2 (vp_lt (inR_iff.mp h8))) ?_
            refine j_aload F dX3_merge_85 rfl ?_
            refine j_aload F dX3_merge_87 rfl ?_
            refine gf_X3_187 F (v := .int (((C_takeFromHolder (nA G) (nT G) v r (ix p0)).1) 25 (ix p1))) dX3_merge_89 (4 + nA G + (ix p1)) (cg_T (vp_lt (inR_iff.mp h8))) (tfi_5 (Eq.trans (u2_ne1 (by decide)) (u2_ne1 (by decide)))) ?_
            refine j_aloadn F dX3_merge_92 rfl ?_
            refine gf_X3_187 F (v := .int (((C_takeFromHolder (nA G) (nT G) v r (ix p0)).1) 25 (ix p0))) dX3_merge_93 (4 + nA G + (ix p0)) (cg_T (vp_lt (inR_iff.mp h2))) (tfi_5 (Eq.trans (u2_ne1 (by decide)) (u2_ne1 (by decide)))) ?_
            refine j_mmax F um_X3_190 us_max ui_Math ud_max dX3_merge_96 ⟨(Nat.le_of_ble_eq_true rfl), (Nat.le_of_ble_eq_true rfl), (Nat.le_of_ble_eq_true rfl), (Nat.le_of_ble_eq_true rfl)⟩ ?_
            refine pf_X3_187 F hR.1 dX3_merge_99 rfl rfl (4 + nA G + (ix p1)) (cg_T (vp_lt (inR_iff.mp h8))) (Nat.le_of_ble_eq_true rfl) (CW (kD k) G (u2 (u2 (u2 ((C_takeFromHolder (nA G) (nT G) v r (ix p0)).1) 24 (ix p0) 4) 22 (ix p1) (if (((C_takeFromHolder (nA G) (nT G) v r (ix p0)).1) 22 (ix p0)) < (((C_takeFromHolder (nA G) (nT G) v r (ix p0)).1) 22 (ix p1)) then (((C_takeFromHolder (nA G) (nT G) v r (ix p0)).1) 22 (ix p0)) else (((C_takeFromHolder (nA G) (nT G) v r (ix p0)).1) 22 (ix p1)))) 25 (ix p1) (if (((C_takeFromHolder (nA G) (nT G) v r (ix p0)).1) 25 (ix p1)) < (((C_takeFromHolder (nA G) (nT G) v r (ix p0)).1) 25 (ix p0)) then (((C_takeFromHolder (nA G) (nT G) v r (ix p0)).1) 25 (ix p0)) else (((C_takeFromHolder (nA G) (nT G) v r (ix p0)).1) 25 (ix p1)))) (u3 ((C_takeFromHolder (nA G) (nT G) v r (ix p0)).2) 34 (ix p0) (some (ix p1)))) (csT_5 (vp_lt (inR_iff.mp h8))) ?_
            refine j_aload F dX3_merge_102 rfl ?_
            refine j_dup F dX3_merge_104 rfl ?_
            refine gf_X3_193 F (v := .int (((C_takeFromHolder (nA G) (nT G) v r (ix p0)).1) 31 (ix p1))) dX3_merge_105 (4 + nA G + (ix p1)) (cg_T (vp_lt (inR_iff.mp h8))) (tfi_11 (Eq.trans (u2_ne1 (by decide)) (Eq.trans (u2_ne1 (by decide)) (u2_ne1 (by decide))))) ?_
            refine j_aloadn F dX3_merge_108 rfl ?_
            refine gf_X3_193 F (v := .int (((C_takeFromHolder (nA G) (nT G) v r (ix p0)).1) 31 (ix p0))) dX3_merge_109 (4 + nA G + (ix p0)) (cg_T (vp_lt (inR_iff.mp h2))) (tfi_11 (Eq.trans (u2_ne1 (by decide)) (Eq.trans (u2_ne1 (by decide)) (u2_ne1 (by decide))))) ?_
            refine j_ior F dX3_merge_112 ?_
            refine pf_X3_193 F hR.1 dX3_merge_113 rfl rfl (4 + nA G + (ix p1)) (cg_T (vp_lt (inR_iff.mp h8))) (Nat.le_of_ble_eq_true rfl) (CW (kD k) G (u2 (u2 (u2 (u2 ((C_takeFromHolder (nA G) (nT G) v r (ix p0)).1) 24 (ix p0) 4) 22 (ix p1) (if (((C_takeFromHolder (nA G) (nT G) v r (ix p0)).1) 22 (ix p0)) < (((C_takeFromHolder (nA G) (nT G) v r (ix p0)).1) 22 (ix p1)) then (((C_takeFromHolder (nA G) (nT G) v r (ix p0)).1) 22 (ix p0)) else (((C_takeFromHolder (nA G) (nT G) v r (ix p0)).1) 22 (ix p1)))) 25 (ix p1) (if (((C_takeFromHolder (nA G) (nT G) v r (ix p0)).1) 25 (ix p1)) < (((C_takeFromHolder (nA G) (nT G) v r (ix p0)).1) 25 (ix p0)) then (((C_takeFromHolder (nA G) (nT G) v r (ix p0)).1) 25 (ix p0)) else (((C_takeFromHolder (nA G) (nT G) v r (ix p0)).1) 25 (ix p1)))) 31 (ix p1) ((((C_takeFromHolder (nA G) (nT G) v r (ix p0)).1) 31 (ix p1)) ||| (((C_takeFromHolder (nA G) (nT G) v r (ix p0)).1) 31 (ix p0)))) (u3 ((C_takeFromHolder (nA G) (nT G) v r (ix p0)).2) 34 (ix p0) (some (ix p1)))) (csT_11 (vp_lt (inR_iff.mp h8))) ?_
            refine j_aload F dX3_merge_116 rfl ?_
            refine gf_X3_193 F (v := .int ((u2 (u2 (u2 (u2 ((C_takeFromHolder (nA G) (nT G) v r (ix p0)).1) 24 (ix p0) 4) 22 (ix p1) (if (((C_takeFromHolder (nA G) (nT G) v r (ix p0)).1) 22 (ix p0)) < (((C_takeFromHolder (nA G) (nT G) v r (ix p0)).1) 22 (ix p1)) then (((C_takeFromHolder (nA G) (nT G) v r (ix p0)).1) 22 (ix p0)) else (((C_takeFromHolder (nA G) (nT G) v r (ix p0)).1) 22 (ix p1)))) 25 (ix p1) (if (((C_takeFromHolder (nA G) (nT G) v r (ix p0)).1) 25 (ix p1)) < (((C_takeFromHolder (nA G) (nT G) v r (ix p0)).1) 25 (ix p0)) then (((C_takeFromHolder (nA G) (nT G) v r (ix p0)).1) 25 (ix p0)) else (((C_takeFromHolder (nA G) (nT G) v r (ix p0)).1) 25 (ix p1)))) 31 (ix p1) ((((C_takeFromHolder (nA G) (nT G) v r (ix p0)).1) 31 (ix p1)) ||| (((C_takeFromHolder (nA G) (nT G) v r (ix p0)).1) 31 (ix p0)))) 31 (ix p1))) dX3_merge_118 (4 + nA G + (ix p1)) (cg_T (vp_lt (inR_iff.mp h8))) rfl ?_
            have hz : C_merge (nA G) (nT G) v r p0 p1 = (0, (u2 (u2 (u2 (u2 ((C_takeFromHolder (nA G) (nT G) v r (ix p0)).1) 24 (ix p0) 4) 22 (ix p1) (if (((C_takeFromHolder (nA G) (nT G) v r (ix p0)).1) 22 (ix p0)) < (((C_takeFromHolder (nA G) (nT G) v r (ix p0)).1) 22 (ix p1)) then (((C_takeFromHolder (nA G) (nT G) v r (ix p0)).1) 22 (ix p0)) else (((C_takeFromHolder (nA G) (nT G) v r (ix p0)).1) 22 (ix p1)))) 25 (ix p1) (if (((C_takeFromHolder (nA G) (nT G) v r (ix p0)).1) 25 (ix p1)) < (((C_takeFromHolder (nA G) (nT G) v r (ix p0)).1) 25 (ix p0)) then (((C_takeFromHolder (nA G) (nT G) v r (ix p0)).1) 25 (ix p0)) else (((C_takeFromHolder (nA G) (nT G) v r (ix p0)).1) 25 (ix p1)))) 31 (ix p1) ((((C_takeFromHolder (nA G) (nT G) v r (ix p0)).1) 31 (ix p1)) ||| (((C_takeFromHolder (nA G) (nT G) v r (ix p0)).1) 31 (ix p0)))) 31 (ix p1), u2 (u2 (u2 (u2 ((C_takeFromHolder (nA G) (nT G) v r (ix p0)).1) 24 (ix p0) 4) 22 (ix p1) (if (((C_takeFromHolder (nA G) (nT G) v r (ix p0)).1) 22 (ix p0)) < (((C_takeFromHolder (nA G) (nT G) v r (ix p0)).1) 22 (ix p1)) then (((C_takeFromHolder (nA G) (nT G) v r (ix p0)).1) 22 (ix p0)) else (((C_takeFromHolder (nA G) (nT G) v r (ix p0)).1) 22 (ix p1)))) 25 (ix p1) (if (((C_takeFromHolder (nA G) (nT G) v r (ix p0)).1) 25 (ix p1)) < (((C_takeFromHolder (nA G) (nT G) v r (ix p0)).1) 25 (ix p0)) then (((C_takeFromHolder (nA G) (nT G) v r (ix p0)).1) 25 (ix p0)) else (((C_takeFromHolder (nA G) (nT G) v r (ix p0)).1) 25 (ix p1)))) 31 (ix p1) ((((C_takeFromHolder (nA G) (nT G) v r (ix p0)).1) 31 (ix p1)) ||| (((C_takeFromHolder (nA G) (nT G) v r (ix p0)).1) 31 (ix p0))), u3 ((C_takeFromHolder (nA G) (nT G) v r (ix p0)).2) 34 (ix p0) (some (ix p1))) := by rw [C_merge, if_pos h2, if_pos h8, if_neg h15, if_pos h32, if_pos h40]
            exact j_iret F hR dX3_merge_121 (Nat.le_of_ble_eq_true rfl) (Nat.le_of_ble_eq_true rfl) ⟨by rw [hz], by rw [hz], by rw [hz]⟩
          · have hz : C_merge (nA G) (nT G) v r p0 p1 = (3, 0, v, r) := by rw [C_merge, if_pos h2, if_pos h8, if_neg h15, if_pos h32, if_neg h40]
            exact j_throw F hX hNT lt_eS (text := "one of the tickets is not open") (by decide +kernel) ⟨by rw [hz]; exact (Nat.succ_ne_zero _), by rw [hz]; rfl⟩ dX3_merge_43 dX3_merge_46 dX3_merge_47 dX3_merge_49 dX3_merge_52 ⟨(Nat.le_of_ble_eq_true rfl), (Nat.le_of_ble_eq_true rfl), (Nat.le_of_ble_eq_true rfl), (Nat.le_of_ble_eq_true rfl)⟩ (Nat.le_of_ble_eq_true rfl) (Nat.le_of_ble_eq_true rfl)
      · have hz : C_merge (nA G) (nT G) v r p0 p1 = (1, 0, v, r) := by rw [C_merge, if_pos h2, if_pos h8, if_pos h15]
        exact j_throw F hX hNT lt_eA (text := "a ticket is not merged into itself") (by decide +kernel) ⟨by rw [hz]; exact (Nat.succ_ne_zero _), by rw [hz]; rfl⟩ dX3_merge_18 dX3_merge_21 dX3_merge_22 dX3_merge_24 dX3_merge_27 ⟨(Nat.le_of_ble_eq_true rfl), (Nat.le_of_ble_eq_true rfl), (Nat.le_of_ble_eq_true rfl), (Nat.le_of_ble_eq_true rfl)⟩ (Nat.le_of_ble_eq_true rfl) (Nat.le_of_ble_eq_true rfl)
    · obtain ⟨h8, rfl⟩ := hE
      have hz : C_merge (nA G) (nT G) v r p0 p1 = (2, 0, v, r) := by rw [C_merge, if_pos h2, if_neg h8]
      exact jx_out F hX hNT ⟨by rw [hz]; exact (Nat.succ_ne_zero _), by rw [hz]; rfl⟩ (Nat.le_of_ble_eq_true rfl) (Nat.le_of_ble_eq_true rfl)
  · obtain ⟨h2, rfl⟩ := hE
    have hz : C_merge (nA G) (nT G) v r p0 p1 = (2, 0, v, r) := by rw [C_merge, if_neg h2]
    exact jx_out F hX hNT ⟨by rw [hz]; exact (Nat.succ_ne_zero _), by rw [hz]; rfl⟩ (Nat.le_of_ble_eq_true rfl) (Nat.le_of_ble_eq_true rfl)
def C_reopen (na nt : Nat) (v : S2) (r : R2) (p0 : Int32) (p1 : Int32) : Nat × Int32 × S2 × R2 := if inR p0 nt = true then (if p1 < 1 then (1, 0, v, r) else if p1 ≤ 300 then (if (v 24 (ix p0)) = 3 then (if ((v 0 0) - (v 30 (ix p0))) < 7200 then (0, (u2 (u2 v 24 (ix p0) 0) 23 (ix p0) ((v 23 (ix p0)) + p1)) 23 (ix p0), u2 (u2 (u2 v 24 (ix p0) 0) 23 (ix p0) ((v 23 (ix p0)) + p1)) 28 (ix p0) ((v 28 (ix p0)) + 1), r) else (3, 0, v, r)) else (3, 0, v, r)) else (1, 0, v, r)) else (2, 0, v, r)
set_option maxHeartbeats 4000000 in
set_option maxRecDepth 100000 in
theorem qX3_reopen (l : Launch) (hst : l.stackTraces = false) (D : va_G) (G : CG) (v : S2) (r : R2) (p0 : Int32) (p1 : Int32) (hG : GI D G) : CX l D yX3_reopen cX3_reopen 4 (some .int) 7 131 2 12 (CW D G v r) [.ref (G.1 0 0), .int p0, .int p1] (fun u w => (C_reopen (nA G) (nT G) v r p0 p1).1 = 0 ∧ u = some (.int ((C_reopen (nA G) (nT G) v r p0 p1).2.1)) ∧ w = CW D G (C_reopen (nA G) (nT G) v r p0 p1).2.2.1 (C_reopen (nA G) (nT G) v r p0 p1).2.2.2) (fun E => (C_reopen (nA G) (nT G) v r p0 p1).1 ≠ 0 ∧ E = xE (C_reopen (nA G) (nT G) v r p0 p1).1) := by
  refine CX_of [some (.ref (G.1 0 0)), some (.int p0), some (.int p1), none] hst (by decide +kernel) rfl (Nat.le_of_ble_eq_true rfl) (fun k F hl hD hR hX hNT => ?_)
  subst hl hD
  refine j_aloadn F dX3_reopen_0 rfl ?_
  refine j_iloadn F dX3_reopen_1 rfl ?_
  refine j_cxV0 F hR.1 (qX3_ticketAt (kl k) hst (kD k) G v r p0 hG) lk_X3_143 dX3_reopen_2 ⟨(Nat.le_of_ble_eq_true rfl), (Nat.le_of_ble_eq_true rfl)⟩ 0 rfl rfl rfl (Nat.le_of_ble_eq_true rfl) ⟨(Nat.le_of_ble_eq_true rfl), (Nat.le_of_ble_eq_true rfl)⟩ (fun u w1 hp => ?_) (fun E hE => ?_)
  · obtain ⟨h2, rfl, rfl⟩ := hp
    refine j_st [.ref (aT G (ix p0))] rfl ?_
    refine j_astoren F [some (.ref (G.1 0 0)), some (.int p0), some (.int p1), some (.ref (aT G (ix p0)))] dX3_reopen_5 rfl rfl rfl ?_
    refine j_iloadn F dX3_reopen_6 rfl ?_
    refine j_iconst F (v := 1) dX3_reopen_7 (by decide) ?_
    refine j_iclt F (tgt := 18) dX3_reopen_8 (by decide) (fun h8 => ?_) (fun h8 => ?_)
    · have hz : C_reopen (nA G) (nT G) v r p0 p1 = (1, 0, v, r) := by rw [C_reopen, if_pos h2, if_pos h8]
      exact j_throw F hX hNT lt_eA (text := "no such greater effort") (by decide +kernel) ⟨by rw [hz]; exact (Nat.succ_ne_zero _), by rw [hz]; rfl⟩ dX3_reopen_18 dX3_reopen_21 dX3_reopen_22 dX3_reopen_24 dX3_reopen_27 ⟨(Nat.le_of_ble_eq_true rfl), (Nat.le_of_ble_eq_true rfl), (Nat.le_of_ble_eq_true rfl), (Nat.le_of_ble_eq_true rfl)⟩ (Nat.le_of_ble_eq_true rfl) (Nat.le_of_ble_eq_true rfl)
    · refine j_iloadn F dX3_reopen_11 rfl ?_
      refine j_sipush F (v := 300) dX3_reopen_12 (by decide) ?_
      refine j_icle F (tgt := 28) dX3_reopen_15 (by decide) (fun h15 => ?_) (fun h15 => ?_)
      · refine j_aloadn F dX3_reopen_28 rfl ?_
        refine gf_X3_147 F (v := .int (v 24 (ix p0))) dX3_reopen_29 (4 + nA G + (ix p0)) (cg_T (vp_lt (inR_iff.mp h2))) rfl ?_
        refine j_iconst F (v := 3) dX3_reopen_32 (by decide) ?_
        refine j_icne F (tgt := 51) dX3_reopen_33 (by decide) (fun h33 => ?_) (fun h33 => ?_)
        · have hz : C_reopen (nA G) (nT G) v r p0 p1 = (3, 0, v, r) := by rw [C_reopen, if_pos h2, if_neg h8, if_pos h15, if_neg h33]
          exact j_throw F hX hNT lt_eS (text := "the ticket is not solved, or was so long ago") (by decide +kernel) ⟨by rw [hz]; exact (Nat.succ_ne_zero _), by rw [hz]; rfl⟩ dX3_reopen_51 dX3_reopen_54 dX3_reopen_55 dX3_reopen_57 dX3_reopen_60 ⟨(Nat.le_of_ble_eq_true rfl), (Nat.le_of_ble_eq_true rfl), (Nat.le_of_ble_eq_true rfl), (Nat.le_of_ble_eq_true rfl)⟩ (Nat.le_of_ble_eq_true rfl) (Nat.le_of_ble_eq_true rfl)
        · refine j_aloadn F dX3_reopen_36 rfl ?_
          refine gf_X3_33 F (v := .int (v 0 0)) dX3_reopen_37 0 rfl rfl ?_
          refine j_aloadn F dX3_reopen_40 rfl ?_
          refine gf_X3_198 F (v := .int (v 30 (ix p0))) dX3_reopen_41 (4 + nA G + (ix p0)) (cg_T (vp_lt (inR_iff.mp h2))) rfl ?_
          refine j_isub F dX3_reopen_44 ?_
          refine j_sipush F (v := 7200) dX3_reopen_45 (by decide) ?_
          refine j_iclt F (tgt := 61) dX3_reopen_48 (by decide) (fun h48 => ?_) (fun h48 => ?_)
          · refine j_aloadn F dX3_reopen_61 rfl ?_
            refine j_iconst F (v := 0) dX3_reopen_62 (by decide) ?_
            refine pf_X3_147 F hR.1 dX3_reopen_63 rfl rfl (4 + nA G + (ix p0)) (cg_T (vp_lt (inR_iff.mp h2))) (Nat.le_of_ble_eq_true rfl) (CW (kD k) G (u2 v 24 (ix p0) 0) r) (csT_4 (vp_lt (inR_iff.mp h2))) ?_
            refine j_aloadn F dX3_reopen_66 rfl ?_
            refine j_dup F dX3_reopen_67 rfl ?_
            refine gf_X3_163 F (v := .int (v 23 (ix p0))) dX3_reopen_68 (4 + nA G + (ix p0)) (cg_T (vp_lt (inR_iff.mp h2))) rfl ?_
            refine j_iloadn F dX3_reopen_71 rfl ?_
            refine j_iadd F dX3_reopen_72 ?_
            refine pf_X3_163 F hR.1 dX3_reopen_73 rfl rfl (4 + nA G + (ix p0)) (cg_T (vp_lt (inR_iff.mp h2))) (Nat.le_of_ble_eq_true rfl) (CW (kD k) G (u2 (u2 v 24 (ix p0) 0) 23 (ix p0) ((v 23 (ix p0)) + p1)) r) (csT_3 (vp_lt (inR_iff.mp h2))) ?_
            refine j_aloadn F dX3_reopen_76 rfl ?_
            refine j_dup F dX3_reopen_77 rfl ?_
            refine gf_X3_203 F (v := .int (v 28 (ix p0))) dX3_reopen_78 (4 + nA G + (ix p0)) (cg_T (vp_lt (inR_iff.mp h2))) rfl ?_
            refine j_iconst F (v := 1) dX3_reopen_81 (by decide) ?_
            refine j_iadd F dX3_reopen_82 ?_
            refine pf_X3_203 F hR.1 dX3_reopen_83 rfl rfl (4 + nA G + (ix p0)) (cg_T (vp_lt (inR_iff.mp h2))) (Nat.le_of_ble_eq_true rfl) (CW (kD k) G (u2 (u2 (u2 v 24 (ix p0) 0) 23 (ix p0) ((v 23 (ix p0)) + p1)) 28 (ix p0) ((v 28 (ix p0)) + 1)) r) (csT_8 (vp_lt (inR_iff.mp h2))) ?_
            refine j_aloadn F dX3_reopen_86 rfl ?_
            refine gf_X3_163 F (v := .int ((u2 (u2 v 24 (ix p0) 0) 23 (ix p0) ((v 23 (ix p0)) + p1)) 23 (ix p0))) dX3_reopen_87 (4 + nA G + (ix p0)) (cg_T (vp_lt (inR_iff.mp h2))) (tfi_3 (u2_ne1 (by decide))) ?_
            have hz : C_reopen (nA G) (nT G) v r p0 p1 = (0, (u2 (u2 v 24 (ix p0) 0) 23 (ix p0) ((v 23 (ix p0)) + p1)) 23 (ix p0), u2 (u2 (u2 v 24 (ix p0) 0) 23 (ix p0) ((v 23 (ix p0)) + p1)) 28 (ix p0) ((v 28 (ix p0)) + 1), r) := by rw [C_reopen, if_pos h2, if_neg h8, if_pos h15, if_pos h33, if_pos h48]
            exact j_iret F hR dX3_reopen_90 (Nat.le_of_ble_eq_true rfl) (Nat.le_of_ble_eq_true rfl) ⟨by rw [hz], by rw [hz], by rw [hz]⟩
          · have hz : C_reopen (nA G) (nT G) v r p0 p1 = (3, 0, v, r) := by rw [C_reopen, if_pos h2, if_neg h8, if_pos h15, if_pos h33, if_neg h48]
            exact j_throw F hX hNT lt_eS (text := "the ticket is not solved, or was so long ago") (by decide +kernel) ⟨by rw [hz]; exact (Nat.succ_ne_zero _), by rw [hz]; rfl⟩ dX3_reopen_51 dX3_reopen_54 dX3_reopen_55 dX3_reopen_57 dX3_reopen_60 ⟨(Nat.le_of_ble_eq_true rfl), (Nat.le_of_ble_eq_true rfl), (Nat.le_of_ble_eq_true rfl), (Nat.le_of_ble_eq_true rfl)⟩ (Nat.le_of_ble_eq_true rfl) (Nat.le_of_ble_eq_true rfl)
      · have hz : C_reopen (nA G) (nT G) v r p0 p1 = (1, 0, v, r) := by rw [C_reopen, if_pos h2, if_neg h8, if_neg h15]
        exact j_throw F hX hNT lt_eA (text := "no such greater effort") (by decide +kernel) ⟨by rw [hz]; exact (Nat.succ_ne_zero _), by rw [hz]; rfl⟩ dX3_reopen_18 dX3_reopen_21 dX3_reopen_22 dX3_reopen_24 dX3_reopen_27 ⟨(Nat.le_of_ble_eq_true rfl), (Nat.le_of_ble_eq_true rfl), (Nat.le_of_ble_eq_true rfl), (Nat.le_of_ble_eq_true rfl)⟩ (Nat.le_of_ble_eq_true rfl) (Nat.le_of_ble_eq_true rfl)
  · obtain ⟨h2, rfl⟩ := hE
    have hz : C_reopen (nA G) (nT G) v r p0 p1 = (2, 0, v, r) := by rw [C_reopen, if_neg h2]
    exact jx_out F hX hNT ⟨by rw [hz]; exact (Nat.succ_ne_zero _), by rw [hz]; rfl⟩ (Nat.le_of_ble_eq_true rfl) (Nat.le_of_ble_eq_true rfl)
def C_ticketCount (na nt : Nat) (v : S2) (r : R2) : Int32 := nI nt
def C_ticket (na nt : Nat) (v : S2) (r : R2) (p0 : Int32) (p1 : Int32) : Nat × Int32 × S2 × R2 := if inR p0 nt = true then (if p1 < 0 then (2, 0, v, r) else if p1 < 8 then (0, C_toldOfTicket na nt v r (ix p0) p1, v, r) else (2, 0, v, r)) else (2, 0, v, r)
set_option maxHeartbeats 4000000 in
set_option maxRecDepth 100000 in
theorem qX3_ticket (l : Launch) (hst : l.stackTraces = false) (D : va_G) (G : CG) (v : S2) (r : R2) (p0 : Int32) (p1 : Int32) (hG : GI D G) (hC : CI G v r) : CX l D yX3_ticket cX3_ticket 4 (some .int) 7 131 2 12 (CW D G v r) [.ref (G.1 0 0), .int p0, .int p1] (fun u w => (C_ticket (nA G) (nT G) v r p0 p1).1 = 0 ∧ u = some (.int ((C_ticket (nA G) (nT G) v r p0 p1).2.1)) ∧ w = CW D G (C_ticket (nA G) (nT G) v r p0 p1).2.2.1 (C_ticket (nA G) (nT G) v r p0 p1).2.2.2) (fun E => (C_ticket (nA G) (nT G) v r p0 p1).1 ≠ 0 ∧ E = xE (C_ticket (nA G) (nT G) v r p0 p1).1) := by
  refine CX_of [some (.ref (G.1 0 0)), some (.int p0), some (.int p1), none] hst (by decide +kernel) rfl (Nat.le_of_ble_eq_true rfl) (fun k F hl hD hR hX hNT => ?_)
  subst hl hD
  refine j_aloadn F dX3_ticket_0 rfl ?_
  refine j_iloadn F dX3_ticket_1 rfl ?_
  refine j_cxV0 F hR.1 (qX3_ticketAt (kl k) hst (kD k) G v r p0 hG) lk_X3_143 dX3_ticket_2 ⟨(Nat.le_of_ble_eq_true rfl), (Nat.le_of_ble_eq_true rfl)⟩ 0 rfl rfl rfl (Nat.le_of_ble_eq_true rfl) ⟨(Nat.le_of_ble_eq_true rfl), (Nat.le_of_ble_eq_true rfl)⟩ (fun u w1 hp => ?_) (fun E hE => ?_)
  · obtain ⟨h2, rfl, rfl⟩ := hp
    refine j_st [.ref (aT G (ix p0))] rfl ?_
    refine j_astoren F [some (.ref (G.1 0 0)), some (.int p0), some (.int p1), some (.ref (aT G (ix p0)))] dX3_ticket_5 rfl rfl rfl ?_
    refine j_iloadn F dX3_ticket_6 rfl ?_
    refine j_iflt F (tgt := 16) dX3_ticket_7 (by decide) (fun h7 => ?_) (fun h7 => ?_)
    · have hz : C_ticket (nA G) (nT G) v r p0 p1 = (2, 0, v, r) := by rw [C_ticket, if_pos h2, if_pos h7]
      exact j_throw F hX hNT lt_eI (text := "no such thing is told of a ticket") (by decide +kernel) ⟨by rw [hz]; exact (Nat.succ_ne_zero _), by rw [hz]; rfl⟩ dX3_ticket_16 dX3_ticket_19 dX3_ticket_20 dX3_ticket_22 dX3_ticket_25 ⟨(Nat.le_of_ble_eq_true rfl), (Nat.le_of_ble_eq_true rfl), (Nat.le_of_ble_eq_true rfl), (Nat.le_of_ble_eq_true rfl)⟩ (Nat.le_of_ble_eq_true rfl) (Nat.le_of_ble_eq_true rfl)
    · refine j_iloadn F dX3_ticket_10 rfl ?_
      refine j_bipush F (v := 8) dX3_ticket_11 (by decide) ?_
      refine j_iclt F (tgt := 26) dX3_ticket_13 (by decide) (fun h13 => ?_) (fun h13 => ?_)
      · refine j_aloadn F dX3_ticket_26 rfl ?_
        refine j_iloadn F dX3_ticket_27 rfl ?_
        refine j_rdS F (qX3_toldOfTicket (kl k) hst (kD k) G v r (ix p0) p1 hC ((vp_lt (inR_iff.mp h2)))) lk_X3_208 dX3_ticket_28 ⟨(Nat.le_of_ble_eq_true rfl), (Nat.le_of_ble_eq_true rfl)⟩ (fun _ h => h) rfl (Nat.le_of_ble_eq_true rfl) ⟨(Nat.le_of_ble_eq_true rfl), (Nat.le_of_ble_eq_true rfl)⟩ ?_
        have hz : C_ticket (nA G) (nT G) v r p0 p1 = (0, C_toldOfTicket (nA G) (nT G) v r (ix p0) p1, v, r) := by rw [C_ticket, if_pos h2, if_neg h7, if_pos h13]
        exact j_iret F hR dX3_ticket_31 (Nat.le_of_ble_eq_true rfl) (Nat.le_of_ble_eq_true rfl) ⟨by rw [hz], by rw [hz], by rw [hz]⟩
      · have hz : C_ticket (nA G) (nT G) v r p0 p1 = (2, 0, v, r) := by rw [C_ticket, if_pos h2, if_neg h7, if_neg h13]
        exact j_throw F hX hNT lt_eI (text := "no such thing is told of a ticket") (by decide +kernel) ⟨by rw [hz]; exact (Nat.succ_ne_zero _), by rw [hz]; rfl⟩ dX3_ticket_16 dX3_ticket_19 dX3_ticket_20 dX3_ticket_22 dX3_ticket_25 ⟨(Nat.le_of_ble_eq_true rfl), (Nat.le_of_ble_eq_true rfl), (Nat.le_of_ble_eq_true rfl), (Nat.le_of_ble_eq_true rfl)⟩ (Nat.le_of_ble_eq_true rfl) (Nat.le_of_ble_eq_true rfl)
  · obtain ⟨h2, rfl⟩ := hE
    have hz : C_ticket (nA G) (nT G) v r p0 p1 = (2, 0, v, r) := by rw [C_ticket, if_neg h2]
    exact jx_out F hX hNT ⟨by rw [hz]; exact (Nat.succ_ne_zero _), by rw [hz]; rfl⟩ (Nat.le_of_ble_eq_true rfl) (Nat.le_of_ble_eq_true rfl)
def C_main (na nt : Nat) (v : S2) (r : R2) (p0 : Int32) : Nat × Int32 × S2 × R2 := if inR p0 nt = true then (0, v 20 (C_mainOf na nt v r (ix p0)), v, r) else (2, 0, v, r)
def C_customers (na nt : Nat) (v : S2) (r : R2) (p0 : Int32) : Nat × Int32 × S2 × R2 := if inR p0 nt = true then (0, v 31 (ix p0), v, r) else (2, 0, v, r)
def C_due (na nt : Nat) (v : S2) (r : R2) (p0 : Int32) : Nat × Int32 × S2 × R2 := if inR p0 nt = true then (if (v 24 (ix p0)) = 4 then (0, (-1), v, r) else if 0 ≤ (C_slackOf na nt v r (ix p0)) then (0, C_H_minuteOfService na nt v r (v 0 0) ((C_slackOf na nt v r (ix p0)) + 1), v, r) else (0, (-1), v, r)) else (2, 0, v, r)
end
section
/-! ROWS THAT MAKE ARRAYS; ArrayList's own methods that write -/
theorem u_gs39 : Cond.fieldLink RJx4a65c 39 "java/util/ArrayList" "DEFAULTCAPACITY_EMPTY_ELEMENTDATA" "[Ljava/lang/Object;" ∈ Uw := Uw_of (i := 72) (by decide +kernel) (by decide +kernel)
theorem un_getClass : Cond.instanceMethod (⟨"java/lang/Object", "getClass", "()Ljava/lang/Class;"⟩ : MethodName) ∈ Uw := Uw_of (i := 476) (by decide +kernel) (by decide +kernel)
theorem ut_getClass : Cond.native (⟨"java/lang/Object", "getClass", "()Ljava/lang/Class;"⟩ : MethodName) ∈ Uw := Uw_of (i := 486) (by decide +kernel) (by decide +kernel)
theorem ue_getClass : Cond.selects "[Ljava/lang/Object;" (⟨"java/lang/Object", "getClass", "()Ljava/lang/Class;"⟩ : MethodName) (⟨"java/lang/Object", "getClass", "()Ljava/lang/Class;"⟩ : MethodName) ∈ Uw := Uw_of (i := 578) (by decide +kernel) (by decide +kernel)
theorem us_arraycopy : Cond.static arraycopyName ∈ Uw := Uw_of (i := 495) (by decide +kernel) (by decide +kernel)
theorem ut_arraycopy : Cond.native arraycopyName ∈ Uw := Uw_of (i := 496) (by decide +kernel) (by decide +kernel)
theorem ui_System : Cond.initialized "java/lang/System" ∈ Uw := Uw_of (i := 33) (by decide +kernel) (by decide +kernel)
abbrev ain (D : va_G) (a N : Nat) (f : Nat → Int32) : Nat × va_E := (a, .inl (D.1 100, N, .inl f))
abbrev aob (D : va_G) (a N : Nat) (f : Nat → Option Nat) : Nat × va_E := (a, .inl (D.1 101, N, .inr (.inr (.inr (.inr f)))))
theorem nI_pos2 {N : Nat} (h : N ≤ 1000) : ¬ nI N < 0 := nI_pos (by omega)
section AROWS
variable {k : Kx} {cc : ByteArray} {own : String} {R : Room} {nL : Nat} {ws : va_W} {c n pc : Nat} {lv : List (Option Value)} {st : List Value}
theorem j_newa (F : Fx k cc own R nL) (hw : kw k = true) {N : Nat} {x : Int32} (hx : x = nI N) (hN : N ≤ 1000) (hd : decode cc pc = .ok (.newarray .int, 2)) (hc1 : c + 1 ≤ R.cells) (hn1 : n + N ≤ R.slots) (K : ∀ q, J k (ws ++ [ain (kD k) q N (fun _ => 0)]) (c + 1) (n + N) (pc + 2) lv (.ref q :: st)) : J k ws c n pc lv (.int x :: st) := fun H locs ls hP hL => by
  subst hx
  refine va_newa (atype := .int) F.hx F.hb (F.hts ua_int) rfl F.hK.1 hP.1 (hP.2.1 hw) hP.2.2.1 (F.hA hw) (a0 := (N, .inl fun _ => 0)) (fun _ => rfl) (nI_pos2 hN) (ix_nI (by omega)) (by show N * 4 ≤ _; omega) (by rw [F.hR]; exact hc1) (by rw [F.hR]; exact hn1) hd (fun q cA H1 h0 h1 h2 h3 => ?_)
  have a1 : (ks k).vm.findClass "[I" = some cA := (h0.2 2 _ rfl).2
  have a2 : (ks k).vm.findClass "[I" = some ((kD k).1 100) := (F.hK.1.2 0 _ rfl).2
  have e : cA = (kD k).1 100 := Option.some.inj (a1.symm.trans a2)
  subst e
  exact K q H1 locs ls (hP.put hw h1 h2 h3) hL
theorem j_newq (F : Fx k cc own R nL) (hw : kw k = true) {idx N : Nat} {x : Int32} (hx : x = nI N) (hN : N ≤ 1000) (hl : Cond.classLink own idx "java/lang/Object" ∈ Uw) (hd : decode cc pc = .ok (.anewarray idx, 3)) (hc1 : c + 1 ≤ R.cells) (hn1 : n + N ≤ R.slots) (K : ∀ q, J k (ws ++ [aob (kD k) q N (fun _ => none)]) (c + 1) (n + N) (pc + 3) lv (.ref q :: st)) : J k ws c n pc lv (.int x :: st) := fun H locs ls hP hL => by
  subst hx
  refine va_newq F.hx F.hb F.hown (F.hts hl) F.hK.2.2.2.2.1 F.hK.1 hP.1 (hP.2.1 hw) hP.2.2.1 (F.hA hw) (nI_pos2 hN) (ix_nI (by omega)) (by omega) (by rw [F.hR]; exact hc1) (by rw [F.hR]; exact hn1) hd (fun q cA H1 h0 h1 h2 h3 => ?_)
  obtain ⟨_, _, _, _, _, a1⟩ := (h0.2 2 _ rfl).2
  obtain ⟨_, _, _, _, _, a2⟩ := (F.hK.1.2 1 _ rfl).2
  have e : cA = (kD k).1 101 := Option.some.inj (a1.symm.trans a2)
  subst e
  exact K q H1 locs ls (hP.put hw h1 h2 h3) hL
theorem j_gs39 (F : Fx k cc RJx4a65c R nL) (hw : kw k = true) (hd : decode cc pc = .ok (.getstatic 39, 3)) (K : J k ws c n (pc + 3) lv (.ref (dE (kD k)) :: st)) : J k ws c n pc lv st := fun H locs ls hP hL =>
  va_gets F.hx F.hb (F.hZ hw).2.2.1 hP.2.2.1 F.hown (F.hts u_gs39) (fun _ h => h) hd (K H locs ls hP hL)
theorem j_tlen (F : Fx k cc own R nL) (hw : kw k = true) (hd : decode cc pc = .ok (.arraylength, 1)) (K : J k ws c n (pc + 1) lv (.int 0 :: st)) : J k ws c n pc lv (.ref (dE (kD k)) :: st) := fun H locs ls hP hL =>
  va_tlen F.hx F.hb (F.hZ hw).2.2.2 hP.2.2.1 (v := 0) rfl hd (K H locs ls hP hL)
theorem j_astq (F : Fx k cc own R nL) (hw : kw k = true) {ci a v N NN : Nat} {C : String} {T : u_T} {vs : List Value} {f : Nat → Option Nat} {i : Int32} (hd : decode cc pc = .ok (.aastore, 1)) (q : Nat) (hq : ws[q]? = some (aob (kD k) a N f)) (hca : (C, "java/lang/Object") ∈ cas) (hv : (v, .inr (ci, vs)) ∈ ws) (hc : vwCl[ci]? = some (C, T, NN)) (hin : vp_in i N) (ws' : va_W) (he : ws.set q (aob (kD k) a N (va_up f (ix i) (some v))) = ws') (K : J k ws' c n (pc + 1) lv st) : J k ws c n pc lv (.ref v :: .int i :: .ref a :: st) := fun H locs ls hP hL => by
  obtain ⟨qk, hqk⟩ := List.getElem?_of_mem hv
  subst he
  exact va_astqO F.hx F.hb F.hK.1 hP.1 (hP.2.1 hw) hP.2.2.1 q 1 qk ci hq rfl (F.hK.2.2.2.1 _ hca) hqk hc hin hd (fun H1 locs1 h1 h2 h3 => K H1 locs1 ls (hP.put hw h1 h2 h3) hL)
theorem j_getC (F : Fx k cc RJ7 R nL) {a N : Nat} {f : Nat → Option Nat} (hd : decode cc pc = .ok (.invokevirtual 86, 3)) (q : Nat) (hq : ws[q]? = some (aob (kD k) a N f)) (hR : 1 ≤ R.frames ∧ (st.map fun v => v.category).sum + 14 ≤ R.locals) (K : J k ws c n (pc + 3) lv (.ref (dM (kD k)) :: st)) : J k ws c n pc lv (.ref a :: st) := fun H locs ls hP hL => by
  obtain ⟨_, _, _, _, _, a2⟩ := (F.hK.1.2 1 _ rfl).2
  exact va_getC F.hx F.hb (F.hml.trans (F.hn.symm.trans hL.1.symm)) F.hown (F.hts um_J7_86) (va_Dc.use F.hK.2.2.2.2.2.2.1) (F.hts ue_getClass) (F.hts un_getClass) (F.hts ut_getClass) F.hK.2.2.2.2.2.1 ⟨_, hP.1 q _ hq, rfl, a2⟩ (by rw [F.hR]; exact hR.1) (by rw [F.hR]; exact hR.2) hd (K H locs ls hP hL)
theorem j_ldcM (F : Fx k cc RJ7 R nL) (hd : decode cc pc = .ok (.ldc 110, 2)) (K : J k ws c n (pc + 2) lv (.ref (dM (kD k)) :: st)) : J k ws c n pc lv st := fun H locs ls hP hL =>
  va_ldcM F.hx F.hb F.hown (F.hts ul_J7_110) F.hK.2.2.2.2.2.1 hd (K H locs ls hP hL)
theorem j_copyq (F : Fx k cc RJ7 R nL) (hw : kw k = true) {ci a0 a1 n0 n1 m NN : Nat} {C : String} {T : u_T} {f g : Nat → Option Nat} (hd : decode cc pc = .ok (.invokestatic 150, 3)) (q0 q1 : Nat) (h0 : ws[q0]? = some (aob (kD k) a0 n0 f)) (h1 : ws[q1]? = some (aob (kD k) a1 n1 g)) (hm : m ≤ n0 ∧ m ≤ n1 ∧ n1 ≤ 1000) (hca : (C, "java/lang/Object") ∈ cas) (hc : vwCl[ci]? = some (C, T, NN)) (hel : ∀ i, i < m → ∀ y, f i = some y → ∃ fs, (y, .inr (ci, fs)) ∈ ws)
    (hR : 1 ≤ R.frames ∧ (st.map fun v => v.category).sum + (nativeFrameWords "java/lang/System" "arraycopy" 5 + 11) ≤ R.locals) (ws' : va_W) (he : ws.set q1 (aob (kD k) a1 n1 (va_cpy f g 0 0 m)) = ws') (K : J k ws' c n (pc + 3) lv st) : J k ws c n pc lv (.int (nI m) :: .int 0 :: .ref a1 :: .int 0 :: .ref a0 :: st) := fun H locs ls hP hL => by
  subst he
  have em : (nI m).toNatClampNeg = m := ix_nI (by omega)
  have e0 : (0 : Int32).toNatClampNeg = 0 := by decide
  have hh := va_copyq (C := C) F.hx F.hb (F.hml.trans (F.hn.symm.trans hL.1.symm)) F.hown (F.hts um_J7_150) (F.hts ut_arraycopy) (F.hts us_arraycopy) (F.hts ui_System) F.hK.1 hP.1 (hP.2.1 hw) hP.2.2.1 q0 q1 1 1 h0 h1 rfl rfl (sp := 0) (dp := 0) (n := nI m) (by decide) (by decide) (nI_pos (by omega)) (by rw [em, e0]; omega) (by rw [em, e0]; omega)
    (fun i hi y hy => by
      rw [em] at hi
      rw [e0, Nat.zero_add] at hy
      obtain ⟨fs, hm⟩ := hel i hi y hy
      obtain ⟨qk, hqk⟩ := List.getElem?_of_mem hm
      exact hP.recv F hqk hc)
    (fun comp c0 hc1 hc2 => by
      obtain ⟨c3, t3, f1, f2, f3⟩ := Cond.castable_spec (va_Nw.use (A := kargs k) rfl (F.hK.2.2.2.1 _ hca))
      cases hc2.symm.trans f1
      cases hc1.symm.trans f2
      exact f3) (by rw [F.hR]; exact hR.1) (by rw [F.hR]; exact hR.2) hd (l := kl k) (e := ke k) (rest := st) (cells := c) (slots := n) (Q := kQ k) (R := kR k) (p := kp k) (below := kbelow k) (meth := kmeth k) (ls := ls)
  rw [em, e0] at hh
  exact hh (fun H1 locs1 p1 p2 p3 => K H1 locs1 ls (hP.put hw p1 p2 p3) hL)
theorem j_drop (ws' : va_W) (h : ws'.Sublist ws) (K : J k ws' c n pc lv st) : J k ws c n pc lv st := fun H locs ls hP hL =>
  K H locs ls ⟨fun i q hq => by
    obtain ⟨j, hj⟩ := List.getElem?_of_mem (h.mem (List.mem_of_getElem? hq))
    exact hP.1 j q hj, fun hw => by
    have hD := va_D.iff.mp (hP.2.1 hw)
    exact va_D.iff.mpr ⟨(h.map _).nodup hD.1, fun q hq => hD.2 q (h.mem hq)⟩, hP.2.2⟩ hL
end AROWS
end
section
section LCALLS
variable {k : Kx} {cc : ByteArray} {own : String} {R : Room} {nL : Nat} {ws : va_W} {c n pc : Nat} {lv : List (Option Value)} {st stk : List Value}
theorem j_cmV0 (F : Fx k cc own R nL) (hw : kw k = true) {C : String} {y : MethodName} {ccy : ByteArray} {maxL : Nat} {ret : Option FieldType} {fr lo mc ms idx b : Nat} {as : List Value} {P : Option Value → va_W → Prop} (hM : CM (kl k) (kD k) y ccy maxL ret fr lo mc ms ws (.ref b :: as) P) (hk : LkV own idx C y ccy maxL ret as.length) (hd : decode cc pc = .ok (.invokevirtual idx, 3)) (hR : fr + 1 ≤ R.frames ∧ 8 + (maxL + 11) + lo ≤ R.locals)
    {T : u_T} {N ci : Nat} {fs : List Value} (q : Nat) (hq : ws[q]? = some (b, .inr (ci, fs))) (hc : vwCl[ci]? = some (C, T, N)) (hst : stk = as.reverse ++ .ref b :: st) (hW : (st.map fun v => v.category).sum ≤ 8) (hcn : c + mc ≤ R.cells ∧ n + ms ≤ R.slots) (K : ∀ v w1, P v w1 → J k w1 (c + mc) (n + ms) (pc + 3) lv (vlist v st)) : J k ws c n pc lv stk := by
  rw [← List.append_nil ws]
  exact j_cmV F hw hM hk hd hR q (by rw [List.append_nil]; exact hq) hc hst hW hcn (fun v w1 h => by rw [List.append_nil]; exact K v w1 h)
theorem j_cmS0 (F : Fx k cc own R nL) (hw : kw k = true) {y : MethodName} {ccy : ByteArray} {maxL : Nat} {ret : Option FieldType} {fr lo mc ms idx : Nat} {as : List Value} {P : Option Value → va_W → Prop} (hM : CM (kl k) (kD k) y ccy maxL ret fr lo mc ms ws as P) (hk : LkS own idx y ccy maxL ret as.length) (hd : decode cc pc = .ok (.invokestatic idx, 3)) (hR : fr + 1 ≤ R.frames ∧ 8 + (maxL + 11) + lo ≤ R.locals)
    (hst : stk = as.reverse ++ st) (hW : (st.map fun v => v.category).sum ≤ 8) (hcn : c + mc ≤ R.cells ∧ n + ms ≤ R.slots) (K : ∀ v w1, P v w1 → J k w1 (c + mc) (n + ms) (pc + 3) lv (vlist v st)) : J k ws c n pc lv stk := by
  rw [← List.append_nil ws]
  exact j_cmS F hw hM hk hd hR hst hW hcn (fun v w1 h => by rw [List.append_nil]; exact K v w1 h)
end LCALLS
abbrev tyOA : FieldType := .array (.object "java/lang/Object")
theorem qJ_newLen (l : Launch) (hst : l.stackTraces = false) (D : va_G) (a b d : Nat) (ha : a ≤ 1000) (hb : 0 < b ∧ b ≤ 1000) (hd : d ≤ 1000) : CR l D yJ8_newLength_cabcc cJ8_newLength_cabcc 4 (some .int) 1 30 [] [.int (nI a), .int (nI b), .int (nI d)] (.int (nI (a + max b d))) := by
  refine CR_of [some (.int (nI a)), some (.int (nI b)), some (.int (nI d)), none] hst (by decide +kernel) rfl (Nat.le_of_ble_eq_true rfl) (fun k F hl hD hR => ?_)
  subst hl hD
  have em : (if nI b < nI d then nI d else nI b) = nI (max b d) := by
    by_cases h : b < d
    · rw [if_pos (nI_lt h (by omega)), Nat.max_eq_right (by omega)]
    · rw [if_neg (nI_nlt (by omega) (by omega)), Nat.max_eq_left (by omega)]
  have hm : max b d ≤ 1000 := by omega
  refine j_iloadn F dJ8_newLength_cabcc_0 rfl ?_
  refine j_iloadn F dJ8_newLength_cabcc_1 rfl ?_
  refine j_iloadn F dJ8_newLength_cabcc_2 rfl ?_
  refine j_mmax F um_J8_194 us_max ui_Math ud_max dJ8_newLength_cabcc_3 ⟨(Nat.le_of_ble_eq_true rfl), (Nat.le_of_ble_eq_true rfl), (Nat.le_of_ble_eq_true rfl), (Nat.le_of_ble_eq_true rfl)⟩ ?_
  rw [em]
  refine j_iadd F dJ8_newLength_cabcc_6 ?_
  rw [nI_add]
  refine j_istoren F [some (.int (nI a)), some (.int (nI b)), some (.int (nI d)), some (.int (nI (a + max b d)))] dJ8_newLength_cabcc_7 rfl rfl rfl ?_
  refine j_iconst F (v := 0) dJ8_newLength_cabcc_8 (by decide) ?_
  refine j_iloadn F dJ8_newLength_cabcc_9 rfl ?_
  refine j_icge F (tgt := 21) dJ8_newLength_cabcc_10 (by decide) (fun h => absurd h (nI_ge (a := 0) (by omega) (by omega))) (fun _ => ?_)
  refine j_iloadn F dJ8_newLength_cabcc_13 rfl ?_
  refine j_ldc F uc_J8_200 dJ8_newLength_cabcc_14 ?_
  refine j_icgt F (tgt := 21) dJ8_newLength_cabcc_16 (by decide) (fun h => ?_) (fun _ => ?_)
  · rw [Int32.lt_iff_toInt_lt, nI_toInt (by omega)] at h
    exact absurd h (by have : (2147483639 : Int32).toInt = 2147483639 := by decide
                       omega)
  refine j_iloadn F dJ8_newLength_cabcc_19 rfl ?_
  exact j_iretR F hR dJ8_newLength_cabcc_20 rfl
theorem qJ_copy3 (l : Launch) (hst : l.stackTraces = false) (D : va_G) (a0 n0 n1 : Nat) (f : Nat → Option Nat) (els : va_W) {ci NN : Nat} {C : String} {T : u_T} (hn : n0 ≤ n1 ∧ n1 ≤ 30) (hca : (C, "java/lang/Object") ∈ cas) (hc : vwCl[ci]? = some (C, T, NN)) (hel : ∀ i, i < n0 → ∀ y, f i = some y → ∃ fs, (y, .inr (ci, fs)) ∈ els) : CM l D yJ7_copyOf_6403c cJ7_copyOf_6403c 4 (some tyOA) 1 60 1 30 (aob D a0 n0 f :: els) [.ref a0, .int (nI n1), .ref (dM D)] (fun u w => ∃ q, u = some (.ref q) ∧ w = aob D a0 n0 f :: aob D q n1 (va_cpy f (fun _ => none) 0 0 n0) :: els) := by
  refine CM_of [some (.ref a0), some (.int (nI n1)), some (.ref (dM D)), none] hst (by decide +kernel) rfl (Nat.le_of_ble_eq_true rfl) (fun k F hl hD hin hR => ?_)
  subst hl hD
  obtain ⟨hn1, hn2⟩ := hn
  refine j_aloadn F dJ7_copyOf_6403c_0 rfl ?_
  refine j_ldcM F dJ7_copyOf_6403c_1 ?_
  refine j_st (va_rf (some (dM (kD k))) :: va_rf (some (dM (kD k))) :: []) rfl ?_
  refine j_acne F (tgt := 13) dJ7_copyOf_6403c_3 (by decide) (fun h => absurd rfl h) (fun _ => ?_)
  refine j_iloadn F dJ7_copyOf_6403c_6 rfl ?_
  refine j_newq F hR.1 rfl (by omega) ul_J7_2 dJ7_copyOf_6403c_7 (Nat.le_of_ble_eq_true rfl) (by show 0 + n1 ≤ 30; omega) (fun q => ?_)
  refine j_perm (aob (kD k) a0 n0 f :: aob (kD k) q n1 (fun _ => none) :: els) (List.Perm.cons _ (List.perm_append_comm (l₁ := els) (l₂ := [aob (kD k) q n1 (fun _ => none)]))) ?_
  refine j_goto F (tgt := 24) dJ7_copyOf_6403c_10 (by decide) ?_
  refine j_astoren F [some (.ref a0), some (.int (nI n1)), some (.ref (dM (kD k))), some (.ref q)] dJ7_copyOf_6403c_24 rfl rfl rfl ?_
  refine j_aloadn F dJ7_copyOf_6403c_25 rfl ?_
  refine j_iconst F (v := 0) dJ7_copyOf_6403c_26 (by decide) ?_
  refine j_aloadn F dJ7_copyOf_6403c_27 rfl ?_
  refine j_iconst F (v := 0) dJ7_copyOf_6403c_28 (by decide) ?_
  refine j_aloadn F dJ7_copyOf_6403c_29 rfl ?_
  refine j_alen F (t0 := 1) (v := nI n0) dJ7_copyOf_6403c_30 0 rfl rfl rfl ?_
  refine j_iloadn F dJ7_copyOf_6403c_31 rfl ?_
  refine j_mmin F um_J7_304 us_min ui_Math ud_min dJ7_copyOf_6403c_32 ⟨(Nat.le_of_ble_eq_true rfl), (Nat.le_of_ble_eq_true rfl), (Nat.le_of_ble_eq_true rfl), (by show 0 + n1 ≤ 30; omega)⟩ ?_
  rw [if_neg (nI_nlt hn1 (by omega))]
  refine j_copyq F hR.1 dJ7_copyOf_6403c_35 0 1 rfl rfl ⟨Nat.le_refl _, hn1, by omega⟩ hca hc (fun i hi y hy => ?_) ⟨(Nat.le_of_ble_eq_true rfl), (by decide +kernel)⟩ _ rfl ?_
  · obtain ⟨fs, hm⟩ := hel i hi y hy
    exact ⟨fs, List.mem_cons_of_mem _ (List.mem_cons_of_mem _ hm)⟩
  refine j_aloadn F dJ7_copyOf_6403c_38 rfl ?_
  exact j_aret F (x := some q) hR (Or.inr ⟨_, rfl⟩) dJ7_copyOf_6403c_39 (Nat.le_of_ble_eq_true rfl) (by show 0 + n1 ≤ 30; omega) ⟨q, rfl, rfl⟩
theorem qJ_copy2 (l : Launch) (hst : l.stackTraces = false) (D : va_G) (a0 n0 n1 : Nat) (f : Nat → Option Nat) (els : va_W) {ci NN : Nat} {C : String} {T : u_T} (hn : n0 ≤ n1 ∧ n1 ≤ 30) (hca : (C, "java/lang/Object") ∈ cas) (hc : vwCl[ci]? = some (C, T, NN)) (hel : ∀ i, i < n0 → ∀ y, f i = some y → ∃ fs, (y, .inr (ci, fs)) ∈ els) : CM l D yJ7_copyOf_1904c cJ7_copyOf_1904c 2 (some tyOA) 2 83 1 30 (aob D a0 n0 f :: els) [.ref a0, .int (nI n1)] (fun u w => ∃ q, u = some (.ref q) ∧ w = aob D a0 n0 f :: aob D q n1 (va_cpy f (fun _ => none) 0 0 n0) :: els) := by
  refine CM_of [some (.ref a0), some (.int (nI n1))] hst (by decide +kernel) rfl (Nat.le_of_ble_eq_true rfl) (fun k F hl hD hin hR => ?_)
  subst hl hD
  refine j_aloadn F dJ7_copyOf_1904c_0 rfl ?_
  refine j_iloadn F dJ7_copyOf_1904c_1 rfl ?_
  refine j_aloadn F dJ7_copyOf_1904c_2 rfl ?_
  refine j_getC F dJ7_copyOf_1904c_3 0 rfl ⟨(Nat.le_of_ble_eq_true rfl), (Nat.le_of_ble_eq_true rfl)⟩ ?_
  refine j_cmS0 F hR.1 (qJ_copy3 (kl k) hst (kD k) a0 n0 n1 f els hn hca hc hel) lk_J7_300 dJ7_copyOf_1904c_6 ⟨(Nat.le_of_ble_eq_true rfl), (Nat.le_of_ble_eq_true rfl)⟩ rfl (Nat.le_of_ble_eq_true rfl) ⟨(Nat.le_of_ble_eq_true rfl), (Nat.le_of_ble_eq_true rfl)⟩ (fun u w1 hp => ?_)
  obtain ⟨q, rfl, rfl⟩ := hp
  exact j_aret F (x := some q) hR (Or.inr ⟨_, rfl⟩) dJ7_copyOf_1904c_9 (Nat.le_of_ble_eq_true rfl) (Nat.le_of_ble_eq_true rfl) ⟨q, rfl, rfl⟩
/-- what the list's array has become when it grew -/
def Grown (D : va_G) (L : Nat) (m : Int32) (n : Nat) (f : Nat → Option Nat) (els : va_W) (u : Option Value) (w : va_W) : Prop := ∃ (E' cap' : Nat) (f' : Nat → Option Nat), u = some (.ref E') ∧ w = lsC L E' m n :: elC D E' cap' f' :: els ∧ n < cap' ∧ cap' ≤ 30 ∧ 10 ≤ cap' ∧ ∀ i, i < n → f' i = f i
theorem nI_half : ∀ n, n ≤ 20 → nI n >>> ((1 : Int32) &&& 31) = nI (n / 2) := by decide +kernel
theorem qJ_growI (l : Launch) (hst : l.stackTraces = false) (D : va_G) (L E n : Nat) (m : Int32) (f : Nat → Option Nat) (els : va_W) {ci NN : Nat} {C : String} {T : u_T} (hn : n ≤ 20 ∧ (n = 0 ∨ 10 ≤ n)) (hE : n = 0 → E = dE D) (hca : (C, "java/lang/Object") ∈ cas) (hc : vwCl[ci]? = some (C, T, NN)) (hel : ∀ i, i < n → ∀ y, f i = some y → ∃ fs, (y, .inr (ci, fs)) ∈ els) : CM l D yJx4a65c_grow_92f84 cJx4a65c_grow_92f84 4 (some tyOA) 3 104 1 30 (LW D L (E, m, n, f) n ++ els) [.ref L, .int (nI (n + 1))] (Grown D L m n f els) := by
  refine CM_of [some (.ref L), some (.int (nI (n + 1))), none, none] hst (by decide +kernel) rfl (Nat.le_of_ble_eq_true rfl) (fun k F hl hD hin hR => ?_)
  subst hl hD
  obtain ⟨hn2, hn3⟩ := hn
  by_cases h0 : n = 0
  · subst h0
    have hE := hE rfl
    subst hE
    refine j_ws (lsC L (dE (kD k)) m 0 :: els) rfl ?_
    refine j_aloadn F dJx4a65c_grow_92f84_0 rfl ?_
    refine gf_Jx4a65c_9 F (v := .ref (dE (kD k))) dJx4a65c_grow_92f84_1 0 rfl rfl ?_
    refine j_tlen F hR.1 dJx4a65c_grow_92f84_4 ?_
    refine j_istoren F [some (.ref L), some (.int (nI (0 + 1))), some (.int 0), none] dJx4a65c_grow_92f84_5 rfl rfl rfl ?_
    refine j_iloadn F dJx4a65c_grow_92f84_6 rfl ?_
    refine j_ifgt F (tgt := 20) dJx4a65c_grow_92f84_7 (by decide) (fun h => absurd h (by decide)) (fun _ => ?_)
    refine j_aloadn F dJx4a65c_grow_92f84_10 rfl ?_
    refine gf_Jx4a65c_9 F (v := .ref (dE (kD k))) dJx4a65c_grow_92f84_11 0 rfl rfl ?_
    refine j_gs39 F hR.1 dJx4a65c_grow_92f84_14 ?_
    refine j_st (va_rf (some (dE (kD k))) :: va_rf (some (dE (kD k))) :: []) rfl ?_
    refine j_aceq F (tgt := 45) dJx4a65c_grow_92f84_17 (by decide) (fun _ => ?_) (fun h => absurd rfl h)
    refine j_aloadn F dJx4a65c_grow_92f84_45 rfl ?_
    refine j_bipush F (v := 10) dJx4a65c_grow_92f84_46 (by decide) ?_
    refine j_iloadn F dJx4a65c_grow_92f84_48 rfl ?_
    refine j_mmax F um_Jx4a65c_79 us_max ui_Math ud_max dJx4a65c_grow_92f84_49 ⟨(Nat.le_of_ble_eq_true rfl), (Nat.le_of_ble_eq_true rfl), (Nat.le_of_ble_eq_true rfl), (Nat.le_of_ble_eq_true rfl)⟩ ?_
    refine j_newq F hR.1 (N := 10) (by decide) (by decide) ul_Jx4a65c_7 dJx4a65c_grow_92f84_52 (Nat.le_of_ble_eq_true rfl) (Nat.le_of_ble_eq_true rfl) (fun q => ?_)
    refine j_perm (lsC L (dE (kD k)) m 0 :: aob (kD k) q 10 (fun _ => none) :: els) (List.Perm.cons _ (List.perm_append_comm (l₁ := els) (l₂ := [aob (kD k) q 10 (fun _ => none)]))) ?_
    refine j_dupx1 F dJx4a65c_grow_92f84_55 rfl rfl ?_
    refine pf_Jx4a65c_9 F hR.1 dJx4a65c_grow_92f84_56 rfl rfl 0 rfl (Nat.le_of_ble_eq_true rfl) (lsC L q m 0 :: aob (kD k) q 10 (fun _ => none) :: els) rfl ?_
    exact j_aret F (x := some q) hR (Or.inr ⟨_, rfl⟩) dJx4a65c_grow_92f84_59 (Nat.le_of_ble_eq_true rfl) (Nat.le_of_ble_eq_true rfl) ⟨q, 10, _, rfl, rfl, by decide, by decide, by decide, fun i hi => absurd hi (Nat.not_lt_zero _)⟩
  · have h10 : 10 ≤ n := hn3.resolve_left h0
    refine j_ws (lsC L E m n :: aob (kD k) E n f :: els) (by rw [LW_two h0]; rfl) ?_
    refine j_aloadn F dJx4a65c_grow_92f84_0 rfl ?_
    refine gf_Jx4a65c_9 F (v := .ref E) dJx4a65c_grow_92f84_1 0 rfl rfl ?_
    refine j_alen F (t0 := 1) (v := nI n) dJx4a65c_grow_92f84_4 1 rfl rfl rfl ?_
    refine j_istoren F [some (.ref L), some (.int (nI (n + 1))), some (.int (nI n)), none] dJx4a65c_grow_92f84_5 rfl rfl rfl ?_
    refine j_iloadn F dJx4a65c_grow_92f84_6 rfl ?_
    refine j_ifgt F (tgt := 20) dJx4a65c_grow_92f84_7 (by decide) (fun _ => ?_) (fun h => absurd (nI_lt (a := 0) (b := n) (by omega) (by omega)) h)
    refine j_iloadn F dJx4a65c_grow_92f84_20 rfl ?_
    refine j_iloadn F dJx4a65c_grow_92f84_21 rfl ?_
    refine j_iloadn F dJx4a65c_grow_92f84_22 rfl ?_
    refine j_isub F dJx4a65c_grow_92f84_23 ?_
    rw [nI_sub (show n ≤ n + 1 from Nat.le_succ n), Nat.add_sub_cancel_left]
    refine j_iloadn F dJx4a65c_grow_92f84_24 rfl ?_
    refine j_iconst F (v := 1) dJx4a65c_grow_92f84_25 (by decide) ?_
    refine j_ishr F dJx4a65c_grow_92f84_26 ?_
    rw [nI_half n hn2]
    refine j_rdS F (qJ_newLen (kl k) hst (kD k) n 1 (n / 2) (by omega) (by decide) (by omega)) lk_Jx4a65c_73 dJx4a65c_grow_92f84_27 ⟨(Nat.le_of_ble_eq_true rfl), (Nat.le_of_ble_eq_true rfl)⟩ (fun _ h => nomatch h) rfl (Nat.le_of_ble_eq_true rfl) ⟨(Nat.le_of_ble_eq_true rfl), (Nat.le_of_ble_eq_true rfl)⟩ ?_
    refine j_istoren F [some (.ref L), some (.int (nI (n + 1))), some (.int (nI n)), some (.int (nI (n + max 1 (n / 2))))] dJx4a65c_grow_92f84_30 rfl rfl rfl ?_
    refine j_aloadn F dJx4a65c_grow_92f84_31 rfl ?_
    refine j_aloadn F dJx4a65c_grow_92f84_32 rfl ?_
    refine gf_Jx4a65c_9 F (v := .ref E) dJx4a65c_grow_92f84_33 0 rfl rfl ?_
    refine j_iloadn F dJx4a65c_grow_92f84_36 rfl ?_
    refine j_perm ((aob (kD k) E n f :: els) ++ [lsC L E m n]) (List.perm_append_comm (l₁ := [lsC L E m n]) (l₂ := aob (kD k) E n f :: els)) ?_
    refine j_cmS F hR.1 (qJ_copy2 (kl k) hst (kD k) E n (n + max 1 (n / 2)) f els ⟨by omega, by omega⟩ hca hc hel) lk_Jx4a65c_66 dJx4a65c_grow_92f84_37 ⟨(Nat.le_of_ble_eq_true rfl), (Nat.le_of_ble_eq_true rfl)⟩ rfl (Nat.le_of_ble_eq_true rfl) ⟨(Nat.le_of_ble_eq_true rfl), (Nat.le_of_ble_eq_true rfl)⟩ (fun u w1 hp => ?_)
    obtain ⟨q, rfl, rfl⟩ := hp
    refine j_perm (lsC L E m n :: aob (kD k) E n f :: aob (kD k) q (n + max 1 (n / 2)) (va_cpy f (fun _ => none) 0 0 n) :: els) (List.perm_append_comm (l₁ := aob (kD k) E n f :: aob (kD k) q (n + max 1 (n / 2)) (va_cpy f (fun _ => none) 0 0 n) :: els) (l₂ := [lsC L E m n])) ?_
    refine j_drop (lsC L E m n :: aob (kD k) q (n + max 1 (n / 2)) (va_cpy f (fun _ => none) 0 0 n) :: els) (List.Sublist.cons₂ _ (List.Sublist.cons _ (List.Sublist.refl _))) ?_
    refine j_dupx1 F dJx4a65c_grow_92f84_40 rfl rfl ?_
    refine pf_Jx4a65c_9 F hR.1 dJx4a65c_grow_92f84_41 rfl rfl 0 rfl (Nat.le_of_ble_eq_true rfl) (lsC L q m n :: aob (kD k) q (n + max 1 (n / 2)) (va_cpy f (fun _ => none) 0 0 n) :: els) rfl ?_
    refine j_aret F (x := some q) hR (Or.inr ⟨_, rfl⟩) dJx4a65c_grow_92f84_44 (Nat.le_of_ble_eq_true rfl) (Nat.le_of_ble_eq_true rfl) ⟨q, n + max 1 (n / 2), _, rfl, rfl, by omega, by omega, by omega, fun i hi => ?_⟩
    unfold va_cpy
    rw [if_pos ⟨Nat.zero_le _, by omega⟩]
    congr 1
    omega
theorem qJ_grow (l : Launch) (hst : l.stackTraces = false) (D : va_G) (L E n : Nat) (m : Int32) (f : Nat → Option Nat) (els : va_W) {ci NN : Nat} {C : String} {T : u_T} (hn : n ≤ 20 ∧ (n = 0 ∨ 10 ≤ n)) (hE : n = 0 → E = dE D) (hca : (C, "java/lang/Object") ∈ cas) (hc : vwCl[ci]? = some (C, T, NN)) (hel : ∀ i, i < n → ∀ y, f i = some y → ∃ fs, (y, .inr (ci, fs)) ∈ els) : CM l D yJx4a65c_grow_d5877 cJx4a65c_grow_d5877 1 (some tyOA) 4 130 1 30 (LW D L (E, m, n, f) n ++ els) [.ref L] (Grown D L m n f els) := by
  refine CM_of [some (.ref L)] hst (by decide +kernel) rfl (Nat.le_of_ble_eq_true rfl) (fun k F hl hD hin hR => ?_)
  subst hl hD
  refine j_aloadn F dJx4a65c_grow_d5877_0 rfl ?_
  refine j_aloadn F dJx4a65c_grow_d5877_1 rfl ?_
  refine gf_Jx4a65c_48 F (v := .int (nI n)) dJx4a65c_grow_d5877_2 0 rfl rfl ?_
  refine j_iconst F (v := 1) dJx4a65c_grow_d5877_5 (by decide) ?_
  refine j_iaddN F (a := n) (b := 1) dJx4a65c_grow_d5877_6 ?_
  refine j_cmV0 F hR.1 (qJ_growI (kl k) hst (kD k) L E n m f els hn hE hca hc hel) lk_Jx4a65c_69 dJx4a65c_grow_d5877_7 ⟨(Nat.le_of_ble_eq_true rfl), (Nat.le_of_ble_eq_true rfl)⟩ 0 rfl rfl rfl (Nat.le_of_ble_eq_true rfl) ⟨(Nat.le_of_ble_eq_true rfl), (Nat.le_of_ble_eq_true rfl)⟩ (fun u w1 hp => ?_)
  obtain ⟨E', cap', f', rfl, rfl, hh⟩ := hp
  exact j_aret F (x := some E') hR (Or.inr ⟨_, rfl⟩) dJx4a65c_grow_d5877_10 (Nat.le_of_ble_eq_true rfl) (Nat.le_of_ble_eq_true rfl) ⟨E', cap', f', rfl, rfl, hh⟩
/-- what the list has become when b was added -/
def Added (D : va_G) (L : Nat) (m : Int32) (n b : Nat) (f : Nat → Option Nat) (els : va_W) (w : va_W) : Prop := ∃ (E' cap' : Nat) (f' : Nat → Option Nat), w = lsC L E' m (n + 1) :: elC D E' cap' f' :: els ∧ n < cap' ∧ cap' ≤ 100 ∧ 10 ≤ cap' ∧ (∀ i, i < n → f' i = f i) ∧ f' n = some b
theorem qJ_add3 (l : Launch) (hst : l.stackTraces = false) (D : va_G) (L E n cap b : Nat) (m : Int32) (f : Nat → Option Nat) (els : va_W) {ci NN : Nat} {C : String} {T : u_T} {vs : List Value} (hn : n ≤ 20 ∧ n ≤ cap ∧ cap ≤ 100 ∧ (cap = 0 ∨ 10 ≤ cap)) (hE : cap = 0 → E = dE D) (hca : (C, "java/lang/Object") ∈ cas) (hc : vwCl[ci]? = some (C, T, NN)) (hel : ∀ i, i < n → ∀ y, f i = some y → ∃ fs, (y, .inr (ci, fs)) ∈ els) (hb : (b, .inr (ci, vs)) ∈ els) : CM l D yJx4a65c_add_72be8 cJx4a65c_add_72be8 4 none 5 150 1 30 (LW D L (E, m, cap, f) n ++ els) [.ref L, .ref b, .ref E, .int (nI n)] (fun u w => u = none ∧ Added D L m n b f els w) := by
  refine CM_of [some (.ref L), some (.ref b), some (.ref E), some (.int (nI n))] hst (by decide +kernel) rfl (Nat.le_of_ble_eq_true rfl) (fun k F hl hD hin hR => ?_)
  subst hl hD
  obtain ⟨hn1, hn2, hn3, hn4⟩ := hn
  have tail : ∀ (E' cap' : Nat) (f' : Nat → Option Nat) (cc nn : Nat), cc ≤ 1 → nn ≤ 30 → n < cap' → cap' ≤ 100 → 10 ≤ cap' → (∀ i, i < n → f' i = f i) → J k (lsC L E' m n :: elC (kD k) E' cap' f' :: els) cc nn 11 [some (.ref L), some (.ref b), some (.ref E'), some (.int (nI n))] [] := by
    intro E' cap' f' cc nn h1 h2 h3 h4 h5 h6
    refine j_aloadn F dJx4a65c_add_72be8_11 rfl ?_
    refine j_iloadn F dJx4a65c_add_72be8_12 rfl ?_
    refine j_aloadn F dJx4a65c_add_72be8_13 rfl ?_
    refine j_astq F hR.1 dJx4a65c_add_72be8_14 1 rfl hca (List.mem_cons_of_mem _ (List.mem_cons_of_mem _ hb)) hc (vp_in_nI h3 (by omega)) (lsC L E' m n :: elC (kD k) E' cap' (va_up f' n (some b)) :: els) (by rw [ix_nI (by omega)]; rfl) ?_
    refine j_aloadn F dJx4a65c_add_72be8_15 rfl ?_
    refine j_iloadn F dJx4a65c_add_72be8_16 rfl ?_
    refine j_iconst F (v := 1) dJx4a65c_add_72be8_17 (by decide) ?_
    refine j_iaddN F (a := n) (b := 1) dJx4a65c_add_72be8_18 ?_
    refine pf_Jx4a65c_48 F hR.1 dJx4a65c_add_72be8_19 rfl rfl 0 rfl (Nat.le_of_ble_eq_true rfl) (lsC L E' m (n + 1) :: elC (kD k) E' cap' (va_up f' n (some b)) :: els) rfl ?_
    refine j_vret F hR dJx4a65c_add_72be8_22 h1 h2 ⟨rfl, E', cap', _, rfl, h3, h4, h5, fun i hi => ?_, up_self⟩
    rw [up_ne (by omega)]
    exact h6 i hi
  refine j_iloadn F dJx4a65c_add_72be8_0 rfl ?_
  refine j_aloadn F dJx4a65c_add_72be8_1 rfl ?_
  have hgrow : n = cap → J k (LW (kD k) L (E, m, cap, f) n ++ els) 0 0 6 [some (.ref L), some (.ref b), some (.ref E), some (.int (nI n))] [] := by
    intro e
    subst e
    refine j_aloadn F dJx4a65c_add_72be8_6 rfl ?_
    refine j_cmV0 F hR.1 (qJ_grow (kl k) hst (kD k) L E n m f els ⟨hn1, hn4⟩ hE hca hc hel) lk_Jx4a65c_129 dJx4a65c_add_72be8_7 ⟨(Nat.le_of_ble_eq_true rfl), (Nat.le_of_ble_eq_true rfl)⟩ 0 rfl rfl rfl (Nat.le_of_ble_eq_true rfl) ⟨(Nat.le_of_ble_eq_true rfl), (Nat.le_of_ble_eq_true rfl)⟩ (fun u w1 hp => ?_)
    obtain ⟨E', cap', f', rfl, rfl, h1, h2, h3, h4⟩ := hp
    refine j_astoren F [some (.ref L), some (.ref b), some (.ref E'), some (.int (nI n))] dJx4a65c_add_72be8_10 rfl rfl rfl ?_
    exact tail E' cap' f' _ _ (Nat.le_of_ble_eq_true rfl) (Nat.le_of_ble_eq_true rfl) h1 (by omega) h3 h4
  by_cases h0 : cap = 0
  · have hE := hE h0
    subst hE h0
    obtain rfl : n = 0 := by omega
    refine j_tlen F hR.1 dJx4a65c_add_72be8_2 ?_
    refine j_icne F (tgt := 11) dJx4a65c_add_72be8_3 (by decide) (fun h => absurd rfl h) (fun _ => ?_)
    exact hgrow rfl
  · refine j_alen F (t0 := 1) (v := nI cap) dJx4a65c_add_72be8_2 1 (by rw [LW_two h0]; rfl) rfl rfl ?_
    refine j_icne F (tgt := 11) dJx4a65c_add_72be8_3 (by decide) (fun h => ?_) (fun h => ?_)
    · refine j_ws (lsC L E m n :: elC (kD k) E cap f :: els) (by rw [LW_two h0]; rfl) ?_
      exact tail E cap f 0 0 (by decide) (by decide) (by rcases Nat.lt_or_ge n cap with z | z; exact z; exact absurd (by rw [show n = cap by omega]) h) hn3 (hn4.resolve_left h0) (fun _ _ => rfl)
    · exact hgrow ((nI_eq (by omega) (by omega)).mp h)
theorem qJ_add (l : Launch) (hst : l.stackTraces = false) (D : va_G) (L E n cap b : Nat) (m : Int32) (f : Nat → Option Nat) (els : va_W) {ci NN : Nat} {C : String} {T : u_T} {vs : List Value} (hn : n ≤ 20 ∧ n ≤ cap ∧ cap ≤ 100 ∧ (cap = 0 ∨ 10 ≤ cap)) (hE : cap = 0 → E = dE D) (hca : (C, "java/lang/Object") ∈ cas) (hc : vwCl[ci]? = some (C, T, NN)) (hel : ∀ i, i < n → ∀ y, f i = some y → ∃ fs, (y, .inr (ci, fs)) ∈ els) (hb : (b, .inr (ci, vs)) ∈ els) : CM l D yJx4a65c_add_9ea2d cJx4a65c_add_9ea2d 2 (some .boolean) 6 180 1 30 (LW D L (E, m, cap, f) n ++ els) [.ref L, .ref b] (fun u w => u = some (.int (b1 true)) ∧ Added D L (m + 1) n b f els w) := by
  refine CM_of [some (.ref L), some (.ref b)] hst (by decide +kernel) rfl (Nat.le_of_ble_eq_true rfl) (fun k F hl hD hin hR => ?_)
  subst hl hD
  refine j_aloadn F dJx4a65c_add_9ea2d_0 rfl ?_
  refine j_dup F dJx4a65c_add_9ea2d_1 rfl ?_
  refine gf_Jx4a65c_63 F (v := .int m) dJx4a65c_add_9ea2d_2 0 rfl rfl ?_
  refine j_iconst F (v := 1) dJx4a65c_add_9ea2d_5 (by decide) ?_
  refine j_iadd F dJx4a65c_add_9ea2d_6 ?_
  refine pf_Jx4a65c_63 F hR.1 dJx4a65c_add_9ea2d_7 rfl rfl 0 rfl (Nat.le_of_ble_eq_true rfl) (LW (kD k) L (E, m + 1, cap, f) n ++ els) rfl ?_
  refine j_aloadn F dJx4a65c_add_9ea2d_10 rfl ?_
  refine j_aloadn F dJx4a65c_add_9ea2d_11 rfl ?_
  refine j_aloadn F dJx4a65c_add_9ea2d_12 rfl ?_
  refine gf_Jx4a65c_9 F (v := .ref E) dJx4a65c_add_9ea2d_13 0 rfl rfl ?_
  refine j_aloadn F dJx4a65c_add_9ea2d_16 rfl ?_
  refine gf_Jx4a65c_48 F (v := .int (nI n)) dJx4a65c_add_9ea2d_17 0 rfl rfl ?_
  refine j_cmV0 F hR.1 (qJ_add3 (kl k) hst (kD k) L E n cap b (m + 1) f els hn hE hca hc hel hb) lk_Jx4a65c_131 dJx4a65c_add_9ea2d_20 ⟨(Nat.le_of_ble_eq_true rfl), (Nat.le_of_ble_eq_true rfl)⟩ 0 rfl rfl rfl (Nat.le_of_ble_eq_true rfl) ⟨(Nat.le_of_ble_eq_true rfl), (Nat.le_of_ble_eq_true rfl)⟩ (fun u w1 hp => ?_)
  obtain ⟨rfl, hp⟩ := hp
  refine j_iconst F (v := 1) dJx4a65c_add_9ea2d_23 (by decide) ?_
  exact j_zret F (b := true) hR dJx4a65c_add_9ea2d_24 (Nat.le_of_ble_eq_true rfl) (Nat.le_of_ble_eq_true rfl) rfl ⟨rfl, hp⟩
/-! its constructors -/
theorem qJ_coll (l : Launch) (hst : l.stackTraces = false) (D : va_G) (L : Nat) : CM l D yJxa1e45_init_da8c8 cJxa1e45_init_da8c8 1 none 1 20 0 0 [] [.ref L] (dP none []) := by
  refine CM_of [some (.ref L)] hst (by decide +kernel) rfl (Nat.le_of_ble_eq_true rfl) (fun k F hl hD hin hR => ?_)
  subst hl hD
  refine j_aloadn F dJxa1e45_init_da8c8_0 rfl ?_
  refine j_objInit F um_Jxa1e45_1 un_objectInit ud_objectInit dJxa1e45_init_da8c8_1 ⟨(Nat.le_of_ble_eq_true rfl), (Nat.le_of_ble_eq_true rfl)⟩ ?_
  exact j_vret F hR dJxa1e45_init_da8c8_4 (Nat.le_of_ble_eq_true rfl) (Nat.le_of_ble_eq_true rfl) ⟨rfl, rfl⟩
theorem qJ_alist (l : Launch) (hst : l.stackTraces = false) (D : va_G) (L : Nat) : CM l D yJxc12de_init_da8c8 cJxc12de_init_da8c8 1 none 2 40 0 0 [(L, .inr (0, [.int 0, .null, .int 0]))] [.ref L] (dP none [(L, .inr (0, [.int 0, .null, .int 0]))]) := by
  refine CM_of [some (.ref L)] hst (by decide +kernel) rfl (Nat.le_of_ble_eq_true rfl) (fun k F hl hD hin hR => ?_)
  subst hl hD
  refine j_aloadn F dJxc12de_init_da8c8_0 rfl ?_
  refine j_ws ([] ++ [(L, .inr (0, [.int 0, .null, .int 0]))]) rfl ?_
  refine j_cmI F hR.1 (qJ_coll (kl k) hst (kD k) L) lk_Jxc12de_1 dJxc12de_init_da8c8_1 ⟨(Nat.le_of_ble_eq_true rfl), (Nat.le_of_ble_eq_true rfl)⟩ rfl (Nat.le_of_ble_eq_true rfl) ⟨(Nat.le_of_ble_eq_true rfl), (Nat.le_of_ble_eq_true rfl)⟩ (fun u w1 hp => ?_)
  obtain ⟨rfl, rfl⟩ := hp
  refine j_aloadn F dJxc12de_init_da8c8_4 rfl ?_
  refine j_iconst F (v := 0) dJxc12de_init_da8c8_5 (by decide) ?_
  refine pf_Jxc12de_7 F hR.1 dJxc12de_init_da8c8_6 rfl rfl 0 rfl (Nat.le_of_ble_eq_true rfl) [(L, .inr (0, [.int 0, .null, .int 0]))] rfl ?_
  exact j_vret F hR dJxc12de_init_da8c8_9 (Nat.le_of_ble_eq_true rfl) (Nat.le_of_ble_eq_true rfl) ⟨rfl, rfl⟩
theorem qJ_init (l : Launch) (hst : l.stackTraces = false) (D : va_G) (L : Nat) : CM l D yJx4a65c_init_da8c8 cJx4a65c_init_da8c8 1 none 3 60 0 0 [(L, .inr (0, [.int 0, .null, .int 0]))] [.ref L] (dP none [lsC L (dE D) 0 0]) := by
  refine CM_of [some (.ref L)] hst (by decide +kernel) rfl (Nat.le_of_ble_eq_true rfl) (fun k F hl hD hin hR => ?_)
  subst hl hD
  refine j_aloadn F dJx4a65c_init_da8c8_0 rfl ?_
  refine j_ws ([(L, .inr (0, [.int 0, .null, .int 0]))] ++ []) rfl ?_
  refine j_cmI F hR.1 (qJ_alist (kl k) hst (kD k) L) lk_Jx4a65c_1 dJx4a65c_init_da8c8_1 ⟨(Nat.le_of_ble_eq_true rfl), (Nat.le_of_ble_eq_true rfl)⟩ rfl (Nat.le_of_ble_eq_true rfl) ⟨(Nat.le_of_ble_eq_true rfl), (Nat.le_of_ble_eq_true rfl)⟩ (fun u w1 hp => ?_)
  obtain ⟨rfl, rfl⟩ := hp
  refine j_aloadn F dJx4a65c_init_da8c8_4 rfl ?_
  refine j_gs39 F hR.1 dJx4a65c_init_da8c8_5 ?_
  refine pf_Jx4a65c_9 F hR.1 dJx4a65c_init_da8c8_8 rfl rfl 0 rfl (Nat.le_of_ble_eq_true rfl) [lsC L (dE (kD k)) 0 0] rfl ?_
  exact j_vret F hR dJx4a65c_init_da8c8_11 (Nat.le_of_ble_eq_true rfl) (Nat.le_of_ble_eq_true rfl) ⟨rfl, rfl⟩
end
section
/-! THE CONSTRUCTORS, by program -/
abbrev obC (a ci : Nat) (fs : List Value) : Nat × va_E := (a, .inr (ci, fs))
set_option maxRecDepth 100000 in
set_option maxHeartbeats 4000000 in
theorem qX0_init (l : Launch) (hst : l.stackTraces = false) (D : va_G) (a : Nat) (p0 : Int32) (p1 : Int32) (p2 : Int32) (p3 : Int32) (p4 : Int32) : CM l D yX0_init cX0_init 6 none 1 22 0 0 [(a, .inr (1, [.int 0, .int 0, .int 0, .int 0, .int 0, .null, .int 0, .int 0]))] [.ref a, .int p0, .int p1, .int p2, .int p3, .int p4] (dP none [obC a 1 [.int p0, .int p2, .int p3, .int p4, .int p1, .null, .int 0, .int 0]]) := by
  refine CM_of [some (.ref a), some (.int p0), some (.int p1), some (.int p2), some (.int p3), some (.int p4)] hst (by decide +kernel) rfl (Nat.le_of_ble_eq_true rfl) (fun k F hl hD hin hR => ?_)
  subst hl hD
  refine j_aloadn F dX0_init_0 rfl ?_
  refine j_objInit F um_X0_3 un_objectInit ud_objectInit dX0_init_1 ⟨(Nat.le_of_ble_eq_true rfl), (Nat.le_of_ble_eq_true rfl)⟩ ?_
  refine j_aloadn F dX0_init_4 rfl ?_
  refine j_iloadn F dX0_init_5 rfl ?_
  refine pf_X0_9 F hR.1 (hin rfl) dX0_init_6 rfl rfl 0 rfl (Nat.le_of_ble_eq_true rfl) [obC a 1 [.int p0, .int 0, .int 0, .int 0, .int 0, .null, .int 0, .int 0]] rfl ?_
  refine j_aloadn F dX0_init_9 rfl ?_
  refine j_iloadn F dX0_init_10 rfl ?_
  refine pf_X0_15 F hR.1 dX0_init_11 rfl rfl 0 rfl (Nat.le_of_ble_eq_true rfl) [obC a 1 [.int p0, .int 0, .int 0, .int 0, .int p1, .null, .int 0, .int 0]] rfl ?_
  refine j_aloadn F dX0_init_14 rfl ?_
  refine j_iloadn F dX0_init_15 rfl ?_
  refine pf_X0_18 F hR.1 (hin rfl) dX0_init_16 rfl rfl 0 rfl (Nat.le_of_ble_eq_true rfl) [obC a 1 [.int p0, .int p2, .int 0, .int 0, .int p1, .null, .int 0, .int 0]] rfl ?_
  refine j_aloadn F dX0_init_19 rfl ?_
  refine j_iload F dX0_init_20 rfl ?_
  refine pf_X0_21 F hR.1 (hin rfl) dX0_init_22 rfl rfl 0 rfl (Nat.le_of_ble_eq_true rfl) [obC a 1 [.int p0, .int p2, .int p3, .int 0, .int p1, .null, .int 0, .int 0]] rfl ?_
  refine j_aloadn F dX0_init_25 rfl ?_
  refine j_iload F dX0_init_26 rfl ?_
  refine pf_X0_24 F hR.1 (hin rfl) dX0_init_28 rfl rfl 0 rfl (Nat.le_of_ble_eq_true rfl) [obC a 1 [.int p0, .int p2, .int p3, .int p4, .int p1, .null, .int 0, .int 0]] rfl ?_
  exact j_vret F hR dX0_init_31 (Nat.le_of_ble_eq_true rfl) (Nat.le_of_ble_eq_true rfl) ⟨rfl, rfl⟩
set_option maxRecDepth 100000 in
set_option maxHeartbeats 4000000 in
theorem qX1_init (l : Launch) (hst : l.stackTraces = false) (D : va_G) (a : Nat) : CM l D yX1_init cX1_init 1 none 1 22 0 0 [(a, .inr (2, [.int 0, .int 0]))] [.ref a] (dP none [obC a 2 [.int 540, .int 1020]]) := by
  refine CM_of [some (.ref a)] hst (by decide +kernel) rfl (Nat.le_of_ble_eq_true rfl) (fun k F hl hD hin hR => ?_)
  subst hl hD
  refine j_aloadn F dX1_init_0 rfl ?_
  refine j_objInit F um_X1_3 un_objectInit ud_objectInit dX1_init_1 ⟨(Nat.le_of_ble_eq_true rfl), (Nat.le_of_ble_eq_true rfl)⟩ ?_
  refine j_aloadn F dX1_init_4 rfl ?_
  refine j_sipush F (v := 540) dX1_init_5 (by decide) ?_
  refine pf_X1_9 F hR.1 dX1_init_8 rfl rfl 0 rfl (Nat.le_of_ble_eq_true rfl) [obC a 2 [.int 540, .int 0]] rfl ?_
  refine j_aloadn F dX1_init_11 rfl ?_
  refine j_sipush F (v := 1020) dX1_init_12 (by decide) ?_
  refine pf_X1_15 F hR.1 dX1_init_15 rfl rfl 0 rfl (Nat.le_of_ble_eq_true rfl) [obC a 2 [.int 540, .int 1020]] rfl ?_
  exact j_vret F hR dX1_init_18 (Nat.le_of_ble_eq_true rfl) (Nat.le_of_ble_eq_true rfl) ⟨rfl, rfl⟩
set_option maxRecDepth 100000 in
set_option maxHeartbeats 4000000 in
theorem qX2_init (l : Launch) (hst : l.stackTraces = false) (D : va_G) (a : Nat) (p0 : Int32) (p1 : Int32) (p2 : Int32) (p3 : Int32) (p4 : Int32) : CM l D yX2_init cX2_init 6 none 1 22 0 0 [(a, .inr (3, [.int 0, .int 0, .int 0, .int 0, .int 0, .int 0, .int 0, .int 0, .int 0, .int 0, .int 0, .int 0, .null, .null, .null]))] [.ref a, .int p0, .int p1, .int p2, .int p3, .int p4] (dP none [obC a 3 [.int p0, .int p1, .int p2, .int p3, .int 0, .int 0, .int 0, .int (-1), .int 0, .int 0, .int 0, .int (1 <<< (p4 &&& 31)), .null, .null, .null]]) := by
  refine CM_of [some (.ref a), some (.int p0), some (.int p1), some (.int p2), some (.int p3), some (.int p4)] hst (by decide +kernel) rfl (Nat.le_of_ble_eq_true rfl) (fun k F hl hD hin hR => ?_)
  subst hl hD
  refine j_aloadn F dX2_init_0 rfl ?_
  refine j_objInit F um_X2_3 un_objectInit ud_objectInit dX2_init_1 ⟨(Nat.le_of_ble_eq_true rfl), (Nat.le_of_ble_eq_true rfl)⟩ ?_
  refine j_aloadn F dX2_init_4 rfl ?_
  refine j_iloadn F dX2_init_5 rfl ?_
  refine pf_X2_9 F hR.1 (hin rfl) dX2_init_6 rfl rfl 0 rfl (Nat.le_of_ble_eq_true rfl) [obC a 3 [.int p0, .int 0, .int 0, .int 0, .int 0, .int 0, .int 0, .int 0, .int 0, .int 0, .int 0, .int 0, .null, .null, .null]] rfl ?_
  refine j_aloadn F dX2_init_9 rfl ?_
  refine j_iloadn F dX2_init_10 rfl ?_
  refine pf_X2_15 F hR.1 (hin rfl) dX2_init_11 rfl rfl 0 rfl (Nat.le_of_ble_eq_true rfl) [obC a 3 [.int p0, .int p1, .int 0, .int 0, .int 0, .int 0, .int 0, .int 0, .int 0, .int 0, .int 0, .int 0, .null, .null, .null]] rfl ?_
  refine j_aloadn F dX2_init_14 rfl ?_
  refine j_iloadn F dX2_init_15 rfl ?_
  refine pf_X2_18 F hR.1 dX2_init_16 rfl rfl 0 rfl (Nat.le_of_ble_eq_true rfl) [obC a 3 [.int p0, .int p1, .int p2, .int 0, .int 0, .int 0, .int 0, .int 0, .int 0, .int 0, .int 0, .int 0, .null, .null, .null]] rfl ?_
  refine j_aloadn F dX2_init_19 rfl ?_
  refine j_iload F dX2_init_20 rfl ?_
  refine pf_X2_21 F hR.1 dX2_init_22 rfl rfl 0 rfl (Nat.le_of_ble_eq_true rfl) [obC a 3 [.int p0, .int p1, .int p2, .int p3, .int 0, .int 0, .int 0, .int 0, .int 0, .int 0, .int 0, .int 0, .null, .null, .null]] rfl ?_
  refine j_aloadn F dX2_init_25 rfl ?_
  refine j_iconst F (v := 0) dX2_init_26 (by decide) ?_
  refine pf_X2_24 F hR.1 dX2_init_27 rfl rfl 0 rfl (Nat.le_of_ble_eq_true rfl) [obC a 3 [.int p0, .int p1, .int p2, .int p3, .int 0, .int 0, .int 0, .int 0, .int 0, .int 0, .int 0, .int 0, .null, .null, .null]] rfl ?_
  refine j_aloadn F dX2_init_30 rfl ?_
  refine j_iconst F (v := (-1)) dX2_init_31 (by decide) ?_
  refine pf_X2_27 F hR.1 dX2_init_32 rfl rfl 0 rfl (Nat.le_of_ble_eq_true rfl) [obC a 3 [.int p0, .int p1, .int p2, .int p3, .int 0, .int 0, .int 0, .int (-1), .int 0, .int 0, .int 0, .int 0, .null, .null, .null]] rfl ?_
  refine j_aloadn F dX2_init_35 rfl ?_
  refine j_iconst F (v := 1) dX2_init_36 (by decide) ?_
  refine j_iload F dX2_init_37 rfl ?_
  refine j_ishl F dX2_init_39 ?_
  refine pf_X2_30 F hR.1 dX2_init_40 rfl rfl 0 rfl (Nat.le_of_ble_eq_true rfl) [obC a 3 [.int p0, .int p1, .int p2, .int p3, .int 0, .int 0, .int 0, .int (-1), .int 0, .int 0, .int 0, .int (1 <<< (p4 &&& 31)), .null, .null, .null]] rfl ?_
  exact j_vret F hR dX2_init_43 (Nat.le_of_ble_eq_true rfl) (Nat.le_of_ble_eq_true rfl) ⟨rfl, rfl⟩
def C_ans0 : Nat → Int32 := upd (upd (upd (upd (fun _ => 0) 0 60) 1 120) 2 240) 3 480
def C_sol0 : Nat → Int32 := upd (upd (upd (upd (fun _ => 0) 0 240) 1 480) 2 960) 3 1920
/-- the class's state at its making -/
def C_v0 : S2 := fun j => match j with
  | 0 => fun i => match i with
    | 1 => 540
    | 2 => 1020
    | _ => 0
  | 1 => C_ans0
  | 2 => C_sol0
  | _ => fun _ => 0
def C_r0 : R2 := fun _ _ => none
def C_g0 (D : va_G) (a h an so la lt : Nat) : CG := (fun j i => if j = 0 then (match i with
  | 0 => a
  | 1 => h
  | 2 => an
  | 3 => so
  | 4 => la
  | _ => lt) else 0, 0, 0, (dE D, 0, 0, fun _ => none), (dE D, 0, 0, fun _ => none))
theorem C_g0_GI (D : va_G) (a h an so la lt : Nat) : GI D (C_g0 D a h an so la lt) := ⟨Nat.zero_le 6, Nat.zero_le 20, ⟨Nat.zero_le 0, Nat.zero_le 100, fun i hi => absurd hi (Nat.not_lt_zero _), Or.inl rfl⟩, ⟨Nat.zero_le 0, Nat.zero_le 100, fun i hi => absurd hi (Nat.not_lt_zero _), Or.inl rfl⟩, fun i j hi => absurd hi (Nat.not_lt_zero _), fun _ => rfl, fun _ => rfl⟩
theorem C_g0_CI (D : va_G) (a h an so la lt : Nat) : CI (C_g0 D a h an so la lt) C_v0 C_r0 := ⟨fun t ht => absurd ht (Nat.not_lt_zero _), fun t ht => absurd ht (Nat.not_lt_zero _), fun t ht => absurd ht (Nat.not_lt_zero _), fun t ht => absurd ht (Nat.not_lt_zero _), fun t ht => absurd ht (Nat.not_lt_zero _)⟩
set_option maxRecDepth 100000 in
set_option maxHeartbeats 4000000 in
theorem qX3_init (l : Launch) (hst : l.stackTraces = false) (D : va_G) (a : Nat) : CM l D yX3_init cX3_init 1 none 4 90 5 16 [(a, .inr (4, [.null, .null, .null, .null, .null, .int 0]))] [.ref a] (fun u w => u = none ∧ ∃ h an so la lt, w = CW D (C_g0 D a h an so la lt) C_v0 C_r0) := by
  refine CM_of [some (.ref a)] hst (by decide +kernel) rfl (Nat.le_of_ble_eq_true rfl) (fun k F hl hD hin hR => ?_)
  subst hl hD
  refine j_aloadn F dX3_init_0 rfl ?_
  refine j_objInit F um_X3_1 un_objectInit ud_objectInit dX3_init_1 ⟨(Nat.le_of_ble_eq_true rfl), (Nat.le_of_ble_eq_true rfl)⟩ ?_
  refine j_aloadn F dX3_init_4 rfl ?_
  refine j_new F hR.1 tyX1 inU_X1 tyX1_ok ul_X3_7 uk_X1 ui_X1 (ci := 2) rfl (fs := [.int 0, .int 0]) (by decide +kernel) dX3_init_5 ⟨(Nat.le_of_ble_eq_true rfl), (Nat.le_of_ble_eq_true rfl)⟩ (fun q1 => ?_)
  refine j_ws [obC a 4 [.null, .null, .null, .null, .null, .int 0], obC q1 2 [.int 0, .int 0]] rfl ?_
  refine j_dup F dX3_init_8 rfl ?_
  refine j_perm ([obC q1 2 [.int 0, .int 0]] ++ [obC a 4 [.null, .null, .null, .null, .null, .int 0]]) (List.perm_append_comm (l₁ := [obC a 4 [.null, .null, .null, .null, .null, .int 0]]) (l₂ := [obC q1 2 [.int 0, .int 0]])) ?_
  refine j_cmI F hR.1 (qX1_init (kl k) hst (kD k) q1) lk_X3_9 dX3_init_9 ⟨(Nat.le_of_ble_eq_true rfl), (Nat.le_of_ble_eq_true rfl)⟩ rfl (Nat.le_of_ble_eq_true rfl) ⟨(Nat.le_of_ble_eq_true rfl), (Nat.le_of_ble_eq_true rfl)⟩ (fun u w1 hp => ?_)
  obtain ⟨rfl, rfl⟩ := hp
  refine j_perm ([obC a 4 [.null, .null, .null, .null, .null, .int 0]] ++ [obC q1 2 [.int 540, .int 1020]]) (List.perm_append_comm (l₁ := [obC q1 2 [.int 540, .int 1020]]) (l₂ := [obC a 4 [.null, .null, .null, .null, .null, .int 0]])) ?_
  refine j_ws [obC a 4 [.null, .null, .null, .null, .null, .int 0], obC q1 2 [.int 540, .int 1020]] rfl ?_
  refine j_st [.ref q1, .ref a] rfl ?_
  refine pf_X3_10 F hR.1 (hin rfl) dX3_init_12 rfl rfl 0 rfl (Nat.le_of_ble_eq_true rfl) [obC a 4 [.ref q1, .null, .null, .null, .null, .int 0], obC q1 2 [.int 540, .int 1020]] rfl ?_
  refine j_aloadn F dX3_init_15 rfl ?_
  refine j_iconst F (v := 4) dX3_init_16 (by decide) ?_
  refine j_newa F hR.1 (N := 4) (by decide) (by decide) dX3_init_17 (Nat.le_of_ble_eq_true rfl) (Nat.le_of_ble_eq_true rfl) (fun q2 => ?_)
  refine j_ws [obC a 4 [.ref q1, .null, .null, .null, .null, .int 0], obC q1 2 [.int 540, .int 1020], ain (kD k) q2 4 (fun _ => 0)] rfl ?_
  refine j_dup F dX3_init_19 rfl ?_
  refine j_iconst F (v := 0) dX3_init_20 (by decide) ?_
  refine j_bipush F (v := 60) dX3_init_21 (by decide) ?_
  refine j_iast F hR.1 dX3_init_23 2 rfl (by unfold vp_in; decide +kernel) [obC a 4 [.ref q1, .null, .null, .null, .null, .int 0], obC q1 2 [.int 540, .int 1020], ain (kD k) q2 4 (upd (fun _ => 0) 0 60)] rfl ?_
  refine j_dup F dX3_init_24 rfl ?_
  refine j_iconst F (v := 1) dX3_init_25 (by decide) ?_
  refine j_bipush F (v := 120) dX3_init_26 (by decide) ?_
  refine j_iast F hR.1 dX3_init_28 2 rfl (by unfold vp_in; decide +kernel) [obC a 4 [.ref q1, .null, .null, .null, .null, .int 0], obC q1 2 [.int 540, .int 1020], ain (kD k) q2 4 (upd (upd (fun _ => 0) 0 60) 1 120)] rfl ?_
  refine j_dup F dX3_init_29 rfl ?_
  refine j_iconst F (v := 2) dX3_init_30 (by decide) ?_
  refine j_sipush F (v := 240) dX3_init_31 (by decide) ?_
  refine j_iast F hR.1 dX3_init_34 2 rfl (by unfold vp_in; decide +kernel) [obC a 4 [.ref q1, .null, .null, .null, .null, .int 0], obC q1 2 [.int 540, .int 1020], ain (kD k) q2 4 (upd (upd (upd (fun _ => 0) 0 60) 1 120) 2 240)] rfl ?_
  refine j_dup F dX3_init_35 rfl ?_
  refine j_iconst F (v := 3) dX3_init_36 (by decide) ?_
  refine j_sipush F (v := 480) dX3_init_37 (by decide) ?_
  refine j_iast F hR.1 dX3_init_40 2 rfl (by unfold vp_in; decide +kernel) [obC a 4 [.ref q1, .null, .null, .null, .null, .int 0], obC q1 2 [.int 540, .int 1020], ain (kD k) q2 4 (upd (upd (upd (upd (fun _ => 0) 0 60) 1 120) 2 240) 3 480)] rfl ?_
  refine pf_X3_16 F hR.1 (hin rfl) dX3_init_41 rfl rfl 0 rfl (Nat.le_of_ble_eq_true rfl) [obC a 4 [.ref q1, .ref q2, .null, .null, .null, .int 0], obC q1 2 [.int 540, .int 1020], ain (kD k) q2 4 (upd (upd (upd (upd (fun _ => 0) 0 60) 1 120) 2 240) 3 480)] rfl ?_
  refine j_aloadn F dX3_init_44 rfl ?_
  refine j_iconst F (v := 4) dX3_init_45 (by decide) ?_
  refine j_newa F hR.1 (N := 4) (by decide) (by decide) dX3_init_46 (Nat.le_of_ble_eq_true rfl) (Nat.le_of_ble_eq_true rfl) (fun q3 => ?_)
  refine j_ws [obC a 4 [.ref q1, .ref q2, .null, .null, .null, .int 0], obC q1 2 [.int 540, .int 1020], ain (kD k) q2 4 (upd (upd (upd (upd (fun _ => 0) 0 60) 1 120) 2 240) 3 480), ain (kD k) q3 4 (fun _ => 0)] rfl ?_
  refine j_dup F dX3_init_48 rfl ?_
  refine j_iconst F (v := 0) dX3_init_49 (by decide) ?_
  refine j_sipush F (v := 240) dX3_init_50 (by decide) ?_
  refine j_iast F hR.1 dX3_init_53 3 rfl (by unfold vp_in; decide +kernel) [obC a 4 [.ref q1, .ref q2, .null, .null, .null, .int 0], obC q1 2 [.int 540, .int 1020], ain (kD k) q2 4 (upd (upd (upd (upd (fun _ => 0) 0 60) 1 120) 2 240) 3 480), ain (kD k) q3 4 (upd (fun _ => 0) 0 240)] rfl ?_
  refine j_dup F dX3_init_54 rfl ?_
  refine j_iconst F (v := 1) dX3_init_55 (by decide) ?_
  refine j_sipush F (v := 480) dX3_init_56 (by decide) ?_
  refine j_iast F hR.1 dX3_init_59 3 rfl (by unfold vp_in; decide +kernel) [obC a 4 [.ref q1, .ref q2, .null, .null, .null, .int 0], obC q1 2 [.int 540, .int 1020], ain (kD k) q2 4 (upd (upd (upd (upd (fun _ => 0) 0 60) 1 120) 2 240) 3 480), ain (kD k) q3 4 (upd (upd (fun _ => 0) 0 240) 1 480)] rfl ?_
  refine j_dup F dX3_init_60 rfl ?_
  refine j_iconst F (v := 2) dX3_init_61 (by decide) ?_
  refine j_sipush F (v := 960) dX3_init_62 (by decide) ?_
  refine j_iast F hR.1 dX3_init_65 3 rfl (by unfold vp_in; decide +kernel) [obC a 4 [.ref q1, .ref q2, .null, .null, .null, .int 0], obC q1 2 [.int 540, .int 1020], ain (kD k) q2 4 (upd (upd (upd (upd (fun _ => 0) 0 60) 1 120) 2 240) 3 480), ain (kD k) q3 4 (upd (upd (upd (fun _ => 0) 0 240) 1 480) 2 960)] rfl ?_
  refine j_dup F dX3_init_66 rfl ?_
  refine j_iconst F (v := 3) dX3_init_67 (by decide) ?_
  refine j_sipush F (v := 1920) dX3_init_68 (by decide) ?_
  refine j_iast F hR.1 dX3_init_71 3 rfl (by unfold vp_in; decide +kernel) [obC a 4 [.ref q1, .ref q2, .null, .null, .null, .int 0], obC q1 2 [.int 540, .int 1020], ain (kD k) q2 4 (upd (upd (upd (upd (fun _ => 0) 0 60) 1 120) 2 240) 3 480), ain (kD k) q3 4 (upd (upd (upd (upd (fun _ => 0) 0 240) 1 480) 2 960) 3 1920)] rfl ?_
  refine pf_X3_20 F hR.1 (hin rfl) dX3_init_72 rfl rfl 0 rfl (Nat.le_of_ble_eq_true rfl) [obC a 4 [.ref q1, .ref q2, .ref q3, .null, .null, .int 0], obC q1 2 [.int 540, .int 1020], ain (kD k) q2 4 (upd (upd (upd (upd (fun _ => 0) 0 60) 1 120) 2 240) 3 480), ain (kD k) q3 4 (upd (upd (upd (upd (fun _ => 0) 0 240) 1 480) 2 960) 3 1920)] rfl ?_
  refine j_aloadn F dX3_init_75 rfl ?_
  refine j_new F hR.1 tyJx4a65c inU_Jx4a65c tyJx4a65c_ok ul_X3_23 uk_Jx4a65c ui_Jx4a65c (ci := 0) rfl (fs := [.int 0, .null, .int 0]) (by decide +kernel) dX3_init_76 ⟨(Nat.le_of_ble_eq_true rfl), (Nat.le_of_ble_eq_true rfl)⟩ (fun q4 => ?_)
  refine j_ws [obC a 4 [.ref q1, .ref q2, .ref q3, .null, .null, .int 0], obC q1 2 [.int 540, .int 1020], ain (kD k) q2 4 (upd (upd (upd (upd (fun _ => 0) 0 60) 1 120) 2 240) 3 480), ain (kD k) q3 4 (upd (upd (upd (upd (fun _ => 0) 0 240) 1 480) 2 960) 3 1920), obC q4 0 [.int 0, .null, .int 0]] rfl ?_
  refine j_dup F dX3_init_79 rfl ?_
  refine j_perm ([obC q4 0 [.int 0, .null, .int 0]] ++ [obC a 4 [.ref q1, .ref q2, .ref q3, .null, .null, .int 0], obC q1 2 [.int 540, .int 1020], ain (kD k) q2 4 (upd (upd (upd (upd (fun _ => 0) 0 60) 1 120) 2 240) 3 480), ain (kD k) q3 4 (upd (upd (upd (upd (fun _ => 0) 0 240) 1 480) 2 960) 3 1920)]) (List.perm_append_comm (l₁ := [obC a 4 [.ref q1, .ref q2, .ref q3, .null, .null, .int 0], obC q1 2 [.int 540, .int 1020], ain (kD k) q2 4 (upd (upd (upd (upd (fun _ => 0) 0 60) 1 120) 2 240) 3 480), ain (kD k) q3 4 (upd (upd (upd (upd (fun _ => 0) 0 240) 1 480) 2 960) 3 1920)]) (l₂ := [obC q4 0 [.int 0, .null, .int 0]])) ?_
  refine j_cmI F hR.1 (qJ_init (kl k) hst (kD k) q4) lk_X3_25 dX3_init_80 ⟨(Nat.le_of_ble_eq_true rfl), (Nat.le_of_ble_eq_true rfl)⟩ rfl (Nat.le_of_ble_eq_true rfl) ⟨(Nat.le_of_ble_eq_true rfl), (Nat.le_of_ble_eq_true rfl)⟩ (fun u w1 hp => ?_)
  obtain ⟨rfl, rfl⟩ := hp
  refine j_perm ([obC a 4 [.ref q1, .ref q2, .ref q3, .null, .null, .int 0], obC q1 2 [.int 540, .int 1020], ain (kD k) q2 4 (upd (upd (upd (upd (fun _ => 0) 0 60) 1 120) 2 240) 3 480), ain (kD k) q3 4 (upd (upd (upd (upd (fun _ => 0) 0 240) 1 480) 2 960) 3 1920)] ++ [lsC q4 (dE (kD k)) 0 0]) (List.perm_append_comm (l₁ := [lsC q4 (dE (kD k)) 0 0]) (l₂ := [obC a 4 [.ref q1, .ref q2, .ref q3, .null, .null, .int 0], obC q1 2 [.int 540, .int 1020], ain (kD k) q2 4 (upd (upd (upd (upd (fun _ => 0) 0 60) 1 120) 2 240) 3 480), ain (kD k) q3 4 (upd (upd (upd (upd (fun _ => 0) 0 240) 1 480) 2 960) 3 1920)])) ?_
  refine j_ws [obC a 4 [.ref q1, .ref q2, .ref q3, .null, .null, .int 0], obC q1 2 [.int 540, .int 1020], ain (kD k) q2 4 (upd (upd (upd (upd (fun _ => 0) 0 60) 1 120) 2 240) 3 480), ain (kD k) q3 4 (upd (upd (upd (upd (fun _ => 0) 0 240) 1 480) 2 960) 3 1920), lsC q4 (dE (kD k)) 0 0] rfl ?_
  refine j_st [.ref q4, .ref a] rfl ?_
  refine pf_X3_26 F hR.1 (hin rfl) dX3_init_83 rfl rfl 0 rfl (Nat.le_of_ble_eq_true rfl) [obC a 4 [.ref q1, .ref q2, .ref q3, .ref q4, .null, .int 0], obC q1 2 [.int 540, .int 1020], ain (kD k) q2 4 (upd (upd (upd (upd (fun _ => 0) 0 60) 1 120) 2 240) 3 480), ain (kD k) q3 4 (upd (upd (upd (upd (fun _ => 0) 0 240) 1 480) 2 960) 3 1920), lsC q4 (dE (kD k)) 0 0] rfl ?_
  refine j_aloadn F dX3_init_86 rfl ?_
  refine j_new F hR.1 tyJx4a65c inU_Jx4a65c tyJx4a65c_ok ul_X3_23 uk_Jx4a65c ui_Jx4a65c (ci := 0) rfl (fs := [.int 0, .null, .int 0]) (by decide +kernel) dX3_init_87 ⟨(Nat.le_of_ble_eq_true rfl), (Nat.le_of_ble_eq_true rfl)⟩ (fun q5 => ?_)
  refine j_ws [obC a 4 [.ref q1, .ref q2, .ref q3, .ref q4, .null, .int 0], obC q1 2 [.int 540, .int 1020], ain (kD k) q2 4 (upd (upd (upd (upd (fun _ => 0) 0 60) 1 120) 2 240) 3 480), ain (kD k) q3 4 (upd (upd (upd (upd (fun _ => 0) 0 240) 1 480) 2 960) 3 1920), lsC q4 (dE (kD k)) 0 0, obC q5 0 [.int 0, .null, .int 0]] rfl ?_
  refine j_dup F dX3_init_90 rfl ?_
  refine j_perm ([obC q5 0 [.int 0, .null, .int 0]] ++ [obC a 4 [.ref q1, .ref q2, .ref q3, .ref q4, .null, .int 0], obC q1 2 [.int 540, .int 1020], ain (kD k) q2 4 (upd (upd (upd (upd (fun _ => 0) 0 60) 1 120) 2 240) 3 480), ain (kD k) q3 4 (upd (upd (upd (upd (fun _ => 0) 0 240) 1 480) 2 960) 3 1920), lsC q4 (dE (kD k)) 0 0]) (List.perm_append_comm (l₁ := [obC a 4 [.ref q1, .ref q2, .ref q3, .ref q4, .null, .int 0], obC q1 2 [.int 540, .int 1020], ain (kD k) q2 4 (upd (upd (upd (upd (fun _ => 0) 0 60) 1 120) 2 240) 3 480), ain (kD k) q3 4 (upd (upd (upd (upd (fun _ => 0) 0 240) 1 480) 2 960) 3 1920), lsC q4 (dE (kD k)) 0 0]) (l₂ := [obC q5 0 [.int 0, .null, .int 0]])) ?_
  refine j_cmI F hR.1 (qJ_init (kl k) hst (kD k) q5) lk_X3_25 dX3_init_91 ⟨(Nat.le_of_ble_eq_true rfl), (Nat.le_of_ble_eq_true rfl)⟩ rfl (Nat.le_of_ble_eq_true rfl) ⟨(Nat.le_of_ble_eq_true rfl), (Nat.le_of_ble_eq_true rfl)⟩ (fun u w1 hp => ?_)
  obtain ⟨rfl, rfl⟩ := hp
  refine j_perm ([obC a 4 [.ref q1, .ref q2, .ref q3, .ref q4, .null, .int 0], obC q1 2 [.int 540, .int 1020], ain (kD k) q2 4 (upd (upd (upd (upd (fun _ => 0) 0 60) 1 120) 2 240) 3 480), ain (kD k) q3 4 (upd (upd (upd (upd (fun _ => 0) 0 240) 1 480) 2 960) 3 1920), lsC q4 (dE (kD k)) 0 0] ++ [lsC q5 (dE (kD k)) 0 0]) (List.perm_append_comm (l₁ := [lsC q5 (dE (kD k)) 0 0]) (l₂ := [obC a 4 [.ref q1, .ref q2, .ref q3, .ref q4, .null, .int 0], obC q1 2 [.int 540, .int 1020], ain (kD k) q2 4 (upd (upd (upd (upd (fun _ => 0) 0 60) 1 120) 2 240) 3 480), ain (kD k) q3 4 (upd (upd (upd (upd (fun _ => 0) 0 240) 1 480) 2 960) 3 1920), lsC q4 (dE (kD k)) 0 0])) ?_
  refine j_ws [obC a 4 [.ref q1, .ref q2, .ref q3, .ref q4, .null, .int 0], obC q1 2 [.int 540, .int 1020], ain (kD k) q2 4 (upd (upd (upd (upd (fun _ => 0) 0 60) 1 120) 2 240) 3 480), ain (kD k) q3 4 (upd (upd (upd (upd (fun _ => 0) 0 240) 1 480) 2 960) 3 1920), lsC q4 (dE (kD k)) 0 0, lsC q5 (dE (kD k)) 0 0] rfl ?_
  refine j_st [.ref q5, .ref a] rfl ?_
  refine pf_X3_30 F hR.1 (hin rfl) dX3_init_94 rfl rfl 0 rfl (Nat.le_of_ble_eq_true rfl) [obC a 4 [.ref q1, .ref q2, .ref q3, .ref q4, .ref q5, .int 0], obC q1 2 [.int 540, .int 1020], ain (kD k) q2 4 (upd (upd (upd (upd (fun _ => 0) 0 60) 1 120) 2 240) 3 480), ain (kD k) q3 4 (upd (upd (upd (upd (fun _ => 0) 0 240) 1 480) 2 960) 3 1920), lsC q4 (dE (kD k)) 0 0, lsC q5 (dE (kD k)) 0 0] rfl ?_
  refine j_aloadn F dX3_init_97 rfl ?_
  refine j_iconst F (v := 0) dX3_init_98 (by decide) ?_
  refine pf_X3_33 F hR.1 dX3_init_99 rfl rfl 0 rfl (Nat.le_of_ble_eq_true rfl) [obC a 4 [.ref q1, .ref q2, .ref q3, .ref q4, .ref q5, .int 0], obC q1 2 [.int 540, .int 1020], ain (kD k) q2 4 (upd (upd (upd (upd (fun _ => 0) 0 60) 1 120) 2 240) 3 480), ain (kD k) q3 4 (upd (upd (upd (upd (fun _ => 0) 0 240) 1 480) 2 960) 3 1920), lsC q4 (dE (kD k)) 0 0, lsC q5 (dE (kD k)) 0 0] rfl ?_
  exact j_vret F hR dX3_init_102 (Nat.le_of_ble_eq_true rfl) (Nat.le_of_ble_eq_true rfl) ⟨rfl, q1, q2, q3, q4, q5, rfl⟩
def M_s0 : S2 := fun j => match j with
  | 0 => fun i => match i with
    | 2 => 540
    | 3 => 1020
    | _ => 0
  | 4 => C_ans0
  | 5 => C_sol0
  | _ => fun _ => 0
end
section
/-! NEW AGENTS AND TICKETS -/
theorem j_nodup {k : Kx} {ws : va_W} {c n pc : Nat} {lv : List (Option Value)} {st : List Value} (hw : kw k = true) (K : (ws.map (·.1)).Nodup → J k ws c n pc lv st) : J k ws c n pc lv st := fun H locs ls hP hL => K (va_D.iff.mp (hP.2.1 hw)).1 H locs ls hP hL
theorem permO {α : Type} (x a b c d e : List α) : ((a ++ (b ++ (c ++ (d ++ e)))) ++ x).Perm ((e ++ (c ++ x)) ++ (a ++ (b ++ d))) := by
  classical
  exact List.perm_iff_count.mpr fun y => by simp only [List.count_append]; omega
theorem permO2 {α : Type} (a b cx d e : List α) : ((e ++ cx) ++ (a ++ (b ++ d))).Perm (a ++ (b ++ (cx ++ (d ++ e)))) := by
  classical
  exact List.perm_iff_count.mpr fun y => by simp only [List.count_append]; omega
theorem permA {α : Type} (x a b c d e : List α) : ((a ++ (b ++ (c ++ (d ++ e)))) ++ x).Perm ((d ++ (b ++ x)) ++ (a ++ (c ++ e))) := by
  classical
  exact List.perm_iff_count.mpr fun y => by simp only [List.count_append]; omega
theorem permA2 {α : Type} (a bx c d e : List α) : ((d ++ bx) ++ (a ++ (c ++ e))).Perm (a ++ (bx ++ (c ++ (d ++ e)))) := by
  classical
  exact List.perm_iff_count.mpr fun y => by simp only [List.count_append]; omega
def C_nT (v : S2) (t : Nat) (p0 p1 p2 p3 : Int32) : S2 := fun j => match j with
  | 20 => upd (v 20) t (nI t)
  | 21 => upd (v 21) t p0
  | 22 => upd (v 22) t p1
  | 23 => upd (v 23) t p2
  | 24 => upd (v 24) t 0
  | 25 => upd (v 25) t 0
  | 26 => upd (v 26) t 0
  | 27 => upd (v 27) t (-1)
  | 28 => upd (v 28) t 0
  | 29 => upd (v 29) t 0
  | 30 => upd (v 30) t 0
  | 31 => upd (v 31) t (1 <<< (p3 &&& 31))
  | j => v j
def C_rT (r : R2) (t : Nat) : R2 := fun j => match j with
  | 32 => va_up (r 32) t none
  | 33 => va_up (r 33) t none
  | 34 => va_up (r 34) t none
  | j => r j
def C_nA (v : S2) (a : Nat) (p0 p1 p2 p3 : Int32) : S2 := fun j => match j with
  | 10 => upd (v 10) a (nI a)
  | 11 => upd (v 11) a p1
  | 12 => upd (v 12) a p2
  | 13 => upd (v 13) a p3
  | 14 => upd (v 14) a p0
  | 16 => upd (v 16) a 0
  | 17 => upd (v 17) a 0
  | j => v j
def C_rA (r : R2) (a : Nat) : R2 := fun j => match j with
  | 15 => va_up (r 15) a none
  | j => r j
def Gx (D : va_G) (G G' : CG) (da dt : Nat) : Prop := (∀ i, G'.1 0 i = G.1 0 i) ∧ nA G' = nA G + da ∧ nT G' = nT G + dt ∧ GI D G'
theorem map_cg {f g : Nat → Nat} {o : Option Nat} (h : ∀ a, o = some a → f a = g a) : o.map f = o.map g := by
  cases o with
  | none => rfl
  | some a => exact congrArg some (h a rfl)
def gT (G : CG) (b E' : Nat) (m : Int32) (cap' : Nat) (f' : Nat → Option Nat) : CG := (fun j => match j with
  | 2 => fun i => if i = nT G then b else G.1 2 i
  | j => G.1 j, nA G, nT G + 1, lA G, (E', m, cap', f'))
def gA (G : CG) (b E' : Nat) (m : Int32) (cap' : Nat) (f' : Nat → Option Nat) : CG := (fun j => match j with
  | 1 => fun i => if i = nA G then b else G.1 1 i
  | j => G.1 j, nA G + 1, nT G, (E', m, cap', f'), lT G)
theorem gT_old {G : CG} {b E' : Nat} {m : Int32} {cap' : Nat} {f' : Nat → Option Nat} {i : Nat} (h : i < nT G) : aT (gT G b E' m cap' f') i = aT G i := if_neg (by omega)
theorem gT_new {G : CG} {b E' : Nat} {m : Int32} {cap' : Nat} {f' : Nat → Option Nat} : aT (gT G b E' m cap' f') (nT G) = b := if_pos rfl
theorem gA_old {G : CG} {b E' : Nat} {m : Int32} {cap' : Nat} {f' : Nat → Option Nat} {i : Nat} (h : i < nA G) : aA (gA G b E' m cap' f') i = aA G i := if_neg (by omega)
theorem gA_new {G : CG} {b E' : Nat} {m : Int32} {cap' : Nat} {f' : Nat → Option Nat} : aA (gA G b E' m cap' f') (nA G) = b := if_pos rfl
theorem rng_cg {α : Type} {f g : Nat → α} {n : Nat} (h : ∀ i, i < n → f i = g i) : (List.range n).map f = (List.range n).map g :=
  List.map_congr_left fun i hi => h i (List.mem_range.mp hi)
theorem gT_world {D : va_G} {G : CG} {v : S2} {r : R2} {b E' : Nat} {m : Int32} {cap' : Nat} {f' : Nat → Option Nat} {p0 p1 p2 p3 : Int32} (hC : CI G v r) (hcap : 10 ≤ cap') : CW D (gT G b E' m cap' f') (C_nT v (nT G) p0 p1 p2 p3) (C_rT r (nT G)) = fixC D G v ++ (ags G v r (nA G) ++ ((tks G v r (nT G) ++ [(b, .inr (3, [.int (nI (nT G)), .int p0, .int p1, .int p2, .int 0, .int 0, .int 0, .int (-1), .int 0, .int 0, .int 0, .int (1 <<< (p3 &&& 31)), .null, .null, .null]))]) ++ (LW D (G.1 0 4) (lA G) (nA G) ++ [lsC (G.1 0 5) E' m (nT G + 1), elC D E' cap' f']))) := by
  have e1 : ags (gT G b E' m cap' f') (C_nT v (nT G) p0 p1 p2 p3) (C_rT r (nT G)) (nA G) = ags G v r (nA G) := rng_cg fun i hi => by
    show (aA G i, Sum.inr (1, _)) = (aA G i, Sum.inr (1, _))
    congr 3
    show AF _ _ _ i = AF G v r i
    unfold AF
    rw [show ((C_rT r (nT G)) 15 i).map (aT (gT G b E' m cap' f')) = (r 15 i).map (aT G) from map_cg fun a ha => gT_old (hC.held hi a ha)]
    rfl
  have e2 : tks (gT G b E' m cap' f') (C_nT v (nT G) p0 p1 p2 p3) (C_rT r (nT G)) (nT G + 1) = tks G v r (nT G) ++ [(b, .inr (3, [.int (nI (nT G)), .int p0, .int p1, .int p2, .int 0, .int 0, .int 0, .int (-1), .int 0, .int 0, .int 0, .int (1 <<< (p3 &&& 31)), .null, .null, .null]))] := by
    unfold tks
    rw [List.range_succ, List.map_append]
    congr 1
    · refine rng_cg fun i hi => ?_
      have hne : i ≠ nT G := Nat.ne_of_lt hi
      rw [gT_old hi]
      congr 3
      show TF _ _ _ i = TF G v r i
      unfold TF
      rw [show ((C_rT r (nT G)) 34 i).map (aT (gT G b E' m cap' f')) = (r 34 i).map (aT G) from by
        rw [show (C_rT r (nT G)) 34 i = r 34 i from up_ne hne]
        exact map_cg fun a ha => gT_old (hC.into hi a ha)]
      rw [show (C_rT r (nT G)) 33 i = r 33 i from up_ne hne, show (C_rT r (nT G)) 32 i = r 32 i from up_ne hne]
      simp only [C_nT, upd_ne hne]
      rfl
    · show [(aT (gT G b E' m cap' f') (nT G), _)] = _
      rw [gT_new]
      congr 4
      show TF _ _ _ (nT G) = _
      unfold TF
      rw [show (C_rT r (nT G)) 34 (nT G) = none from up_self, show (C_rT r (nT G)) 33 (nT G) = none from up_self, show (C_rT r (nT G)) 32 (nT G) = none from up_self]
      simp only [C_nT, upd_self]
      rfl
  show fixC D G v ++ (ags _ _ _ (nA G) ++ (tks _ _ _ (nT G + 1) ++ (LW D (G.1 0 4) (lA G) (nA G) ++ LW D (G.1 0 5) (E', m, cap', f') (nT G + 1)))) = _
  rw [e1, e2, LW_two (ls := (E', m, cap', f')) (by show cap' ≠ 0; omega)]
theorem gA_world {D : va_G} {G : CG} {v : S2} {r : R2} {b E' : Nat} {m : Int32} {cap' : Nat} {f' : Nat → Option Nat} {p0 p1 p2 p3 : Int32} (hC : CI G v r) (hcap : 10 ≤ cap') : CW D (gA G b E' m cap' f') (C_nA v (nA G) p0 p1 p2 p3) (C_rA r (nA G)) = fixC D G v ++ ((ags G v r (nA G) ++ [(b, .inr (1, [.int (nI (nA G)), .int p1, .int p2, .int p3, .int p0, .null, .int 0, .int 0]))]) ++ (tks G v r (nT G) ++ ([lsC (G.1 0 4) E' m (nA G + 1), elC D E' cap' f'] ++ LW D (G.1 0 5) (lT G) (nT G)))) := by
  have e1 : tks (gA G b E' m cap' f') (C_nA v (nA G) p0 p1 p2 p3) (C_rA r (nA G)) (nT G) = tks G v r (nT G) := rng_cg fun i hi => by
    show (aT G i, Sum.inr (3, _)) = (aT G i, Sum.inr (3, _))
    congr 3
    show TF _ _ _ i = TF G v r i
    unfold TF
    rw [show ((C_rA r (nA G)) 32 i).map (aA (gA G b E' m cap' f')) = (r 32 i).map (aA G) from map_cg fun a ha => gA_old (hC.holder hi a ha), show ((C_rA r (nA G)) 33 i).map (aA (gA G b E' m cap' f')) = (r 33 i).map (aA G) from map_cg fun a ha => gA_old (hC.latest hi a ha)]
    rfl
  have e2 : ags (gA G b E' m cap' f') (C_nA v (nA G) p0 p1 p2 p3) (C_rA r (nA G)) (nA G + 1) = ags G v r (nA G) ++ [(b, .inr (1, [.int (nI (nA G)), .int p1, .int p2, .int p3, .int p0, .null, .int 0, .int 0]))] := by
    unfold ags
    rw [List.range_succ, List.map_append]
    congr 1
    · refine rng_cg fun i hi => ?_
      have hne : i ≠ nA G := Nat.ne_of_lt hi
      rw [gA_old hi]
      congr 3
      show AF _ _ _ i = AF G v r i
      unfold AF
      rw [show (C_rA r (nA G)) 15 i = r 15 i from up_ne hne]
      simp only [C_nA, upd_ne hne]
      rfl
    · show [(aA (gA G b E' m cap' f') (nA G), _)] = _
      rw [gA_new]
      congr 4
      show AF _ _ _ (nA G) = _
      unfold AF
      rw [show (C_rA r (nA G)) 15 (nA G) = none from up_self]
      simp only [C_nA, upd_self]
      rfl
  show fixC D G v ++ (ags _ _ _ (nA G + 1) ++ (tks _ _ _ (nT G) ++ (LW D (G.1 0 4) (E', m, cap', f') (nA G + 1) ++ LW D (G.1 0 5) (lT G) (nT G)))) = _
  rw [e1, e2, LW_two (ls := (E', m, cap', f')) (by show cap' ≠ 0; omega)]
theorem nodup_app {D : va_G} {G : CG} {v : S2} {r : R2} {x : Nat × va_E} (h : ((CW D G v r ++ [x]).map (·.1)).Nodup) {i : Nat} (hi : i < nA G) : aA G i ≠ x.1 := fun e => by
  rw [List.map_append, List.nodup_append] at h
  exact h.2.2 (aA G i) (List.mem_map.mpr ⟨_, List.mem_of_getElem? (cg_A hi), rfl⟩) x.1 (List.mem_singleton.mpr rfl) e
theorem openTail {k : Kx} (F : Fx k cX3_open RX3 (rm4 7 2 45 201) 6) (hst : (kl k).stackTraces = false) {P : Option Value → va_W → Prop} (hR : RW k (some .int) 2 45 P) {G : CG} {v : S2} {r : R2} {p0 p1 p2 p3 : Int32} (hG : GI (kD k) G) (hC : CI G v r) (hn : nT G < 20) (hP : ∀ G', Gx (kD k) G G' 0 1 → P (some (.int (nI (nT G)))) (CW (kD k) G' (C_nT v (nT G) p0 p1 p2 p3) (C_rT r (nT G)))) : J k (CW (kD k) G v r) 0 0 73 [some (.ref (G.1 0 0)), some (.int p0), some (.int p1), some (.int p2), some (.int p3), none] [] := by
  obtain ⟨gA6, gT20, glA, glT, ginj, gzA, gzT⟩ := hG
  obtain ⟨hl1, hl2, hl3, hl4⟩ := glT
  refine j_new F hR.1 tyX2 inU_X2 tyX2_ok ul_X3_112 uk_X2 ui_X2 (ci := 3) rfl (fs := [.int 0, .int 0, .int 0, .int 0, .int 0, .int 0, .int 0, .int 0, .int 0, .int 0, .int 0, .int 0, .null, .null, .null]) (by decide +kernel) dX3_open_73 ⟨(Nat.le_of_ble_eq_true rfl), (Nat.le_of_ble_eq_true rfl)⟩ (fun b => ?_)
  obtain ⟨q, hq⟩ := cg_LT (D := kD k) (G := G) (v := v) (r := r)
  refine j_dup F dX3_open_76 rfl ?_
  refine j_aloadn F dX3_open_77 rfl ?_
  refine gf_X3_30 F (v := .ref (G.1 0 5)) dX3_open_78 0 rfl rfl ?_
  refine j_rdV F (qJ_size (kl k) hst (kD k) (G.1 0 5) (lT G).1 (lT G).2.1 (nT G)) lk_X3_77 dX3_open_81 ⟨(Nat.le_of_ble_eq_true rfl), (Nat.le_of_ble_eq_true rfl)⟩ (fun z h => List.mem_append_left _ (cm_LT z (LW_hd z h))) q (by rw [List.getElem?_append_left (List.getElem?_eq_some_iff.mp hq).1]; exact hq) rfl rfl (Nat.le_of_ble_eq_true rfl) ⟨(Nat.le_of_ble_eq_true rfl), (Nat.le_of_ble_eq_true rfl)⟩ ?_
  refine j_iloadn F dX3_open_84 rfl ?_
  refine j_iloadn F dX3_open_85 rfl ?_
  refine j_iloadn F dX3_open_86 rfl ?_
  refine j_iload F dX3_open_87 rfl ?_
  refine j_perm ([(b, .inr (3, [.int 0, .int 0, .int 0, .int 0, .int 0, .int 0, .int 0, .int 0, .int 0, .int 0, .int 0, .int 0, .null, .null, .null]))] ++ CW (kD k) G v r) List.perm_append_comm ?_
  refine j_cmI F hR.1 (qX2_init (kl k) hst (kD k) b (nI (nT G)) p0 p1 p2 p3) lk_X3_141 dX3_open_89 ⟨(Nat.le_of_ble_eq_true rfl), (Nat.le_of_ble_eq_true rfl)⟩ rfl (Nat.le_of_ble_eq_true rfl) ⟨(Nat.le_of_ble_eq_true rfl), (Nat.le_of_ble_eq_true rfl)⟩ (fun u w1 hp => ?_)
  obtain ⟨rfl, rfl⟩ := hp
  refine j_st [.ref b] rfl ?_
  refine j_astore F [some (.ref (G.1 0 0)), some (.int p0), some (.int p1), some (.int p2), some (.int p3), some (.ref b)] dX3_open_92 rfl rfl rfl ?_
  refine j_aloadn F dX3_open_94 rfl ?_
  refine j_perm (CW (kD k) G v r ++ [obC b 3 [.int (nI (nT G)), .int p0, .int p1, .int p2, .int 0, .int 0, .int 0, .int (-1), .int 0, .int 0, .int 0, .int (1 <<< (p3 &&& 31)), .null, .null, .null]]) List.perm_append_comm ?_
  refine gf_X3_30 F (v := .ref (G.1 0 5)) dX3_open_95 0 rfl rfl ?_
  refine j_aload F dX3_open_98 rfl ?_
  refine j_perm _ (permO _ _ _ _ _ _) ?_
  refine j_cmV F hR.1 (qJ_add (kl k) hst (kD k) (G.1 0 5) (lT G).1 (nT G) (lT G).2.2.1 b (lT G).2.1 (lT G).2.2.2 (tks G v r (nT G) ++ [obC b 3 [.int (nI (nT G)), .int p0, .int p1, .int p2, .int 0, .int 0, .int 0, .int (-1), .int 0, .int 0, .int 0, .int (1 <<< (p3 &&& 31)), .null, .null, .null]]) ⟨by omega, hl1, hl2, hl4⟩ gzT (ci := 3) (C := RX2) (by decide) rfl (fun i hi y hy => ?_) (List.mem_append_right _ (List.mem_singleton.mpr rfl))) lk_X3_91 dX3_open_100 ⟨(Nat.le_of_ble_eq_true rfl), (Nat.le_of_ble_eq_true rfl)⟩ 0 rfl rfl rfl (Nat.le_of_ble_eq_true rfl) ⟨(Nat.le_of_ble_eq_true rfl), (Nat.le_of_ble_eq_true rfl)⟩ (fun u w1 hp => ?_)
  · rw [hl3 i hi] at hy
    cases hy
    exact ⟨_, List.mem_append_left _ (List.mem_of_getElem? (rng_get hi))⟩
  obtain ⟨rfl, E', cap', f', rfl, a1, a2, a3, a4, a5⟩ := hp
  refine j_perm (CW (kD k) (gT G b E' ((lT G).2.1 + 1) cap' f') (C_nT v (nT G) p0 p1 p2 p3) (C_rT r (nT G))) (by rw [gT_world hC a3]; exact permO2 _ _ _ _ [_, _]) ?_
  refine j_pop F dX3_open_103 rfl ?_
  refine j_aload F dX3_open_104 rfl ?_
  have hx : nT G < nT (gT G b E' ((lT G).2.1 + 1) cap' f') := Nat.lt_succ_self _
  refine gf_X3_142 F (v := .int (nI (nT G))) dX3_open_106 _ (by rw [cg_T hx, gT_new]) (by show some (Value.int (upd (v 20) (nT G) (nI (nT G)) (nT G))) = _; rw [upd_self]) ?_
  refine j_iret F hR dX3_open_109 (Nat.le_of_ble_eq_true rfl) (Nat.le_of_ble_eq_true rfl) (hP _ ⟨fun _ => rfl, rfl, rfl, gA6, by show nT G + 1 ≤ 20; omega, glA, ⟨a1, a2, fun i hi => ?_, Or.inr a3⟩, ginj, gzA, fun e => absurd e (by show cap' ≠ 0; omega)⟩)
  show f' i = some (aT (gT G b E' ((lT G).2.1 + 1) cap' f') i)
  rcases Nat.lt_succ_iff_lt_or_eq.mp hi with h | h
  · rw [gT_old h, a4 i h]
    exact hl3 i h
  · rw [h, gT_new, a5]
theorem addTail {k : Kx} (F : Fx k cX3_addAgent RX3 (rm4 7 2 45 201) 6) (hst : (kl k).stackTraces = false) {P : Option Value → va_W → Prop} (hR : RW k (some .int) 2 45 P) {G : CG} {v : S2} {r : R2} {p0 p1 p2 p3 : Int32} (hG : GI (kD k) G) (hC : CI G v r) (hn : nA G < 6) (hP : ∀ G', Gx (kD k) G G' 1 0 → P (some (.int (nI (nA G)))) (CW (kD k) G' (C_nA v (nA G) p0 p1 p2 p3) (C_rA r (nA G)))) : J k (CW (kD k) G v r) 0 0 59 [some (.ref (G.1 0 0)), some (.int p0), some (.int p1), some (.int p2), some (.int p3), none] [] := by
  obtain ⟨gA6, gT20, glA, glT, ginj, gzA, gzT⟩ := hG
  obtain ⟨hl1, hl2, hl3, hl4⟩ := glA
  refine j_new F hR.1 tyX0 inU_X0 tyX0_ok ul_X3_86 uk_X0 ui_X0 (ci := 1) rfl (fs := [.int 0, .int 0, .int 0, .int 0, .int 0, .null, .int 0, .int 0]) (by decide +kernel) dX3_addAgent_59 ⟨(Nat.le_of_ble_eq_true rfl), (Nat.le_of_ble_eq_true rfl)⟩ (fun b => ?_)
  refine j_nodup hR.1 (fun hnd => ?_)
  have hq := cg_LA (D := kD k) (G := G) (v := v) (r := r)
  refine j_dup F dX3_addAgent_62 rfl ?_
  refine j_aloadn F dX3_addAgent_63 rfl ?_
  refine gf_X3_26 F (v := .ref (G.1 0 4)) dX3_addAgent_64 0 rfl rfl ?_
  refine j_rdV F (qJ_size (kl k) hst (kD k) (G.1 0 4) (lA G).1 (lA G).2.1 (nA G)) lk_X3_77 dX3_addAgent_67 ⟨(Nat.le_of_ble_eq_true rfl), (Nat.le_of_ble_eq_true rfl)⟩ (fun z h => List.mem_append_left _ (cm_LA z (LW_hd z h))) _ (by rw [List.getElem?_append_left (List.getElem?_eq_some_iff.mp hq).1]; exact hq) rfl rfl (Nat.le_of_ble_eq_true rfl) ⟨(Nat.le_of_ble_eq_true rfl), (Nat.le_of_ble_eq_true rfl)⟩ ?_
  refine j_iloadn F dX3_addAgent_70 rfl ?_
  refine j_iloadn F dX3_addAgent_71 rfl ?_
  refine j_iloadn F dX3_addAgent_72 rfl ?_
  refine j_iload F dX3_addAgent_73 rfl ?_
  refine j_perm ([(b, .inr (1, [.int 0, .int 0, .int 0, .int 0, .int 0, .null, .int 0, .int 0]))] ++ CW (kD k) G v r) List.perm_append_comm ?_
  refine j_cmI F hR.1 (qX0_init (kl k) hst (kD k) b (nI (nA G)) p0 p1 p2 p3) lk_X3_88 dX3_addAgent_75 ⟨(Nat.le_of_ble_eq_true rfl), (Nat.le_of_ble_eq_true rfl)⟩ rfl (Nat.le_of_ble_eq_true rfl) ⟨(Nat.le_of_ble_eq_true rfl), (Nat.le_of_ble_eq_true rfl)⟩ (fun u w1 hp => ?_)
  obtain ⟨rfl, rfl⟩ := hp
  refine j_st [.ref b] rfl ?_
  refine j_astore F [some (.ref (G.1 0 0)), some (.int p0), some (.int p1), some (.int p2), some (.int p3), some (.ref b)] dX3_addAgent_78 rfl rfl rfl ?_
  refine j_aloadn F dX3_addAgent_80 rfl ?_
  refine j_perm (CW (kD k) G v r ++ [obC b 1 [.int (nI (nA G)), .int p1, .int p2, .int p3, .int p0, .null, .int 0, .int 0]]) List.perm_append_comm ?_
  refine gf_X3_26 F (v := .ref (G.1 0 4)) dX3_addAgent_81 0 rfl rfl ?_
  refine j_aload F dX3_addAgent_84 rfl ?_
  refine j_perm _ (permA _ _ _ _ _ _) ?_
  refine j_cmV F hR.1 (qJ_add (kl k) hst (kD k) (G.1 0 4) (lA G).1 (nA G) (lA G).2.2.1 b (lA G).2.1 (lA G).2.2.2 (ags G v r (nA G) ++ [obC b 1 [.int (nI (nA G)), .int p1, .int p2, .int p3, .int p0, .null, .int 0, .int 0]]) ⟨by omega, hl1, hl2, hl4⟩ gzA (ci := 1) (C := RX0) (by decide) rfl (fun i hi y hy => ?_) (List.mem_append_right _ (List.mem_singleton.mpr rfl))) lk_X3_91 dX3_addAgent_86 ⟨(Nat.le_of_ble_eq_true rfl), (Nat.le_of_ble_eq_true rfl)⟩ 0 rfl rfl rfl (Nat.le_of_ble_eq_true rfl) ⟨(Nat.le_of_ble_eq_true rfl), (Nat.le_of_ble_eq_true rfl)⟩ (fun u w1 hp => ?_)
  · rw [hl3 i hi] at hy
    cases hy
    exact ⟨_, List.mem_append_left _ (List.mem_of_getElem? (rng_get hi))⟩
  obtain ⟨rfl, E', cap', f', rfl, a1, a2, a3, a4, a5⟩ := hp
  refine j_perm (CW (kD k) (gA G b E' ((lA G).2.1 + 1) cap' f') (C_nA v (nA G) p0 p1 p2 p3) (C_rA r (nA G))) (by rw [gA_world hC a3]; exact permA2 _ _ _ [_, _] _) ?_
  refine j_pop F dX3_addAgent_89 rfl ?_
  refine j_aload F dX3_addAgent_90 rfl ?_
  have hx : nA G < nA (gA G b E' ((lA G).2.1 + 1) cap' f') := Nat.lt_succ_self _
  refine gf_X3_95 F (v := .int (nI (nA G))) dX3_addAgent_92 _ (by rw [cg_A hx, gA_new]) (by show some (Value.int (upd (v 10) (nA G) (nI (nA G)) (nA G))) = _; rw [upd_self]) ?_
  refine j_iret F hR dX3_addAgent_95 (Nat.le_of_ble_eq_true rfl) (Nat.le_of_ble_eq_true rfl) (hP _ ⟨fun _ => rfl, rfl, rfl, by show nA G + 1 ≤ 6; omega, gT20, ⟨a1, a2, fun i hi => ?_, Or.inr a3⟩, glT, fun i j hi hj e => ?_, fun e => absurd e (by show cap' ≠ 0; omega), gzT⟩)
  · show f' i = some (aA (gA G b E' ((lA G).2.1 + 1) cap' f') i)
    rcases Nat.lt_succ_iff_lt_or_eq.mp hi with h | h
    · rw [gA_old h, a4 i h]
      exact hl3 i h
    · rw [h, gA_new, a5]
  · rcases Nat.lt_succ_iff_lt_or_eq.mp hi with h | h <;> rcases Nat.lt_succ_iff_lt_or_eq.mp hj with h2 | h2
    · rw [gA_old h, gA_old h2] at e
      exact ginj i j h h2 e
    · rw [gA_old h, h2, gA_new] at e
      exact absurd e (nodup_app hnd h)
    · rw [gA_old h2, h, gA_new] at e
      exact absurd e.symm (nodup_app hnd h2)
    · rw [h, h2]
def C_addAgent (na nt : Nat) (v : S2) (r : R2) (p0 : Int32) (p1 : Int32) (p2 : Int32) (p3 : Int32) : Nat × Int32 × S2 × R2 := if (C_isSetOfSkills p0) = true then (if p1 < 1 then (1, 0, v, r) else if 127 < p1 then (1, 0, v, r) else if (C_isSpanOfDay p2 p3) = true then (if (nI na) < 6 then (0, nI na, C_nA v na p0 p1 p2 p3, C_rA r na) else (3, 0, v, r)) else (1, 0, v, r)) else (1, 0, v, r)
set_option maxHeartbeats 4000000 in
set_option maxRecDepth 100000 in
theorem qX3_addAgent (l : Launch) (hst : l.stackTraces = false) (D : va_G) (G : CG) (v : S2) (r : R2) (p0 : Int32) (p1 : Int32) (p2 : Int32) (p3 : Int32) (hG : GI D G) (hC : CI G v r) : CX l D yX3_addAgent cX3_addAgent 6 (some .int) 7 201 2 45 (CW D G v r) [.ref (G.1 0 0), .int p0, .int p1, .int p2, .int p3] (fun u w => (C_addAgent (nA G) (nT G) v r p0 p1 p2 p3).1 = 0 ∧ ∃ G', Gx D G G' 1 0 ∧ u = some (.int (C_addAgent (nA G) (nT G) v r p0 p1 p2 p3).2.1) ∧ w = CW D G' (C_addAgent (nA G) (nT G) v r p0 p1 p2 p3).2.2.1 (C_addAgent (nA G) (nT G) v r p0 p1 p2 p3).2.2.2) (fun E => (C_addAgent (nA G) (nT G) v r p0 p1 p2 p3).1 ≠ 0 ∧ E = xE (C_addAgent (nA G) (nT G) v r p0 p1 p2 p3).1) := by
  refine CX_of [some (.ref (G.1 0 0)), some (.int p0), some (.int p1), some (.int p2), some (.int p3), none] hst (by decide +kernel) rfl (Nat.le_of_ble_eq_true rfl) (fun k F hl hD hR hX hNT => ?_)
  subst hl hD
  refine j_iloadn F dX3_addAgent_0 rfl ?_
  refine j_rdS F (qX3_isSetOfSkills (kl k) hst (kD k) p0) lk_X3_72 dX3_addAgent_1 ⟨(Nat.le_of_ble_eq_true rfl), (Nat.le_of_ble_eq_true rfl)⟩ (fun _ h => nomatch h) rfl (Nat.le_of_ble_eq_true rfl) ⟨(Nat.le_of_ble_eq_true rfl), (Nat.le_of_ble_eq_true rfl)⟩ ?_
  refine j_ifbeq F (tgt := 27) dX3_addAgent_4 (by decide) (fun h4 => ?_) (fun h4 => ?_)
  · have hz : C_addAgent (nA G) (nT G) v r p0 p1 p2 p3 = (1, 0, v, r) := by rw [C_addAgent, if_neg h4]
    exact j_throw F hX hNT lt_eA (text := "no such agent can be added") (by decide +kernel) ⟨by rw [hz]; exact (Nat.succ_ne_zero _), by rw [hz]; rfl⟩ dX3_addAgent_27 dX3_addAgent_30 dX3_addAgent_31 dX3_addAgent_33 dX3_addAgent_36 ⟨(Nat.le_of_ble_eq_true rfl), (Nat.le_of_ble_eq_true rfl), (Nat.le_of_ble_eq_true rfl), (Nat.le_of_ble_eq_true rfl)⟩ (Nat.le_of_ble_eq_true rfl) (Nat.le_of_ble_eq_true rfl)
  · refine j_iloadn F dX3_addAgent_7 rfl ?_
    refine j_iconst F (v := 1) dX3_addAgent_8 (by decide) ?_
    refine j_iclt F (tgt := 27) dX3_addAgent_9 (by decide) (fun h9 => ?_) (fun h9 => ?_)
    · have hz : C_addAgent (nA G) (nT G) v r p0 p1 p2 p3 = (1, 0, v, r) := by rw [C_addAgent, if_pos h4, if_pos h9]
      exact j_throw F hX hNT lt_eA (text := "no such agent can be added") (by decide +kernel) ⟨by rw [hz]; exact (Nat.succ_ne_zero _), by rw [hz]; rfl⟩ dX3_addAgent_27 dX3_addAgent_30 dX3_addAgent_31 dX3_addAgent_33 dX3_addAgent_36 ⟨(Nat.le_of_ble_eq_true rfl), (Nat.le_of_ble_eq_true rfl), (Nat.le_of_ble_eq_true rfl), (Nat.le_of_ble_eq_true rfl)⟩ (Nat.le_of_ble_eq_true rfl) (Nat.le_of_ble_eq_true rfl)
    · refine j_iloadn F dX3_addAgent_12 rfl ?_
      refine j_bipush F (v := 127) dX3_addAgent_13 (by decide) ?_
      refine j_icgt F (tgt := 27) dX3_addAgent_15 (by decide) (fun h15 => ?_) (fun h15 => ?_)
      · have hz : C_addAgent (nA G) (nT G) v r p0 p1 p2 p3 = (1, 0, v, r) := by rw [C_addAgent, if_pos h4, if_neg h9, if_pos h15]
        exact j_throw F hX hNT lt_eA (text := "no such agent can be added") (by decide +kernel) ⟨by rw [hz]; exact (Nat.succ_ne_zero _), by rw [hz]; rfl⟩ dX3_addAgent_27 dX3_addAgent_30 dX3_addAgent_31 dX3_addAgent_33 dX3_addAgent_36 ⟨(Nat.le_of_ble_eq_true rfl), (Nat.le_of_ble_eq_true rfl), (Nat.le_of_ble_eq_true rfl), (Nat.le_of_ble_eq_true rfl)⟩ (Nat.le_of_ble_eq_true rfl) (Nat.le_of_ble_eq_true rfl)
      · refine j_iloadn F dX3_addAgent_18 rfl ?_
        refine j_iload F dX3_addAgent_19 rfl ?_
        refine j_rdS F (qX3_isSpanOfDay (kl k) hst (kD k) p2 p3) lk_X3_37 dX3_addAgent_21 ⟨(Nat.le_of_ble_eq_true rfl), (Nat.le_of_ble_eq_true rfl)⟩ (fun _ h => nomatch h) rfl (Nat.le_of_ble_eq_true rfl) ⟨(Nat.le_of_ble_eq_true rfl), (Nat.le_of_ble_eq_true rfl)⟩ ?_
        refine j_ifbne F (tgt := 37) dX3_addAgent_24 (by decide) (fun h24 => ?_) (fun h24 => ?_)
        · refine j_aloadn F dX3_addAgent_37 rfl ?_
          refine gf_X3_26 F (v := .ref (G.1 0 4)) dX3_addAgent_38 0 rfl rfl ?_
          refine j_sizeA F lk_X3_77 dX3_addAgent_41 ⟨(Nat.le_of_ble_eq_true rfl), (Nat.le_of_ble_eq_true rfl)⟩ (Nat.le_of_ble_eq_true rfl) ⟨(Nat.le_of_ble_eq_true rfl), (Nat.le_of_ble_eq_true rfl)⟩ hst ?_
          refine j_bipush F (v := 6) dX3_addAgent_44 (by decide) ?_
          refine j_iclt F (tgt := 59) dX3_addAgent_46 (by decide) (fun h46 => ?_) (fun h46 => ?_)
          · have hz : C_addAgent (nA G) (nT G) v r p0 p1 p2 p3 = (0, nI (nA G), C_nA v (nA G) p0 p1 p2 p3, C_rA r (nA G)) := by rw [C_addAgent, if_pos h4, if_neg h9, if_neg h15, if_pos h24, if_pos h46]
            exact addTail F hst hR hG hC ((nI_ltI (by have := hG.nA; omega) (b := 6) (by decide)).mp h46) (fun G' hx => ⟨by rw [hz], G', hx, by rw [hz], by rw [hz]⟩)
          · have hz : C_addAgent (nA G) (nT G) v r p0 p1 p2 p3 = (3, 0, v, r) := by rw [C_addAgent, if_pos h4, if_neg h9, if_neg h15, if_pos h24, if_neg h46]
            exact j_throw F hX hNT lt_eS (text := "there are as many agents as there may be") (by decide +kernel) ⟨by rw [hz]; exact (Nat.succ_ne_zero _), by rw [hz]; rfl⟩ dX3_addAgent_49 dX3_addAgent_52 dX3_addAgent_53 dX3_addAgent_55 dX3_addAgent_58 ⟨(Nat.le_of_ble_eq_true rfl), (Nat.le_of_ble_eq_true rfl), (Nat.le_of_ble_eq_true rfl), (Nat.le_of_ble_eq_true rfl)⟩ (Nat.le_of_ble_eq_true rfl) (Nat.le_of_ble_eq_true rfl)
        · have hz : C_addAgent (nA G) (nT G) v r p0 p1 p2 p3 = (1, 0, v, r) := by rw [C_addAgent, if_pos h4, if_neg h9, if_neg h15, if_neg h24]
          exact j_throw F hX hNT lt_eA (text := "no such agent can be added") (by decide +kernel) ⟨by rw [hz]; exact (Nat.succ_ne_zero _), by rw [hz]; rfl⟩ dX3_addAgent_27 dX3_addAgent_30 dX3_addAgent_31 dX3_addAgent_33 dX3_addAgent_36 ⟨(Nat.le_of_ble_eq_true rfl), (Nat.le_of_ble_eq_true rfl), (Nat.le_of_ble_eq_true rfl), (Nat.le_of_ble_eq_true rfl)⟩ (Nat.le_of_ble_eq_true rfl) (Nat.le_of_ble_eq_true rfl)
def C_open (na nt : Nat) (v : S2) (r : R2) (p0 : Int32) (p1 : Int32) (p2 : Int32) (p3 : Int32) : Nat × Int32 × S2 × R2 := if p0 < 0 then (1, 0, v, r) else if 8 ≤ p0 then (1, 0, v, r) else if (C_isPriority p1) = true then (if p2 < 1 then (1, 0, v, r) else if 600 < p2 then (1, 0, v, r) else if p3 < 0 then (1, 0, v, r) else if p3 < 10 then (if (nI nt) < 20 then (0, nI nt, C_nT v nt p0 p1 p2 p3, C_rT r nt) else (3, 0, v, r)) else (1, 0, v, r)) else (1, 0, v, r)
set_option maxHeartbeats 4000000 in
set_option maxRecDepth 100000 in
theorem qX3_open (l : Launch) (hst : l.stackTraces = false) (D : va_G) (G : CG) (v : S2) (r : R2) (p0 : Int32) (p1 : Int32) (p2 : Int32) (p3 : Int32) (hG : GI D G) (hC : CI G v r) : CX l D yX3_open cX3_open 6 (some .int) 7 201 2 45 (CW D G v r) [.ref (G.1 0 0), .int p0, .int p1, .int p2, .int p3] (fun u w => (C_open (nA G) (nT G) v r p0 p1 p2 p3).1 = 0 ∧ ∃ G', Gx D G G' 0 1 ∧ u = some (.int (C_open (nA G) (nT G) v r p0 p1 p2 p3).2.1) ∧ w = CW D G' (C_open (nA G) (nT G) v r p0 p1 p2 p3).2.2.1 (C_open (nA G) (nT G) v r p0 p1 p2 p3).2.2.2) (fun E => (C_open (nA G) (nT G) v r p0 p1 p2 p3).1 ≠ 0 ∧ E = xE (C_open (nA G) (nT G) v r p0 p1 p2 p3).1) := by
  refine CX_of [some (.ref (G.1 0 0)), some (.int p0), some (.int p1), some (.int p2), some (.int p3), none] hst (by decide +kernel) rfl (Nat.le_of_ble_eq_true rfl) (fun k F hl hD hR hX hNT => ?_)
  subst hl hD
  refine j_iloadn F dX3_open_0 rfl ?_
  refine j_iflt F (tgt := 41) dX3_open_1 (by decide) (fun h1 => ?_) (fun h1 => ?_)
  · have hz : C_open (nA G) (nT G) v r p0 p1 p2 p3 = (1, 0, v, r) := by rw [C_open, if_pos h1]
    exact j_throw F hX hNT lt_eA (text := "no such ticket can be opened") (by decide +kernel) ⟨by rw [hz]; exact (Nat.succ_ne_zero _), by rw [hz]; rfl⟩ dX3_open_41 dX3_open_44 dX3_open_45 dX3_open_47 dX3_open_50 ⟨(Nat.le_of_ble_eq_true rfl), (Nat.le_of_ble_eq_true rfl), (Nat.le_of_ble_eq_true rfl), (Nat.le_of_ble_eq_true rfl)⟩ (Nat.le_of_ble_eq_true rfl) (Nat.le_of_ble_eq_true rfl)
  · refine j_iloadn F dX3_open_4 rfl ?_
    refine j_bipush F (v := 8) dX3_open_5 (by decide) ?_
    refine j_icge F (tgt := 41) dX3_open_7 (by decide) (fun h7 => ?_) (fun h7 => ?_)
    · have hz : C_open (nA G) (nT G) v r p0 p1 p2 p3 = (1, 0, v, r) := by rw [C_open, if_neg h1, if_pos h7]
      exact j_throw F hX hNT lt_eA (text := "no such ticket can be opened") (by decide +kernel) ⟨by rw [hz]; exact (Nat.succ_ne_zero _), by rw [hz]; rfl⟩ dX3_open_41 dX3_open_44 dX3_open_45 dX3_open_47 dX3_open_50 ⟨(Nat.le_of_ble_eq_true rfl), (Nat.le_of_ble_eq_true rfl), (Nat.le_of_ble_eq_true rfl), (Nat.le_of_ble_eq_true rfl)⟩ (Nat.le_of_ble_eq_true rfl) (Nat.le_of_ble_eq_true rfl)
    · refine j_iloadn F dX3_open_10 rfl ?_
      refine j_rdS F (qX3_isPriority (kl k) hst (kD k) p1) lk_X3_54 dX3_open_11 ⟨(Nat.le_of_ble_eq_true rfl), (Nat.le_of_ble_eq_true rfl)⟩ (fun _ h => nomatch h) rfl (Nat.le_of_ble_eq_true rfl) ⟨(Nat.le_of_ble_eq_true rfl), (Nat.le_of_ble_eq_true rfl)⟩ ?_
      refine j_ifbeq F (tgt := 41) dX3_open_14 (by decide) (fun h14 => ?_) (fun h14 => ?_)
      · have hz : C_open (nA G) (nT G) v r p0 p1 p2 p3 = (1, 0, v, r) := by rw [C_open, if_neg h1, if_neg h7, if_neg h14]
        exact j_throw F hX hNT lt_eA (text := "no such ticket can be opened") (by decide +kernel) ⟨by rw [hz]; exact (Nat.succ_ne_zero _), by rw [hz]; rfl⟩ dX3_open_41 dX3_open_44 dX3_open_45 dX3_open_47 dX3_open_50 ⟨(Nat.le_of_ble_eq_true rfl), (Nat.le_of_ble_eq_true rfl), (Nat.le_of_ble_eq_true rfl), (Nat.le_of_ble_eq_true rfl)⟩ (Nat.le_of_ble_eq_true rfl) (Nat.le_of_ble_eq_true rfl)
      · refine j_iloadn F dX3_open_17 rfl ?_
        refine j_iconst F (v := 1) dX3_open_18 (by decide) ?_
        refine j_iclt F (tgt := 41) dX3_open_19 (by decide) (fun h19 => ?_) (fun h19 => ?_)
        · have hz : C_open (nA G) (nT G) v r p0 p1 p2 p3 = (1, 0, v, r) := by rw [C_open, if_neg h1, if_neg h7, if_pos h14, if_pos h19]
          exact j_throw F hX hNT lt_eA (text := "no such ticket can be opened") (by decide +kernel) ⟨by rw [hz]; exact (Nat.succ_ne_zero _), by rw [hz]; rfl⟩ dX3_open_41 dX3_open_44 dX3_open_45 dX3_open_47 dX3_open_50 ⟨(Nat.le_of_ble_eq_true rfl), (Nat.le_of_ble_eq_true rfl), (Nat.le_of_ble_eq_true rfl), (Nat.le_of_ble_eq_true rfl)⟩ (Nat.le_of_ble_eq_true rfl) (Nat.le_of_ble_eq_true rfl)
        · refine j_iloadn F dX3_open_22 rfl ?_
          refine j_sipush F (v := 600) dX3_open_23 (by decide) ?_
          refine j_icgt F (tgt := 41) dX3_open_26 (by decide) (fun h26 => ?_) (fun h26 => ?_)
          · have hz : C_open (nA G) (nT G) v r p0 p1 p2 p3 = (1, 0, v, r) := by rw [C_open, if_neg h1, if_neg h7, if_pos h14, if_neg h19, if_pos h26]
            exact j_throw F hX hNT lt_eA (text := "no such ticket can be opened") (by decide +kernel) ⟨by rw [hz]; exact (Nat.succ_ne_zero _), by rw [hz]; rfl⟩ dX3_open_41 dX3_open_44 dX3_open_45 dX3_open_47 dX3_open_50 ⟨(Nat.le_of_ble_eq_true rfl), (Nat.le_of_ble_eq_true rfl), (Nat.le_of_ble_eq_true rfl), (Nat.le_of_ble_eq_true rfl)⟩ (Nat.le_of_ble_eq_true rfl) (Nat.le_of_ble_eq_true rfl)
          · refine j_iload F dX3_open_29 rfl ?_
            refine j_iflt F (tgt := 41) dX3_open_31 (by decide) (fun h31 => ?_) (fun h31 => ?_)
            · have hz : C_open (nA G) (nT G) v r p0 p1 p2 p3 = (1, 0, v, r) := by rw [C_open, if_neg h1, if_neg h7, if_pos h14, if_neg h19, if_neg h26, if_pos h31]
              exact j_throw F hX hNT lt_eA (text := "no such ticket can be opened") (by decide +kernel) ⟨by rw [hz]; exact (Nat.succ_ne_zero _), by rw [hz]; rfl⟩ dX3_open_41 dX3_open_44 dX3_open_45 dX3_open_47 dX3_open_50 ⟨(Nat.le_of_ble_eq_true rfl), (Nat.le_of_ble_eq_true rfl), (Nat.le_of_ble_eq_true rfl), (Nat.le_of_ble_eq_true rfl)⟩ (Nat.le_of_ble_eq_true rfl) (Nat.le_of_ble_eq_true rfl)
            · refine j_iload F dX3_open_34 rfl ?_
              refine j_bipush F (v := 10) dX3_open_36 (by decide) ?_
              refine j_iclt F (tgt := 51) dX3_open_38 (by decide) (fun h38 => ?_) (fun h38 => ?_)
              · refine j_aloadn F dX3_open_51 rfl ?_
                refine gf_X3_30 F (v := .ref (G.1 0 5)) dX3_open_52 0 rfl rfl ?_
                refine j_sizeT F lk_X3_77 dX3_open_55 ⟨(Nat.le_of_ble_eq_true rfl), (Nat.le_of_ble_eq_true rfl)⟩ (Nat.le_of_ble_eq_true rfl) ⟨(Nat.le_of_ble_eq_true rfl), (Nat.le_of_ble_eq_true rfl)⟩ hst ?_
                refine j_bipush F (v := 20) dX3_open_58 (by decide) ?_
                refine j_iclt F (tgt := 73) dX3_open_60 (by decide) (fun h60 => ?_) (fun h60 => ?_)
                · have hz : C_open (nA G) (nT G) v r p0 p1 p2 p3 = (0, nI (nT G), C_nT v (nT G) p0 p1 p2 p3, C_rT r (nT G)) := by rw [C_open, if_neg h1, if_neg h7, if_pos h14, if_neg h19, if_neg h26, if_neg h31, if_pos h38, if_pos h60]
                  exact openTail F hst hR hG hC ((nI_ltI (by have := hG.nT; omega) (b := 20) (by decide)).mp h60) (fun G' hx => ⟨by rw [hz], G', hx, by rw [hz], by rw [hz]⟩)
                · have hz : C_open (nA G) (nT G) v r p0 p1 p2 p3 = (3, 0, v, r) := by rw [C_open, if_neg h1, if_neg h7, if_pos h14, if_neg h19, if_neg h26, if_neg h31, if_pos h38, if_neg h60]
                  exact j_throw F hX hNT lt_eS (text := "there are as many tickets as there may be") (by decide +kernel) ⟨by rw [hz]; exact (Nat.succ_ne_zero _), by rw [hz]; rfl⟩ dX3_open_63 dX3_open_66 dX3_open_67 dX3_open_69 dX3_open_72 ⟨(Nat.le_of_ble_eq_true rfl), (Nat.le_of_ble_eq_true rfl), (Nat.le_of_ble_eq_true rfl), (Nat.le_of_ble_eq_true rfl)⟩ (Nat.le_of_ble_eq_true rfl) (Nat.le_of_ble_eq_true rfl)
              · have hz : C_open (nA G) (nT G) v r p0 p1 p2 p3 = (1, 0, v, r) := by rw [C_open, if_neg h1, if_neg h7, if_pos h14, if_neg h19, if_neg h26, if_neg h31, if_neg h38]
                exact j_throw F hX hNT lt_eA (text := "no such ticket can be opened") (by decide +kernel) ⟨by rw [hz]; exact (Nat.succ_ne_zero _), by rw [hz]; rfl⟩ dX3_open_41 dX3_open_44 dX3_open_45 dX3_open_47 dX3_open_50 ⟨(Nat.le_of_ble_eq_true rfl), (Nat.le_of_ble_eq_true rfl), (Nat.le_of_ble_eq_true rfl), (Nat.le_of_ble_eq_true rfl)⟩ (Nat.le_of_ble_eq_true rfl) (Nat.le_of_ble_eq_true rfl)
end
section
/-! WHAT HOLDS OF THE CLASS'S STATE AT ALL TIMES. K: what stays (the numbers of rows 0, 10, 14, 20, 21); E: a bound of the efforts, S: the minutes of service so far, M: of the minute, so: how many were solved -/
def sumI (f : Nat → Int32) : Nat → Int32
  | 0 => 0
  | n + 1 => sumI f n + f n
theorem sumI_up {f g : Nat → Int32} {i : Nat} {x : Int32} (hi : g i = f i + x) (ho : ∀ j, j ≠ i → g j = f j) : ∀ n, sumI g n = sumI f n + (if i < n then x else 0)
  | 0 => by rw [if_neg (Nat.not_lt_zero _)]; rfl
  | n + 1 => by
    show sumI g n + g n = sumI f n + f n + _
    rw [sumI_up hi ho n]
    by_cases e : n = i
    · subst e
      rw [if_neg (Nat.lt_irrefl _), if_pos (Nat.lt_succ_self _), hi, Int32.add_zero, Int32.add_assoc]
    · rw [ho n e]
      by_cases l : i < n
      · rw [if_pos l, if_pos (by omega), Int32.add_assoc, Int32.add_assoc, Int32.add_comm x]
      · rw [if_neg l, if_neg (by omega), Int32.add_zero, Int32.add_zero]
theorem sumI_same {f g : Nat → Int32} : ∀ n, (∀ j, j < n → g j = f j) → sumI g n = sumI f n
  | 0, _ => rfl
  | n + 1, h => by
    show sumI g n + g n = sumI f n + f n
    rw [sumI_same n (fun j hj => h j (by omega)), h n (Nat.lt_succ_self n)]
def hs (x k : Int32) : Prop := ¬ (x &&& (1 <<< (k &&& 31)) = 0)
/-- agents and tickets tell the same of each other; s: the states -/
def Lk (na nt : Nat) (K : S2) (s : Nat → Int32) (r : R2) : Prop :=
  (∀ a, a < na → ∀ t, r 15 a = some t → t < nt ∧ r 32 t = some a ∧ hs (K 14 a) (K 21 t)) ∧ (∀ t, t < nt → ∀ a, r 32 t = some a → a < na ∧ r 15 a = some t) ∧ ∀ t, t < nt → (s t = 1 ↔ ¬ r 32 t = none)
/-- the numbers of a ticket: state, done, effort, age at its answer, age, solved at -/
def TkN (E S M : Int) (st dn ef an ag sa : Int32) : Prop :=
  (0 ≤ dn.toInt ∧ dn.toInt ≤ ef.toInt ∧ ef.toInt ≤ E) ∧ (st = 3 ↔ dn = ef) ∧ (0 < dn.toInt → 0 ≤ an.toInt) ∧ (st = 1 → 0 ≤ an.toInt) ∧ (an.toInt ≤ ag.toInt ∧ 0 ≤ ag.toInt ∧ ag.toInt ≤ S) ∧ (0 ≤ sa.toInt ∧ sa.toInt ≤ M) ∧ (st = 0 ∨ st = 1 ∨ st = 2 ∨ st = 3 ∨ st = 4)
def Kp (K v : S2) : Prop := v 0 = K 0 ∧ v 10 = K 10 ∧ v 14 = K 14 ∧ v 20 = K 20 ∧ v 21 = K 21
def Tks (nt : Nat) (v : S2) (E S M : Int) : Prop := ∀ t, t < nt → TkN E S M (v 24 t) (v 26 t) (v 23 t) (v 27 t) (v 25 t) (v 30 t)
def Iv (na nt : Nat) (K v : S2) (r : R2) (E S M : Int) (so : Int32) : Prop :=
  Lk na nt K (v 24) r ∧ Tks nt v E S M ∧ Kp K v ∧ sumI (v 16) na = sumI (v 26) nt ∧ sumI (v 17) na = so
section INV
variable {na nt : Nat} {K v : S2} {r : R2} {E S M : Int} {so : Int32}
theorem take_v {t : Nat} : (C_takeFromHolder na nt v r t).1 = v := by unfold C_takeFromHolder; split <;> rfl
theorem take_r {t j : Nat} (h15 : ¬ j = 15) (h32 : ¬ j = 32) : (C_takeFromHolder na nt v r t).2 j = r j := by
  unfold C_takeFromHolder
  split
  · rfl
  · show u3 (u3 r 15 _ none) 32 t none j = r j
    rw [u3_ne1 h32, u3_ne1 h15]
theorem take_32 {t u : Nat} : (C_takeFromHolder na nt v r t).2 32 u = if u = t then none else r 32 u := by
  unfold C_takeFromHolder
  by_cases h : r 32 t = none
  · rw [if_pos h]
    by_cases e : u = t
    · rw [if_pos e, e]; exact h
    · rw [if_neg e]
  · rw [if_neg h]
    show u3 (u3 r 15 _ none) 32 t none 32 u = _
    rw [u3_at]
    by_cases e : u = t
    · rw [if_pos ⟨rfl, e⟩, if_pos e]
    · rw [if_neg (fun z => e z.2), if_neg e, u3_ne1 (by decide)]
theorem Lk.take_15 {s : Nat → Int32} (h : Lk na nt K s r) {t a : Nat} (ht : t < nt) (ha : a < na) : (C_takeFromHolder na nt v r t).2 15 a = if r 15 a = some t then none else r 15 a := by
  unfold C_takeFromHolder
  by_cases hn : r 32 t = none
  · rw [if_pos hn]
    by_cases e : r 15 a = some t
    · have := (h.1 a ha t e).2.1
      rw [hn] at this; cases this
    · rw [if_neg e]
  · rw [if_neg hn]
    show u3 (u3 r 15 (gd (r 32 t)) none) 32 t none 15 a = _
    rw [u3_ne1 (by decide), u3_at]
    obtain ⟨b, hb⟩ : ∃ b, r 32 t = some b := ⟨_, gd_some hn⟩
    rw [hb]
    rw [show gd (some b) = b from rfl]
    have hbb := h.2.1 t ht b hb
    by_cases e : a = b
    · rw [if_pos ⟨rfl, e⟩, e, if_pos hbb.2]
    · rw [if_neg (fun z => e z.2), if_neg]
      intro z
      have := (h.1 a ha t z).2.1
      rw [hb] at this
      cases this
      exact e rfl
/-- a ticket that leaves its agent, if it has one, and is in another state than 1 -/
theorem Lk.leave {s s' : Nat → Int32} (h : Lk na nt K s r) {t : Nat} (ht : t < nt) (hs1 : ¬ s' t = 1) (hso : ∀ u, u ≠ t → s' u = s u) : Lk na nt K s' (C_takeFromHolder na nt v r t).2 := by
  refine ⟨fun a ha u e => ?_, fun u hu a e => ?_, fun u hu => ?_⟩
  · rw [h.take_15 ht ha] at e
    by_cases c : r 15 a = some t
    · rw [if_pos c] at e; cases e
    · rw [if_neg c] at e
      obtain ⟨h1, h2, h3⟩ := h.1 a ha u e
      refine ⟨h1, ?_, h3⟩
      rw [take_32, if_neg (fun z => c (by rw [← z]; exact e))]
      exact h2
  · rw [take_32] at e
    by_cases c : u = t
    · rw [if_pos c] at e; cases e
    · rw [if_neg c] at e
      obtain ⟨h1, h2⟩ := h.2.1 u hu a e
      refine ⟨h1, ?_⟩
      rw [h.take_15 ht h1, if_neg (fun z => c (by rw [h2] at z; cases z; rfl))]
      exact h2
  · rw [take_32]
    by_cases c : u = t
    · rw [if_pos c, c]
      exact ⟨fun z => absurd z hs1, fun z => absurd rfl z⟩
    · rw [if_neg c, hso u c]
      exact h.2.2 u hu
theorem Lk.give {s s' : Nat → Int32} (h : Lk na nt K s r) {t a : Nat} (ht : t < nt) (ha : a < na) (h0 : s t = 0) (hf : r 15 a = none) (hk : hs (K 14 a) (K 21 t)) (hs1 : s' t = 1) (hso : ∀ u, u ≠ t → s' u = s u) : Lk na nt K s' (u3 (u3 (u3 r 15 a (some t)) 32 t (some a)) 33 t (some a)) := by
  have hn : r 32 t = none := by
    cases e : r 32 t with
    | none => rfl
    | some b =>
      have := (h.2.2 t ht).mpr (by rw [e]; intro z; cases z)
      rw [h0] at this
      exact absurd this (by decide)
  have e15 : ∀ b, u3 (u3 (u3 r 15 a (some t)) 32 t (some a)) 33 t (some a) 15 b = if b = a then some t else r 15 b := fun b => by
    rw [u3_ne1 (by decide), u3_ne1 (by decide), u3_at]
    by_cases c : b = a
    · rw [if_pos ⟨rfl, c⟩, if_pos c]
    · rw [if_neg (fun z => c z.2), if_neg c]
  have e32 : ∀ u, u3 (u3 (u3 r 15 a (some t)) 32 t (some a)) 33 t (some a) 32 u = if u = t then some a else r 32 u := fun u => by
    rw [u3_ne1 (by decide), u3_at]
    by_cases c : u = t
    · rw [if_pos ⟨rfl, c⟩, if_pos c]
    · rw [if_neg (fun z => c z.2), if_neg c, u3_ne1 (by decide)]
  refine ⟨fun b hb u e => ?_, fun u hu b e => ?_, fun u hu => ?_⟩
  · rw [e15] at e
    by_cases c : b = a
    · rw [if_pos c] at e
      cases e
      rw [c, e32, if_pos rfl]
      exact ⟨ht, rfl, hk⟩
    · rw [if_neg c] at e
      obtain ⟨h1, h2, h3⟩ := h.1 b hb u e
      refine ⟨h1, ?_, h3⟩
      rw [e32, if_neg (fun z => by rw [z, hn] at h2; cases h2)]
      exact h2
  · rw [e32] at e
    by_cases c : u = t
    · rw [if_pos c] at e
      cases e
      rw [e15, if_pos rfl, c]
      exact ⟨ha, rfl⟩
    · rw [if_neg c] at e
      obtain ⟨h1, h2⟩ := h.2.1 u hu b e
      refine ⟨h1, ?_⟩
      rw [e15, if_neg (fun z => by rw [z, hf] at h2; cases h2)]
      exact h2
  · rw [e32]
    by_cases c : u = t
    · rw [if_pos c, c, hs1]
      exact ⟨fun _ z => (by cases z), fun _ => rfl⟩
    · rw [if_neg c, hso u c]
      exact h.2.2 u hu
theorem Lk.same {s s' : Nat → Int32} (h : Lk na nt K s r) (hs : ∀ u, u < nt → (s' u = 1 ↔ s u = 1)) : Lk na nt K s' r := ⟨h.1, h.2.1, fun u hu => (hs u hu).trans (h.2.2 u hu)⟩
theorem u2_row {s : S2} {j i : Nat} {x : Int32} : u2 s j i x j = upd (s j) i x := by unfold u2; rw [if_pos rfl]
theorem u2_o {s : S2} {j i : Nat} {x : Int32} {b : Nat} (h : b ≠ i) (a : Nat) : u2 s j i x a b = s a b := by rw [u2_at, if_neg (fun z => h z.2)]
/-- numbers of one ticket change: state to one that is not 1, with its agent left -/
theorem Iv.leave (h : Iv na nt K v r E S M so) {t : Nat} (ht : t < nt) {v' : S2} (hv : ∀ u, u ≠ t → ∀ j, v' j u = v j u) (hk : Kp K v') (h16 : v' 16 = v 16) (h17 : v' 17 = v 17) (h26 : v' 26 t = v 26 t) (h1 : ¬ v' 24 t = 1) (hT : TkN E S M (v' 24 t) (v' 26 t) (v' 23 t) (v' 27 t) (v' 25 t) (v' 30 t)) : Iv na nt K v' (C_takeFromHolder na nt v r t).2 E S M so := by
  obtain ⟨g1, g2, g3, g4, g5⟩ := h
  refine ⟨g1.leave ht h1 (fun u hu => hv u hu 24), fun u hu => ?_, hk, ?_, by rw [h17]; exact g5⟩
  · by_cases e : u = t
    · rw [e]; exact hT
    · rw [hv u e, hv u e, hv u e, hv u e, hv u e, hv u e]
      exact g2 u hu
  · rw [h16, g4]
    refine (sumI_same nt fun j _ => ?_).symm
    by_cases e : j = t
    · rw [e]; exact h26
    · exact hv j e 26
/-- numbers of one ticket change, its agent stays -/
theorem Iv.stay (h : Iv na nt K v r E S M so) {t : Nat} (ht : t < nt) {v' : S2} {E' : Int} (hE : E ≤ E') (hv : ∀ u, u ≠ t → ∀ j, v' j u = v j u) (hk : Kp K v') (h16 : v' 16 = v 16) (h17 : v' 17 = v 17) (h26 : v' 26 t = v 26 t) (h1 : v' 24 t = 1 ↔ v 24 t = 1) (hT : TkN E' S M (v' 24 t) (v' 26 t) (v' 23 t) (v' 27 t) (v' 25 t) (v' 30 t)) : Iv na nt K v' r E' S M so := by
  obtain ⟨g1, g2, g3, g4, g5⟩ := h
  refine ⟨g1.same (fun u hu => ?_), fun u hu => ?_, hk, ?_, by rw [h17]; exact g5⟩
  · by_cases e : u = t
    · rw [e]; exact h1
    · rw [hv u e]
  · by_cases e : u = t
    · rw [e]; exact hT
    · rw [hv u e, hv u e, hv u e, hv u e, hv u e, hv u e]
      obtain ⟨q1, q2⟩ := g2 u hu
      exact ⟨⟨q1.1, q1.2.1, Int.le_trans q1.2.2 hE⟩, q2⟩
  · rw [h16, g4]
    refine (sumI_same nt fun j _ => ?_).symm
    by_cases e : j = t
    · rw [e]; exact h26
    · exact hv j e 26
theorem Iv.mono (h : Iv na nt K v r E S M so) {E' S' M' : Int} (hE : E ≤ E') (hS : S ≤ S') (hM : M ≤ M') : Iv na nt K v r E' S' M' so := by
  obtain ⟨g1, g2, g3, g4, g5⟩ := h
  refine ⟨g1, fun u hu => ?_, g3, g4, g5⟩
  obtain ⟨q1, q2, q3, q4, q5, q6, q7⟩ := g2 u hu
  exact ⟨⟨q1.1, q1.2.1, by omega⟩, q2, q3, q4, ⟨q5.1, q5.2.1, by omega⟩, ⟨q6.1, by omega⟩, q7⟩
theorem Iv.handBack (h : Iv na nt K v r E S M so) {t : Nat} (ht : t < nt) (h1 : v 24 t = 1) : Iv na nt K (C_handBack na nt v r t).1 (C_handBack na nt v r t).2 E S M so := by
  unfold C_handBack
  show Iv na nt K (u2 (C_takeFromHolder na nt v r t).1 24 t 0) (C_takeFromHolder na nt v r t).2 E S M so
  rw [take_v]
  obtain ⟨q1, q2, q3, q4, q5, q6, q7⟩ := h.2.1 t ht
  have hk := h.2.2.1
  refine h.leave ht (fun u hu j => u2_o hu j) ⟨(u2_ne1 (by decide)).trans hk.1, (u2_ne1 (by decide)).trans hk.2.1, (u2_ne1 (by decide)).trans hk.2.2.1, (u2_ne1 (by decide)).trans hk.2.2.2.1, (u2_ne1 (by decide)).trans hk.2.2.2.2⟩ (u2_ne1 (by decide)) (u2_ne1 (by decide)) (by rw [u2_ne1 (by decide)]) (by rw [u2_same]; decide) ?_
  rw [u2_same, u2_ne1 (by decide), u2_ne1 (by decide), u2_ne1 (by decide), u2_ne1 (by decide), u2_ne1 (by decide)]
  refine ⟨q1, ⟨fun z => absurd z (by decide), fun z => ?_⟩, q3, fun z => absurd z (by decide), q5, q6, Or.inl rfl⟩
  rw [h1] at q2
  exact absurd (q2.mpr z) (by decide)
theorem Iv.home (h : Iv na nt K v r E S M so) : ∀ n, n ≤ na → Iv na nt K (C_homeL na nt v r n).1 (C_homeL na nt v r n).2 E S M so
  | 0, _ => h
  | n + 1, hn => by
    have ih := h.home n (by omega)
    rw [C_homeL_s, C_homeLB]
    generalize (C_homeL na nt v r n).1 = x at ih ⊢
    generalize (C_homeL na nt v r n).2 = y at ih ⊢
    cases e : y 15 n with
    | none => rw [if_pos rfl]; exact ih
    | some k =>
      obtain ⟨hk, h32, _⟩ := ih.1.1 n (by omega) k e
      rw [if_neg (by intro q; cases q), show gd (some k) = k from rfl]
      split
      · exact ih
      · exact ih.handBack hk ((ih.1.2.2 k hk).mpr (by rw [h32]; intro q; cases q))
theorem first_of {a : Nat} : ∀ (n y : Nat), C_firstL na nt v r a n = some y → y < n ∧ v 24 y = 0 ∧ hs (v 14 a) (v 21 y)
  | 0, y, e => by cases e
  | n + 1, y, e => by
    rw [C_firstL_s, C_firstLB] at e
    have ih := first_of (a := a) n
    generalize C_firstL na nt v r a n = x at e ih
    have up : ∀ z, x = some z → z < n + 1 ∧ v 24 z = 0 ∧ hs (v 14 a) (v 21 z) := fun z hz => ⟨Nat.lt_succ_of_lt (ih z hz).1, (ih z hz).2⟩
    split at e
    · rename_i h0
      split at e
      · rename_i h1
        have h2 : hs (v 14 a) (v 21 n) := fun z => by
          unfold C_A_hasSkill at h1
          rw [if_pos z] at h1
          cases h1
        split at e
        · cases e; exact ⟨Nat.lt_succ_self n, h0, h2⟩
        · rename_i hx
          split at e
          · cases e; exact ⟨Nat.lt_succ_self n, h0, h2⟩
          · exact up y ((gd_some hx).trans e)
      · exact up y e
    · exact up y e
theorem Iv.give (h : Iv na nt K v r E S M so) {t a : Nat} (ht : t < nt) (ha : a < na) (h0 : v 24 t = 0) (hf : r 15 a = none) (hk : hs (v 14 a) (v 21 t)) : Iv na nt K (C_give na nt v r t a).1 (C_give na nt v r t a).2 E S M so := by
  obtain ⟨g1, g2, g3, g4, g5⟩ := h
  obtain ⟨q1, q2, q3, q4, q5, q6, q7⟩ := g2 t ht
  rw [h0] at q2
  have hne : ¬ v 26 t = v 23 t := fun z => absurd (q2.mpr z) (by decide)
  have hk' : hs (K 14 a) (K 21 t) := by rw [← g3.2.2.1, ← g3.2.2.2.2]; exact hk
  unfold C_give
  by_cases c : 0 ≤ v 27 t
  · rw [if_pos c]
    dsimp only
    rw [Int32.le_iff_toInt_le, show (0 : Int32).toInt = 0 from by decide] at c
    refine ⟨g1.give ht ha h0 hf hk' (u2_same _ _ _ _) (fun u hu => u2_o hu 24), fun u hu => ?_, ⟨(u2_ne1 (by decide)).trans g3.1, (u2_ne1 (by decide)).trans g3.2.1, (u2_ne1 (by decide)).trans g3.2.2.1, (u2_ne1 (by decide)).trans g3.2.2.2.1, (u2_ne1 (by decide)).trans g3.2.2.2.2⟩, by rw [u2_ne1 (by decide), u2_ne1 (by decide)]; exact g4, by rw [u2_ne1 (by decide)]; exact g5⟩
    by_cases e : u = t
    · rw [e, u2_same, u2_ne1 (by decide), u2_ne1 (by decide), u2_ne1 (by decide), u2_ne1 (by decide), u2_ne1 (by decide)]
      exact ⟨q1, ⟨fun z => absurd z (by decide), fun z => absurd z hne⟩, fun _ => c, fun _ => c, q5, q6, Or.inr (Or.inl rfl)⟩
    · rw [u2_o e, u2_o e, u2_o e, u2_o e, u2_o e, u2_o e]; exact g2 u hu
  · rw [if_neg c]
    dsimp only
    refine ⟨g1.give ht ha h0 hf hk' (by rw [u2_ne1 (by decide), u2_same]) (fun u hu => by rw [u2_o hu, u2_o hu]), fun u hu => ?_, ⟨(u2_ne1 (by decide)).trans ((u2_ne1 (by decide)).trans g3.1), (u2_ne1 (by decide)).trans ((u2_ne1 (by decide)).trans g3.2.1), (u2_ne1 (by decide)).trans ((u2_ne1 (by decide)).trans g3.2.2.1), (u2_ne1 (by decide)).trans ((u2_ne1 (by decide)).trans g3.2.2.2.1), (u2_ne1 (by decide)).trans ((u2_ne1 (by decide)).trans g3.2.2.2.2)⟩, ?_, ?_⟩
    · by_cases e : u = t
      · rw [e, u2_same, u2_ne1 (by decide), u2_same, u2_ne1 (by decide), u2_ne1 (by decide), u2_ne1 (by decide), u2_ne1 (by decide), u2_ne1 (by decide), u2_ne1 (by decide), u2_ne1 (by decide), u2_ne1 (by decide)]
        exact ⟨q1, ⟨fun z => absurd z (by decide), fun z => absurd z hne⟩, fun _ => q5.2.1, fun _ => q5.2.1, ⟨Int.le_refl _, q5.2⟩, q6, Or.inr (Or.inl rfl)⟩
      · rw [u2_o e, u2_o e, u2_o e, u2_o e, u2_o e, u2_o e, u2_o e, u2_o e, u2_o e, u2_o e, u2_o e, u2_o e]; exact g2 u hu
    · rw [u2_ne1 (by decide), u2_ne1 (by decide), u2_ne1 (by decide), u2_ne1 (by decide)]; exact g4
    · rw [u2_ne1 (by decide), u2_ne1 (by decide)]; exact g5
theorem Iv.out (h : Iv na nt K v r E S M so) : ∀ n, n ≤ na → Iv na nt K (C_outL na nt v r n).1 (C_outL na nt v r n).2 E S M so
  | 0, _ => h
  | n + 1, hn => by
    have ih := h.out n (by omega)
    rw [C_outL_s, C_outLB]
    generalize (C_outL na nt v r n).1 = x at ih ⊢
    generalize (C_outL na nt v r n).2 = y at ih ⊢
    by_cases e : y 15 n = none
    · rw [if_pos e]
      split
      · split
        · exact ih
        · rename_i hx
          obtain ⟨f1, f2, f3⟩ := first_of nt _ (gd_some hx)
          exact ih.give f1 (by omega) f2 e f3
      · exact ih
    · rw [if_neg e]; exact ih
end INV
end
section
/-! a minute passes; hours of service -/
section TIME
variable {na nt : Nat} {K v : S2} {r : R2} {E S M : Int} {so : Int32}
def modN (o c m a b : Nat) : Nat := if m / 1440 % 7 < 5 then min (m + c) b - max a (m + o) else 0
def FN (o c d : Nat) : Nat := (d / 7 * 5 + min (d % 7) 5) * (c - o)
def AN (o c x : Nat) : Nat := FN o c (x / 1440) + (if x / 1440 % 7 < 5 then min (x % 1440) c - o else 0)
theorem AN_part {o c : Nat} (hc : c ≤ 1440) (d y : Nat) (hy : y ≤ 1440) : AN o c (1440 * d + y) = FN o c d + (if d % 7 < 5 then min y c - o else 0) := by
  unfold AN
  by_cases h : y = 1440
  · subst h
    have e1 : (1440 * d + 1440) / 1440 = d + 1 := by omega
    have e2 : (1440 * d + 1440) % 1440 = 0 := by omega
    rw [e1, e2]
    have e3 : (d + 1) / 7 * 5 + min ((d + 1) % 7) 5 = d / 7 * 5 + min (d % 7) 5 + (if d % 7 < 5 then 1 else 0) := by split <;> omega
    have e4 : FN o c (d + 1) = FN o c d + (if d % 7 < 5 then 1 else 0) * (c - o) := by
      unfold FN
      rw [e3, Nat.add_mul]
    rw [e4]
    have e5 : (if (d + 1) % 7 < 5 then min 0 c - o else 0) = 0 := by split <;> omega
    rw [e5]
    by_cases q : d % 7 < 5
    · rw [if_pos q, if_pos q, Nat.one_mul]; omega
    · rw [if_neg q, if_neg q, Nat.zero_mul]
  · have e1 : (1440 * d + y) / 1440 = d := by omega
    have e2 : (1440 * d + y) % 1440 = y := by omega
    rw [e1, e2]
theorem AN_step {o c m a b : Nat} (hoc : o < c) (hc : c ≤ 1440) (hm : m % 1440 = 0) (ha : a < m + 1440) (hab : a ≤ b) (hmb : m < b) : modN o c m a b + AN o c (max a (min b m)) = AN o c (max a (min b (m + 1440))) := by
  obtain ⟨d, rfl⟩ : ∃ d, m = 1440 * d := ⟨m / 1440, by omega⟩
  have e1 : max a (min b (1440 * d)) = 1440 * d + (max a (1440 * d) - 1440 * d) := by omega
  have e2 : max a (min b (1440 * d + 1440)) = 1440 * d + (min b (1440 * d + 1440) - 1440 * d) := by omega
  rw [e1, e2, AN_part hc _ _ (by omega), AN_part hc _ _ (by omega)]
  unfold modN
  rw [show 1440 * d / 1440 = d by omega]
  by_cases q : d % 7 < 5
  · rw [if_pos q, if_pos q, if_pos q]; omega
  · rw [if_neg q, if_neg q, if_neg q]; omega
theorem max0 {x y : Nat} (hx : x < 2 ^ 30) (hy : y < 2 ^ 30) : (if (0 : Int32) < nI x - nI y then nI x - nI y else 0) = nI (x - y) := by
  by_cases h : y ≤ x
  · rw [nI_sub h]
    by_cases e : x - y = 0
    · rw [e, if_neg (by decide)]; rfl
    · rw [if_pos (show (0 : Int32) < nI (x - y) from nI_lt (a := 0) (by omega) (by omega))]
  · have e : nI x - nI y = -(nI (y - x)) := by
      rw [← nI_sub (show x ≤ y by omega), Int32.neg_sub]
    have ei : (nI x - nI y).toInt = (x : Int) - y := by
      rw [Int32.toInt_sub, nI_toInt (by omega), nI_toInt (by omega)]
      exact Int.bmod_eq_of_le (by omega) (by omega)
    rw [if_neg (by rw [Int32.lt_iff_toInt_lt, ei, show (0 : Int32).toInt = 0 from by decide]; omega), show x - y = 0 by omega]
    rfl
theorem minI {x y : Nat} (hx : x < 2 ^ 30) (hy : y < 2 ^ 30) : (if nI x < nI y then nI x else nI y) = nI (min x y) := by
  by_cases h : x < y
  · rw [if_pos (nI_lt h (by omega)), Nat.min_eq_left (by omega)]
  · rw [if_neg (nI_nlt (by omega) (by omega)), Nat.min_eq_right (by omega)]
theorem maxI {x y : Nat} (hx : x < 2 ^ 30) (hy : y < 2 ^ 30) : (if nI x < nI y then nI y else nI x) = nI (max x y) := by
  by_cases h : x < y
  · rw [if_pos (nI_lt h (by omega)), Nat.max_eq_right (by omega)]
  · rw [if_neg (nI_nlt (by omega) (by omega)), Nat.max_eq_left (by omega)]
theorem dow_eq {x : Int32} {n : Nat} (h : vp_in x n) : C_dayOfWeek x = nI (ix x / 1440 % 7) := by
  have hl : ix x < 2 ^ 31 := by
    obtain ⟨j, hj, e⟩ := nI_of (x := x) (fun z => h (Or.inl z))
    rw [e, ix_nI hj]; exact hj
  have e := in_nI h
  have e2 : x / 1440 = nI (ix x / 1440) := by
    conv => lhs; rw [e]
    exact nI_div hl (by decide) (by decide)
  have hd : ix x / 1440 < 2 ^ 31 := Nat.lt_of_le_of_lt (Nat.div_le_self _ _) hl
  unfold C_dayOfWeek
  rw [e2, show nI (ix x / 1440) / 7 = nI (ix x / 1440 / 7) from nI_div hd (by decide) (by decide), show nI (ix x / 1440 / 7) * 7 = nI (ix x / 1440 / 7 * 7) from nI_mul _ 7, nI_sub (Nat.div_mul_le_self _ _)]
  congr 1
  omega
theorem dowN {m : Nat} (hm : m < 200000) : C_dayOfWeek (nI m) = nI (m / 1440 % 7) := by
  rw [dow_eq (show vp_in (nI m) 200000 from vp_in_nI hm (by decide)), ix_nI (by omega)]
theorem modI {o c m a b : Nat} (hv1 : v 0 1 = nI o) (hv2 : v 0 2 = nI c) (hc : c ≤ 1440) (ho : o ≤ 1440) (hm : m < 200000) (ha : a < 200000) (hb : b < 200000) : C_H_minutesOfDay na nt v r (nI m) (nI a) (nI b) = nI (modN o c m a b) := by
  unfold C_H_minutesOfDay modN
  rw [dowN hm, hv1, hv2, nI_add, nI_add, minI (by omega) (by omega), maxI (by omega) (by omega), max0 (by omega) (by omega)]
  by_cases q : m / 1440 % 7 < 5
  · rw [if_pos (show nI (m / 1440 % 7) < 5 from nI_lt (b := 5) q (by decide)), if_pos q]
  · rw [if_neg (show ¬ nI (m / 1440 % 7) < 5 from nI_nlt (b := 5) (by omega) (by omega)), if_neg q]; rfl
theorem mbL_eq {o c a b : Nat} (hv1 : v 0 1 = nI o) (hv2 : v 0 2 = nI c) (hoc : o < c) (hc : c ≤ 1440) (hab : a ≤ b) (hb : b ≤ 99999) : ∀ (f m acc : Nat), 100800 ≤ m + f * 1440 → m ≤ 102240 → m % 1440 = 0 → a < m + 1440 → ∃ z, C_mbL na nt v r (nI a) (nI b) f m (nI acc) = nI z ∧ z + AN o c (max a (min b m)) = acc + AN o c b
  | 0, m, acc, h1, h2, h3, h4 => ⟨acc, rfl, by rw [show max a (min b m) = b by omega]⟩
  | f + 1, m, acc, h1, h2, h3, h4 => by
    rw [C_mbL]
    by_cases q : b ≤ m
    · rw [if_pos (nI_le q (by omega))]
      exact ⟨acc, rfl, by rw [show max a (min b m) = b by omega]⟩
    · rw [if_neg (nI_ge (by omega) (by omega)), modI hv1 hv2 hc (by omega) (by omega) (by omega) (by omega), nI_add]
      obtain ⟨z, e1, e2⟩ := mbL_eq hv1 hv2 hoc hc hab hb f (m + 1440) (acc + modN o c m a b) (by omega) (by omega) (by omega) (by omega)
      refine ⟨z, e1, ?_⟩
      have := AN_step hoc hc h3 h4 hab (show m < b by omega)
      omega
theorem AN_small {o c m : Nat} (hm : m < 1440) : AN o c m = min m c - o := by
  unfold AN FN
  rw [show m / 1440 = 0 by omega, show m % 1440 = m by omega]
  simp
theorem serviceE {o c m : Nat} (hv1 : v 0 1 = nI o) (hv2 : v 0 2 = nI c) (hoc : o < c) (hc : c ≤ 1440) (hm : m < 1440) : C_service na nt v r 0 (nI m) = (0, nI (AN o c m), v, r) := by
  obtain ⟨z, z1, z2⟩ := mbL_eq (na := na) (nt := nt) (v := v) (r := r) (a := 0) (b := m) hv1 hv2 hoc hc (by omega) (by omega) 70 0 0 (by omega) (by omega) (by omega) (by omega)
  rw [show max 0 (min m 0) = 0 by omega, AN_small (m := 0) (by omega)] at z2
  unfold C_service
  rw [if_neg (by decide), if_neg (show ¬ nI m < 0 from nI_nlt (a := m) (b := 0) (by omega) (by omega)), if_pos (show nI m ≤ 99999 from nI_le (b := 99999) (by omega) (by decide))]
  have e : C_H_minutesBetween na nt v r 0 (nI m) = nI z := z1
  rw [e, show z = AN o c m by omega]
theorem servE {o c m : Nat} (hv1 : v 0 1 = nI o) (hv2 : v 0 2 = nI c) (hc : c ≤ 1440) (ho : o ≤ 1440) (hm : m < 1440) : C_H_isService na nt v r (nI m) = true ↔ o ≤ m ∧ m < c := by
  have e1 : nI m / 1440 = nI 0 := by rw [show nI m / 1440 = nI (m / 1440) from nI_div (by omega) (by decide) (by decide), show m / 1440 = 0 by omega]
  have e2 : nI m - nI m / 1440 * 1440 = nI m := by
    rw [e1, show nI 0 * 1440 = nI 0 from by decide]
    exact nI_sub (Nat.zero_le _)
  unfold C_H_isService
  rw [dowN (by omega), show m / 1440 % 7 = 0 by omega, if_neg (by decide), e2, hv1, hv2]
  by_cases h1 : m < o
  · rw [if_pos (nI_lt h1 (by omega))]
    exact ⟨fun z => (by cases z), fun z => (by omega)⟩
  · rw [if_neg (nI_nlt (by omega) (by omega))]
    by_cases h2 : c ≤ m
    · rw [if_pos (nI_le h2 (by omega))]
      exact ⟨fun z => (by cases z), fun z => (by omega)⟩
    · rw [if_neg (nI_ge (by omega) (by omega))]
      exact ⟨fun _ => ⟨by omega, by omega⟩, fun _ => rfl⟩
theorem lt_step {x y : Int32} (h : x.toInt < y.toInt) : (x + 1).toInt = x.toInt + 1 := by
  have h1 := Int32.minValue_le_toInt x
  have h2 := Int32.toInt_le y
  have e1 : Int32.minValue.toInt = -2147483648 := by decide
  have e2 : Int32.maxValue.toInt = 2147483647 := by decide
  rw [Int32.toInt_add, show (1 : Int32).toInt = 1 from by decide]
  exact Int.bmod_eq_of_le (by omega) (by omega)
theorem toI_add {x y : Int32} (h1 : -2147483648 ≤ x.toInt + y.toInt) (h2 : x.toInt + y.toInt < 2147483648) : (x + y).toInt = x.toInt + y.toInt := by
  rw [Int32.toInt_add]
  exact Int.bmod_eq_of_le (by omega) (by omega)
theorem ageL_at : ∀ (n a b : Nat), C_ageL na nt v r n a b = if a = 25 ∧ b < n ∧ (v 24 b = 0 ∨ v 24 b = 1) then v 25 b + 1 else v a b
  | 0, a, b => by rw [if_neg (by omega)]; rfl
  | n + 1, a, b => by
    have ih := ageL_at n
    have e24 : C_ageL na nt v r n 24 n = v 24 n := by rw [ih, if_neg (by omega)]
    have e25 : C_ageL na nt v r n 25 n = v 25 n := by rw [ih, if_neg (by omega)]
    have hit : (v 24 n = 0 ∨ v 24 n = 1) → u2 (C_ageL na nt v r n) 25 n (C_ageL na nt v r n 25 n + 1) a b = if a = 25 ∧ b < n + 1 ∧ (v 24 b = 0 ∨ v 24 b = 1) then v 25 b + 1 else v a b := fun q => by
      rw [u2_at, e25]
      by_cases e : a = 25 ∧ b = n
      · rw [if_pos e, e.2, if_pos ⟨e.1, Nat.lt_succ_self n, q⟩]
      · rw [if_neg e, ih]
        by_cases e2 : a = 25 ∧ b < n ∧ (v 24 b = 0 ∨ v 24 b = 1)
        · rw [if_pos e2, if_pos ⟨e2.1, by omega, e2.2.2⟩]
        · rw [if_neg e2, if_neg (fun z => e2 ⟨z.1, by omega, z.2.2⟩)]
    rw [C_ageL_s, C_ageLB, e24]
    by_cases h0 : v 24 n = 0
    · rw [if_pos h0]; exact hit (Or.inl h0)
    · rw [if_neg h0]
      by_cases h1 : v 24 n = 1
      · rw [if_pos h1]; exact hit (Or.inr h1)
      · rw [if_neg h1, ih]
        by_cases e2 : a = 25 ∧ b < n ∧ (v 24 b = 0 ∨ v 24 b = 1)
        · rw [if_pos e2, if_pos ⟨e2.1, by omega, e2.2.2⟩]
        · rw [if_neg e2, if_neg (fun z => by
            by_cases e3 : b = n
            · rw [e3] at z; exact z.2.2.elim h0 h1
            · exact e2 ⟨z.1, by omega, z.2.2⟩)]
theorem ageL_ne {n j : Nat} (hj : ¬ j = 25) : C_ageL na nt v r n j = v j := funext fun b => by rw [ageL_at, if_neg (fun z => hj z.1)]
theorem Iv.age (h : Iv na nt K v r E S M so) (hS : S < 2 ^ 30) (n : Nat) : Iv na nt K (C_ageL na nt v r n) r E (S + 1) M so := by
  obtain ⟨g1, g2, g3, g4, g5⟩ := h
  refine ⟨by rw [ageL_ne (by decide)]; exact g1, fun u hu => ?_, ?_, by rw [ageL_ne (by decide), ageL_ne (by decide)]; exact g4, by rw [ageL_ne (by decide)]; exact g5⟩
  · rw [ageL_ne (j := 24) (by decide), ageL_ne (j := 26) (by decide), ageL_ne (j := 23) (by decide), ageL_ne (j := 27) (by decide), ageL_ne (j := 30) (by decide), ageL_at]
    obtain ⟨q1, q2, q3, q4, q5, q6, q7⟩ := g2 u hu
    split
    · have e : (v 25 u + 1).toInt = (v 25 u).toInt + 1 := toI_add (by rw [show (1 : Int32).toInt = 1 from by decide]; omega) (by rw [show (1 : Int32).toInt = 1 from by decide]; omega)
      exact ⟨q1, q2, q3, q4, by rw [e]; omega, q6, q7⟩
    · exact ⟨q1, q2, q3, q4, by omega, q6, q7⟩
  · exact ⟨(ageL_ne (by decide)).trans g3.1, (ageL_ne (by decide)).trans g3.2.1, (ageL_ne (by decide)).trans g3.2.2.1, (ageL_ne (by decide)).trans g3.2.2.2.1, (ageL_ne (by decide)).trans g3.2.2.2.2⟩
/-- an agent works for a minute -/
theorem Iv.work1 (h : Iv na nt K v r E S M so) {a k : Nat} (ha : a < na) (hk : r 15 a = some k) {m : Nat} (hK0 : K 0 0 = nI m) (hm : m < 2 ^ 30) (hM : (m : Int) + 1 ≤ M) :
    (¬ u2 (u2 v 16 a (v 16 a + 1)) 26 k (v 26 k + 1) 26 k = v 23 k → Iv na nt K (u2 (u2 v 16 a (v 16 a + 1)) 26 k (v 26 k + 1)) r E S M so) ∧
    (u2 (u2 v 16 a (v 16 a + 1)) 26 k (v 26 k + 1) 26 k = v 23 k → Iv na nt K (C_solve na nt (u2 (u2 v 16 a (v 16 a + 1)) 26 k (v 26 k + 1)) r k a).1 (C_solve na nt (u2 (u2 v 16 a (v 16 a + 1)) 26 k (v 26 k + 1)) r k a).2 E S M (so + 1)) := by
  obtain ⟨g1, g2, g3, g4, g5⟩ := h
  obtain ⟨hkt, h32, _⟩ := g1.1 a ha k hk
  have h24 : v 24 k = 1 := (g1.2.2 k hkt).mpr (by rw [h32]; intro z; cases z)
  obtain ⟨q1, q2, q3, q4, q5, q6, q7⟩ := g2 k hkt
  have hne : ¬ v 26 k = v 23 k := fun z => by
    have := q2.mpr z
    rw [h24] at this
    exact absurd this (by decide)
  have hlt : (v 26 k).toInt < (v 23 k).toInt := by
    rcases Int.lt_or_eq_of_le q1.2.1 with z | z
    · exact z
    · exact absurd (Int32.toInt_inj.mp z) hne
  have hst := lt_step hlt
  have hx : ∀ (j u : Nat), ¬ j = 16 → ¬ j = 26 → u2 (u2 v 16 a (v 16 a + 1)) 26 k (v 26 k + 1) j u = v j u := fun j u h1 h2 => by rw [u2_ne1 h2, u2_ne1 h1]
  have hxr : ∀ j : Nat, ¬ j = 16 → ¬ j = 26 → u2 (u2 v 16 a (v 16 a + 1)) 26 k (v 26 k + 1) j = v j := fun j h1 h2 => by rw [u2_ne1 h2, u2_ne1 h1]
  have hx26 : u2 (u2 v 16 a (v 16 a + 1)) 26 k (v 26 k + 1) 26 k = v 26 k + 1 := u2_same _ _ _ _
  have hx26o : ∀ u, u ≠ k → u2 (u2 v 16 a (v 16 a + 1)) 26 k (v 26 k + 1) 26 u = v 26 u := fun u hu => by rw [u2_o hu, u2_ne1 (by decide)]
  have hs16 : sumI (u2 (u2 v 16 a (v 16 a + 1)) 26 k (v 26 k + 1) 16) na = sumI (v 16) na + 1 := by
    rw [sumI_up (f := v 16) (i := a) (x := 1) (by rw [u2_ne1 (by decide), u2_same]) (fun j hj => by rw [u2_ne1 (by decide), u2_o hj]) na, if_pos ha]
  have hs26 : sumI (u2 (u2 v 16 a (v 16 a + 1)) 26 k (v 26 k + 1) 26) nt = sumI (v 26) nt + 1 := by
    rw [sumI_up (f := v 26) (i := k) (x := 1) hx26 hx26o nt, if_pos hkt]
  have hsum : sumI (u2 (u2 v 16 a (v 16 a + 1)) 26 k (v 26 k + 1) 16) na = sumI (u2 (u2 v 16 a (v 16 a + 1)) 26 k (v 26 k + 1) 26) nt := by rw [hs16, hs26, g4]
  rw [hx26]
  generalize u2 (u2 v 16 a (v 16 a + 1)) 26 k (v 26 k + 1) = x at hx hxr hx26 hx26o hsum ⊢
  have hkp : Kp K x := ⟨(hxr 0 (by decide) (by decide)).trans g3.1, (hxr 10 (by decide) (by decide)).trans g3.2.1, (hxr 14 (by decide) (by decide)).trans g3.2.2.1, (hxr 20 (by decide) (by decide)).trans g3.2.2.2.1, (hxr 21 (by decide) (by decide)).trans g3.2.2.2.2⟩
  constructor
  · intro hn
    refine ⟨by rw [hxr 24 (by decide) (by decide)]; exact g1, fun u hu => ?_, hkp, hsum, by rw [hxr 17 (by decide) (by decide)]; exact g5⟩
    rw [hx 24 u (by decide) (by decide), hx 23 u (by decide) (by decide), hx 27 u (by decide) (by decide), hx 25 u (by decide) (by decide), hx 30 u (by decide) (by decide)]
    by_cases e : u = k
    · rw [e, hx26]
      refine ⟨⟨by omega, by omega, q1.2.2⟩, ⟨fun z => ?_, fun z => absurd z hn⟩, fun _ => q4 h24, q4, q5, q6, q7⟩
      rw [h24] at z
      exact absurd z (by decide)
    · rw [hx26o u e]
      exact g2 u hu
  · intro he
    have e00 : x 0 0 = nI m := by rw [hxr 0 (by decide) (by decide), g3.1, hK0]
    unfold C_solve
    dsimp only
    rw [take_v]
    have g1' : Lk na nt K (x 24) r := by rw [hxr 24 (by decide) (by decide)]; exact g1
    refine ⟨g1'.leave hkt (by rw [u2_ne1 (by decide), u2_ne1 (by decide), u2_same]; decide) (fun u hu => by rw [u2_ne1 (by decide), u2_ne1 (by decide), u2_o hu]), fun u hu => ?_, ?_, ?_, ?_⟩
    · by_cases e : u = k
      · rw [e]
        simp only [u2_at]
        simp
        rw [hx26, hx 23 k (by decide) (by decide), hx 27 k (by decide) (by decide), hx 25 k (by decide) (by decide), e00]
        have em : (nI m + 1).toInt = (m : Int) + 1 := by
          rw [show nI m + 1 = nI (m + 1) from nI_add m 1, nI_toInt (by omega)]
          omega
        exact ⟨⟨by omega, by omega, q1.2.2⟩, ⟨fun _ => he, fun _ => rfl⟩, fun _ => q4 h24, fun z => absurd z (by decide), q5, ⟨by omega, by omega⟩, Or.inr (Or.inr (Or.inr (Or.inl rfl)))⟩
      · have eo : ∀ j, ¬ j = 17 → u2 (u2 (u2 x 24 k 3) 30 k (x 0 0 + 1)) 17 a (u2 (u2 x 24 k 3) 30 k (x 0 0 + 1) 17 a + 1) j u = x j u := fun j hj => by rw [u2_ne1 hj, u2_o e, u2_o e]
        rw [u2_ne1 (j := 17) (by decide), u2_ne1 (j := 17) (by decide), u2_ne1 (j := 17) (by decide), u2_ne1 (j := 17) (by decide), u2_ne1 (j := 17) (by decide), u2_ne1 (j := 17) (by decide), u2_o e, u2_o e, u2_o e, u2_o e, u2_o e, u2_o e, u2_o e, u2_o e, u2_o e, u2_o e, u2_o e, u2_o e]
        rw [hx 24 u (by decide) (by decide), hx 23 u (by decide) (by decide), hx 27 u (by decide) (by decide), hx 25 u (by decide) (by decide), hx 30 u (by decide) (by decide), hx26o u e]
        exact g2 u hu
    · exact ⟨by rw [u2_ne1 (by decide), u2_ne1 (by decide), u2_ne1 (by decide)]; exact hkp.1, by rw [u2_ne1 (by decide), u2_ne1 (by decide), u2_ne1 (by decide)]; exact hkp.2.1, by rw [u2_ne1 (by decide), u2_ne1 (by decide), u2_ne1 (by decide)]; exact hkp.2.2.1, by rw [u2_ne1 (by decide), u2_ne1 (by decide), u2_ne1 (by decide)]; exact hkp.2.2.2.1, by rw [u2_ne1 (by decide), u2_ne1 (by decide), u2_ne1 (by decide)]; exact hkp.2.2.2.2⟩
    · rw [u2_ne1 (by decide), u2_ne1 (by decide), u2_ne1 (by decide), u2_ne1 (by decide), u2_ne1 (by decide), u2_ne1 (by decide)]; exact hsum
    · rw [sumI_up (f := x 17) (i := a) (x := 1) (by rw [u2_same]) (fun j hj => by rw [u2_o hj, u2_ne1 (by decide), u2_ne1 (by decide)]) na, if_pos ha, hxr 17 (by decide) (by decide), g5]
theorem Iv.work (h : Iv na nt K v r E S M so) {m : Nat} (hK0 : K 0 0 = nI m) (hm : m < 2 ^ 30) (hM : (m : Int) + 1 ≤ M) : ∀ n, n ≤ na → Iv na nt K (C_workL na nt v r n).2.1 (C_workL na nt v r n).2.2 E S M (so + (C_workL na nt v r n).1)
  | 0, _ => by
    show Iv na nt K v r E S M (so + 0)
    rw [Int32.add_zero]
    exact h
  | n + 1, hn => by
    have ih := h.work hK0 hm hM n (by omega)
    rw [C_workL_s, C_workLB]
    generalize (C_workL na nt v r n).1 = s at ih ⊢
    generalize (C_workL na nt v r n).2.1 = x at ih ⊢
    generalize (C_workL na nt v r n).2.2 = y at ih ⊢
    by_cases e : y 15 n = none
    · rw [if_pos e]; exact ih
    · rw [if_neg e]
      obtain ⟨w1, w2⟩ := ih.work1 (by omega) (gd_some e) hK0 hm hM
      split
      · rename_i c
        have := w2 c
        rw [Int32.add_assoc] at this
        exact this
      · rename_i c
        exact w1 c
theorem u2_id {s : S2} {j i : Nat} {x : Int32} (h : s j i = x) : u2 s j i x = s := funext fun a => funext fun b => by
  rw [u2_at]
  split
  · rename_i e
    rw [e.1, e.2, h]
  · rfl
theorem u2_u2 {s : S2} {j i : Nat} {x y : Int32} : u2 (u2 s j i x) j i y = u2 s j i y := funext fun a => funext fun b => by
  rw [u2_at, u2_at, u2_at]
  split
  · rfl
  · rfl
theorem Iv.tick (h : Iv na nt K v r E S M so) (x : Int32) : Iv na nt (u2 K 0 0 x) (u2 v 0 0 x) r E S M so := by
  obtain ⟨g1, g2, g3, g4, g5⟩ := h
  refine ⟨?_, ?_, ?_, ?_, ?_⟩
  · rw [u2_ne1 (by decide)]
    unfold Lk
    rw [u2_ne1 (by decide), u2_ne1 (by decide)]
    exact g1
  · intro t ht
    rw [u2_ne1 (by decide), u2_ne1 (by decide), u2_ne1 (by decide), u2_ne1 (by decide), u2_ne1 (by decide), u2_ne1 (by decide)]
    exact g2 t ht
  · exact ⟨by rw [u2_row, u2_row, g3.1], by rw [u2_ne1 (by decide), u2_ne1 (by decide)]; exact g3.2.1, by rw [u2_ne1 (by decide), u2_ne1 (by decide)]; exact g3.2.2.1, by rw [u2_ne1 (by decide), u2_ne1 (by decide)]; exact g3.2.2.2.1, by rw [u2_ne1 (by decide), u2_ne1 (by decide)]; exact g3.2.2.2.2⟩
  · rw [u2_ne1 (by decide), u2_ne1 (by decide)]; exact g4
  · rw [u2_ne1 (by decide)]; exact g5
theorem Iv.minute {o c m : Nat} (hoc : o < c) (hc : c ≤ 1440) (hm : m + 1 < 1440) (h1 : K 0 1 = nI o) (h2 : K 0 2 = nI c) (h0 : K 0 0 = nI m) (h : Iv na nt K v r E (AN o c m : Int) (m : Int) so) : Iv na nt (u2 K 0 0 (nI (m + 1))) (C_passMinute na nt v r).2.1 (C_passMinute na nt v r).2.2 E (AN o c (m + 1) : Int) ((m + 1 : Nat) : Int) (so + (C_passMinute na nt v r).1) := by
  have a1 := AN_small (o := o) (c := c) (m := m) (by omega)
  have a2 := AN_small (o := o) (c := c) (m := m + 1) hm
  have hH := h.home na (Nat.le_refl _)
  have eH : C_sendHomeAgents na nt v r = ((C_homeL na nt v r na).1, (C_homeL na nt v r na).2) := rfl
  unfold C_passMinute
  rw [eH]
  generalize (C_homeL na nt v r na).1 = x1 at hH ⊢
  generalize (C_homeL na nt v r na).2 = y1 at hH ⊢
  have hO := hH.out na (Nat.le_refl _)
  have eO : C_giveOutTickets na nt x1 y1 = ((C_outL na nt x1 y1 na).1, (C_outL na nt x1 y1 na).2) := rfl
  try dsimp only
  rw [eO]
  generalize (C_outL na nt x1 y1 na).1 = x2 at hO ⊢
  generalize (C_outL na nt x1 y1 na).2 = y2 at hO ⊢
  try dsimp only
  have f := hO.2.2.1.1
  have z0 : x2 0 0 = nI m := by rw [f, h0]
  have z1 : x2 0 1 = nI o := by rw [f, h1]
  have z2 : x2 0 2 = nI c := by rw [f, h2]
  have sv := servE (na := na) (nt := nt) (r := y2) z1 z2 hc (by omega) (show m < 1440 by omega)
  rw [z0]
  have fin : ∀ {x3 : S2}, Iv na nt K x3 y2 E (AN o c (m + 1) : Int) ((m + 1 : Nat) : Int) so → Iv na nt (u2 K 0 0 (nI (m + 1))) (u2 (C_work na nt x3 y2).2.1 0 0 ((C_work na nt x3 y2).2.1 0 0 + 1)) (C_work na nt x3 y2).2.2 E (AN o c (m + 1) : Int) ((m + 1 : Nat) : Int) (so + (C_work na nt x3 y2).1) := fun {x3} h3 => by
    have w := h3.work h0 (by omega) (by omega) na (Nat.le_refl _)
    have e : (C_work na nt x3 y2).2.1 0 0 + 1 = nI (m + 1) := by
      show (C_workL na nt x3 y2 na).2.1 0 0 + 1 = _
      rw [w.2.2.1.1, h0]
      exact nI_add m 1
    rw [e]
    exact Iv.tick w _
  by_cases q : C_H_isService na nt x2 y2 (nI m) = true
  · rw [if_pos q]
    obtain ⟨s1, s2⟩ := sv.mp q
    refine fin ?_
    have := (hO.age (by omega) nt).mono (Int.le_refl E) (S' := (AN o c (m + 1) : Int)) (M' := ((m + 1 : Nat) : Int)) (by omega) (by omega)
    exact this
  · rw [if_neg q]
    refine fin (hO.mono (Int.le_refl E) ?_ (by omega))
    omega
theorem Iv.passL {o c m : Nat} (hoc : o < c) (hc : c ≤ 1440) (h1 : K 0 1 = nI o) (h2 : K 0 2 = nI c) (h0 : K 0 0 = nI m) (h : Iv na nt K v r E (AN o c m : Int) (m : Int) so) : ∀ n, m + n < 1440 → Iv na nt (u2 K 0 0 (nI (m + n))) (C_passL na nt v r n).2.1 (C_passL na nt v r n).2.2 E (AN o c (m + n) : Int) ((m + n : Nat) : Int) (so + (C_passL na nt v r n).1)
  | 0, _ => by
    show Iv na nt (u2 K 0 0 (nI m)) v r E (AN o c m : Int) (m : Int) (so + 0)
    rw [u2_id h0, Int32.add_zero]
    exact h
  | n + 1, hn => by
    have ih := h.passL hoc hc h1 h2 h0 n (by omega)
    rw [C_passL_s, C_passLB]
    generalize (C_passL na nt v r n).1 = s at ih ⊢
    generalize (C_passL na nt v r n).2.1 = x at ih ⊢
    generalize (C_passL na nt v r n).2.2 = y at ih ⊢
    have w := ih.minute hoc hc (by omega) (by rw [u2_ne (by omega)]; exact h1) (by rw [u2_ne (by omega)]; exact h2) (u2_same _ _ _ _)
    rw [u2_u2, Int32.add_assoc] at w
    exact w
end TIME
end
section
/-! the calls that the law makes, one by one: what they do where the law makes them -/
section CALLS
variable {na nt : Nat} {K v : S2} {r : R2} {E S M : Int} {so : Int32} {G : CG}
theorem Kp.up (h : Kp K v) {j i : Nat} {x : Int32} (hj : (j != 0 && j != 10 && j != 14 && j != 20 && j != 21) = true) : Kp K (u2 v j i x) := by
  simp only [Bool.and_eq_true, bne_iff_ne] at hj
  obtain ⟨⟨⟨⟨a, b⟩, c⟩, d⟩, e⟩ := hj
  exact ⟨(u2_ne1 (fun z => a z.symm)).trans h.1, (u2_ne1 (fun z => b z.symm)).trans h.2.1, (u2_ne1 (fun z => c z.symm)).trans h.2.2.1, (u2_ne1 (fun z => d z.symm)).trans h.2.2.2.1, (u2_ne1 (fun z => e z.symm)).trans h.2.2.2.2⟩
theorem TkN.st {st st' dn ef an ag sa : Int32} (h : TkN E S M st dn ef an ag sa) (h3 : ¬ st = 3) (h' : st' = 0 ∨ st' = 2 ∨ st' = 4) : TkN E S M st' dn ef an ag sa := by
  obtain ⟨q1, q2, q3, q4, q5, q6, q7⟩ := h
  have e3 : ¬ st' = 3 := by rcases h' with e | e | e <;> rw [e] <;> decide
  have e1 : ¬ st' = 1 := by rcases h' with e | e | e <;> rw [e] <;> decide
  exact ⟨q1, ⟨fun z => absurd z e3, fun z => absurd (q2.mpr z) h3⟩, q3, fun z => absurd z e1, q5, q6, by rcases h' with e | e | e <;> rw [e] <;> simp⟩
theorem CI_take' {t : Nat} (h : CI G v r) : CI G v (C_takeFromHolder na nt v r t).2 := by
  have := CI_take (na := na) (nt := nt) (t := t) h
  rw [take_v] at this
  exact this
theorem pauseE {t : Nat} (ht : t < nt) (hn : nt ≤ 20) (h : v 24 t = 0 ∨ v 24 t = 1) : ∃ z, C_pause na nt v r (nI t) = (0, z, u2 (u2 v 24 t 2) 29 t (v 0 0), (C_takeFromHolder na nt v r t).2) := by
  have hi : inR (nI t) nt = true := inR_iff.mpr (vp_in_nI ht (by omega))
  unfold C_pause
  rw [if_pos hi, ix_nI (by omega), take_v]
  rcases h with h | h
  · rw [if_pos h]; exact ⟨_, rfl⟩
  · rw [if_neg (by rw [h]; decide), if_pos h]; exact ⟨_, rfl⟩
theorem Iv.pause (h : Iv na nt K v r E S M so) {t : Nat} (ht : t < nt) (h01 : v 24 t = 0 ∨ v 24 t = 1) (y : Int32) : Iv na nt K (u2 (u2 v 24 t 2) 29 t y) (C_takeFromHolder na nt v r t).2 E S M so := by
  refine h.leave ht (fun u hu j => by rw [u2_o hu, u2_o hu]) ((h.2.2.1.up rfl).up rfl) (by rw [u2_ne1 (by decide), u2_ne1 (by decide)]) (by rw [u2_ne1 (by decide), u2_ne1 (by decide)]) (by rw [u2_ne1 (by decide), u2_ne1 (by decide)]) (by rw [u2_ne1 (by decide), u2_same]; decide) ?_
  have q := h.2.1 t ht
  simp only [u2_at]
  simp
  exact q.st (by rcases h01 with e | e <;> rw [e] <;> decide) (Or.inr (Or.inl rfl))
theorem resumeE {t : Nat} (ht : t < nt) (hn : nt ≤ 20) (h : v 24 t = 2) : ∃ z, C_resume na nt v r (nI t) = (0, z, u2 v 24 t 0, r) := by
  have hi : inR (nI t) nt = true := inR_iff.mpr (vp_in_nI ht (by omega))
  unfold C_resume
  rw [if_pos hi, ix_nI (by omega), if_pos h]
  exact ⟨_, rfl⟩
theorem Iv.resume (h : Iv na nt K v r E S M so) {t : Nat} (ht : t < nt) (h2 : v 24 t = 2) : Iv na nt K (u2 v 24 t 0) r E S M so := by
  refine h.stay ht (Int.le_refl E) (fun u hu j => u2_o hu j) (h.2.2.1.up rfl) (u2_ne1 (by decide)) (u2_ne1 (by decide)) (by rw [u2_ne1 (by decide)]) (by rw [u2_same, h2]; decide) ?_
  have q := h.2.1 t ht
  simp only [u2_at]
  simp
  exact q.st (by rw [h2]; decide) (Or.inl rfl)
theorem reopenE {t m : Nat} {p : Int32} (ht : t < nt) (hn : nt ≤ 20) (h : v 24 t = 3) (hp1 : 1 ≤ p.toInt) (hp2 : p.toInt ≤ 20) (hm : v 0 0 = nI m) (hm2 : m < 1440) (hs1 : 0 ≤ (v 30 t).toInt) : ∃ z, C_reopen na nt v r (nI t) p = (0, z, u2 (u2 (u2 v 24 t 0) 23 t (v 23 t + p)) 28 t (v 28 t + 1), r) := by
  have hi : inR (nI t) nt = true := inR_iff.mpr (vp_in_nI ht (by omega))
  have e1 : (1 : Int32).toInt = 1 := by decide
  have e3 : (300 : Int32).toInt = 300 := by decide
  have e7 : (7200 : Int32).toInt = 7200 := by decide
  have hb := Int32.toInt_le (v 30 t)
  have e2 : Int32.maxValue.toInt = 2147483647 := by decide
  have es : (nI m - v 30 t).toInt = (m : Int) - (v 30 t).toInt := by
    rw [Int32.toInt_sub, nI_toInt (by omega)]
    exact Int.bmod_eq_of_le (by omega) (by omega)
  unfold C_reopen
  rw [if_pos hi, ix_nI (by omega), if_neg (by rw [Int32.lt_iff_toInt_lt]; omega), if_pos (by rw [Int32.le_iff_toInt_le]; omega), if_pos h, if_pos (by rw [hm, Int32.lt_iff_toInt_lt]; omega)]
  exact ⟨_, rfl⟩
theorem Iv.reopen (h : Iv na nt K v r E S M so) {t : Nat} {p : Int32} (ht : t < nt) (h3 : v 24 t = 3) (hp1 : 1 ≤ p.toInt) (hp2 : p.toInt ≤ 20) (hE : E < 2 ^ 30) (y : Int32) : Iv na nt K (u2 (u2 (u2 v 24 t 0) 23 t (v 23 t + p)) 28 t y) r (E + 20) S M so := by
  refine h.stay ht (by omega) (fun u hu j => by rw [u2_o hu, u2_o hu, u2_o hu]) (((h.2.2.1.up rfl).up rfl).up rfl) (by rw [u2_ne1 (by decide), u2_ne1 (by decide), u2_ne1 (by decide)]) (by rw [u2_ne1 (by decide), u2_ne1 (by decide), u2_ne1 (by decide)]) (by rw [u2_ne1 (by decide), u2_ne1 (by decide), u2_ne1 (by decide)]) (by rw [u2_ne1 (by decide), u2_ne1 (by decide), u2_same, h3]; decide) ?_
  obtain ⟨q1, q2, q3, q4, q5, q6, q7⟩ := h.2.1 t ht
  have e : (v 23 t + p).toInt = (v 23 t).toInt + p.toInt := toI_add (by omega) (by omega)
  have ed := q2.mp h3
  simp only [u2_at]
  simp
  refine ⟨⟨q1.1, by omega, by omega⟩, ⟨fun z => absurd z (by decide), fun z => ?_⟩, q3, fun z => absurd z (by decide), q5, q6, Or.inl rfl⟩
  rw [ed] at z
  have := congrArg Int32.toInt z
  omega
theorem Iv.r34 (h : Iv na nt K v r E S M so) {t : Nat} {x : Option Nat} : Iv na nt K v (u3 r 34 t x) E S M so := by
  obtain ⟨g1, g2, g3, g4, g5⟩ := h
  refine ⟨?_, g2, g3, g4, g5⟩
  unfold Lk
  rw [u3_ne1 (by decide), u3_ne1 (by decide)]
  exact g1
def mPr (v : S2) (t u : Nat) : Int32 := if v 22 t < v 22 u then v 22 t else v 22 u
def mAg (v : S2) (t u : Nat) : Int32 := if v 25 u < v 25 t then v 25 t else v 25 u
theorem mergeE {t u : Nat} (ht : t < nt) (hu : u < nt) (hn : nt ≤ 20) (hne : ¬ t = u) (h1 : v 24 t = 0 ∨ v 24 t = 1 ∨ v 24 t = 2) (h2 : v 24 u = 0 ∨ v 24 u = 1 ∨ v 24 u = 2) : ∃ z, C_merge na nt v r (nI t) (nI u) = (0, z, u2 (u2 (u2 (u2 v 24 t 4) 22 u (mPr v t u)) 25 u (mAg v t u)) 31 u (v 31 u ||| v 31 t), u3 (C_takeFromHolder na nt v r t).2 34 t (some u)) := by
  have hi : inR (nI t) nt = true := inR_iff.mpr (vp_in_nI ht (by omega))
  have hj : inR (nI u) nt = true := inR_iff.mpr (vp_in_nI hu (by omega))
  have op : ∀ {w : Nat}, (v 24 w = 0 ∨ v 24 w = 1 ∨ v 24 w = 2) → C_T_isOpen na nt v r w = true := fun {w} q => by
    unfold C_T_isOpen
    rcases q with q | q | q
    · rw [if_pos q]
    · rw [if_neg (by rw [q]; decide), if_pos q]
    · rw [if_neg (by rw [q]; decide), if_neg (by rw [q]; decide), if_pos q]
  have e : ¬ nI t = nI u := fun z => hne (by
    have := congrArg Int32.toInt z
    rw [nI_toInt (by omega), nI_toInt (by omega)] at this
    omega)
  unfold C_merge
  rw [if_pos hi, if_pos hj, if_neg e, ix_nI (by omega), ix_nI (by omega), if_pos (op h1), if_pos (op h2), take_v]
  exact ⟨_, rfl⟩
theorem Iv.merge (h : Iv na nt K v r E S M so) {t u : Nat} (ht : t < nt) (hu : u < nt) (hne : ¬ t = u) (h1 : v 24 t = 0 ∨ v 24 t = 1 ∨ v 24 t = 2) (x y : Int32) : Iv na nt K (u2 (u2 (u2 (u2 v 24 t 4) 22 u x) 25 u (mAg v t u)) 31 u y) (u3 (C_takeFromHolder na nt v r t).2 34 t (some u)) E S M so := by
  have n3 : ¬ v 24 t = 3 := by rcases h1 with e | e | e <;> rw [e] <;> decide
  have qt := h.2.1 t ht
  have a1 : Iv na nt K (u2 v 24 t 4) (C_takeFromHolder na nt v r t).2 E S M so := by
    refine h.leave ht (fun w hw j => u2_o hw j) (h.2.2.1.up rfl) (u2_ne1 (by decide)) (u2_ne1 (by decide)) (by rw [u2_ne1 (by decide)]) (by rw [u2_same]; decide) ?_
    simp only [u2_at]
    simp
    exact qt.st n3 (Or.inr (Or.inr rfl))
  refine Iv.r34 (a1.stay hu (Int.le_refl E) (fun w hw j => by rw [u2_o hw, u2_o hw, u2_o hw]) (((a1.2.2.1.up rfl).up rfl).up rfl) (by rw [u2_ne1 (by decide), u2_ne1 (by decide), u2_ne1 (by decide)]) (by rw [u2_ne1 (by decide), u2_ne1 (by decide), u2_ne1 (by decide)]) (by rw [u2_ne1 (by decide), u2_ne1 (by decide), u2_ne1 (by decide)]) (by rw [u2_ne1 (by decide), u2_ne1 (by decide), u2_ne1 (by decide)]) ?_)
  have qu := a1.2.1 u hu
  have eo : ∀ j, ¬ j = 31 → ¬ j = 25 → ¬ j = 22 → u2 (u2 (u2 (u2 v 24 t 4) 22 u x) 25 u (mAg v t u)) 31 u y j u = u2 v 24 t 4 j u := fun j a b c => by rw [u2_ne1 a, u2_ne1 b, u2_ne1 c]
  have e5 : u2 (u2 (u2 (u2 v 24 t 4) 22 u x) 25 u (mAg v t u)) 31 u y 25 u = mAg v t u := by rw [u2_ne1 (by decide), u2_same]
  rw [eo 24 (by decide) (by decide) (by decide), eo 26 (by decide) (by decide) (by decide), eo 23 (by decide) (by decide) (by decide), eo 27 (by decide) (by decide) (by decide), eo 30 (by decide) (by decide) (by decide), e5]
  obtain ⟨q1, q2, q3, q4, q5, q6, q7⟩ := qu
  have t5 := qt.2.2.2.2.1
  rw [u2_ne1 (j := 24) (a := 25) (by decide)] at q5
  have ea : (v 25 u).toInt ≤ (mAg v t u).toInt ∧ (mAg v t u).toInt ≤ S := by
    unfold mAg
    split
    · rename_i z
      rw [Int32.lt_iff_toInt_lt] at z
      omega
    · omega
  exact ⟨q1, q2, q3, q4, ⟨by omega, by omega, by omega⟩, q6, q7⟩
theorem CI_merge {t u : Nat} (h : CI G v r) (ht : t < nT G) (hu : u < nT G) (x y : Int32) : CI G (u2 (u2 (u2 (u2 v 24 t 4) 22 u (mPr v t u)) 25 u x) 31 u y) (u3 (C_takeFromHolder na nt v r t).2 34 t (some u)) :=
  CI_v (by decide) (CI_v (by decide) (CI_p (minPrio (h.prio ht) (h.prio hu)) (CI_v (by decide) (CI_r (CI_take' h) (fun z => absurd z (by decide)) (fun z => absurd z (by decide)) (fun z => absurd z (by decide)) (fun _ w e => by cases e; exact hu)))))
theorem agentE {a : Nat} {w : Int32} (ha : a < na) (hn : na ≤ 6) (h0 : ¬ w < 0) (h4 : w < 4) : C_agent na nt v r (nI a) w = (0, C_toldOfAgent na nt v r a w, v, r) := by
  have hi : inR (nI a) na = true := inR_iff.mpr (vp_in_nI ha (by omega))
  unfold C_agent
  rw [if_pos hi, if_neg h0, if_pos h4, ix_nI (by omega)]
theorem ticketE {t : Nat} {w : Int32} (ht : t < nt) (hn : nt ≤ 20) (h0 : ¬ w < 0) (h8 : w < 8) : C_ticket na nt v r (nI t) w = (0, C_toldOfTicket na nt v r t w, v, r) := by
  have hi : inR (nI t) nt = true := inR_iff.mpr (vp_in_nI ht (by omega))
  unfold C_ticket
  rw [if_pos hi, if_neg h0, if_pos h8, ix_nI (by omega)]
theorem tA0 {a : Nat} : C_toldOfAgent na nt v r a 0 = C_numberOfTicket na nt v r (r 15 a) := if_pos rfl
theorem tA1 {a : Nat} : C_toldOfAgent na nt v r a 1 = v 16 a := (if_neg (by decide)).trans (if_pos rfl)
theorem tA2 {a : Nat} : C_toldOfAgent na nt v r a 2 = v 17 a := (if_neg (by decide)).trans ((if_neg (by decide)).trans (if_pos rfl))
theorem tT0 {t : Nat} : C_toldOfTicket na nt v r t 0 = v 24 t := if_pos rfl
theorem tT1 {t : Nat} : C_toldOfTicket na nt v r t 1 = C_numberOfAgent na nt v r (r 32 t) := (if_neg (by decide)).trans (if_pos rfl)
theorem tT3 {t : Nat} : C_toldOfTicket na nt v r t 3 = v 25 t := (if_neg (by decide)).trans ((if_neg (by decide)).trans ((if_neg (by decide)).trans (if_pos rfl)))
theorem tT4 {t : Nat} : C_toldOfTicket na nt v r t 4 = v 26 t := (if_neg (by decide)).trans ((if_neg (by decide)).trans ((if_neg (by decide)).trans ((if_neg (by decide)).trans (if_pos rfl))))
theorem tT5 {t : Nat} : C_toldOfTicket na nt v r t 5 = v 23 t := (if_neg (by decide)).trans ((if_neg (by decide)).trans ((if_neg (by decide)).trans ((if_neg (by decide)).trans ((if_neg (by decide)).trans (if_pos rfl)))))
theorem tT6 {t : Nat} : C_toldOfTicket na nt v r t 6 = v 27 t := (if_neg (by decide)).trans ((if_neg (by decide)).trans ((if_neg (by decide)).trans ((if_neg (by decide)).trans ((if_neg (by decide)).trans ((if_neg (by decide)).trans (if_pos rfl))))))
theorem passE {p m : Nat} (hp : 1 ≤ p) (hp2 : p ≤ 600) (hm : v 0 0 = nI m) (hm2 : m < 1440) : C_pass na nt v r (nI p) = (0, (C_passL na nt v r p).1, (C_passL na nt v r p).2.1, (C_passL na nt v r p).2.2) := by
  have e : (99999 : Int32) - nI m = nI (99999 - m) := nI_sub (a := 99999) (by omega)
  unfold C_pass
  rw [if_neg (show ¬ nI p < 1 from nI_nlt (b := 1) hp (by omega)), if_pos (show nI p ≤ 600 from nI_le (b := 600) hp2 (by decide)), hm, e, if_pos (nI_le (by omega) (by omega)), ix_nI (by omega)]
theorem CI_passL (h : CI G v r) : ∀ n, CI G (C_passL (nA G) (nT G) v r n).2.1 (C_passL (nA G) (nT G) v r n).2.2
  | 0 => h
  | n + 1 => by
    have ih := CI_passL h n
    rw [C_passL_s, C_passLB]
    exact CI_pm ih
theorem allE {s : Int32} (h0 : ¬ s < 0) (h4 : s ≤ 4) : C_all na nt v r s = (0, C_allL na nt v r s nt, v, r) := by
  unfold C_all
  rw [if_neg h0, if_pos h4]
theorem bit_at (k : Nat) (hk : k < 20) (x : Int32) : ((x >>> (nI k &&& 31)) &&& 1) = if x.toBitVec.getLsbD k then 1 else 0 := by
  have h31 : ∀ k, k < 20 → (nI k &&& 31) = nI k := by decide +kernel
  have hm : ∀ k, k < 20 → ((nI k).toBitVec.smod 32).toNat = k := by decide +kernel
  rw [h31 k hk]
  apply Int32.toBitVec_inj.mp
  show (x.toBitVec.sshiftRight ((nI k).toBitVec.smod 32).toNat) &&& 1#32 = _
  rw [hm k hk]
  have h1 : ((x.toBitVec.sshiftRight k) &&& BitVec.twoPow 32 0) = if x.toBitVec.getLsbD k then BitVec.twoPow 32 0 else 0#32 := by
    rw [BitVec.and_twoPow, BitVec.getLsbD_sshiftRight]
    simp [show k < 32 by omega]
  have e1 : BitVec.twoPow 32 0 = 1#32 := by decide
  rw [e1] at h1
  rw [h1]
  split <;> rfl
theorem bit_or (k i : Nat) (hk : k < 20) (hi : i < 20) (x : Int32) : (x ||| (1 <<< (nI i &&& 31))).toBitVec.getLsbD k = (x.toBitVec.getLsbD k || decide (i = k)) := by
  have h31 : ∀ k, k < 20 → (nI k &&& 31) = nI k := by decide +kernel
  have hm : ∀ k, k < 20 → ((nI k).toBitVec.smod 32).toNat = k := by decide +kernel
  rw [h31 i hi]
  show (x.toBitVec ||| (1#32 <<< ((nI i).toBitVec.smod 32).toNat)).getLsbD k = _
  rw [hm i hi, BitVec.getLsbD_or, show (1#32 <<< i) = BitVec.twoPow 32 i from rfl, BitVec.getLsbD_twoPow]
  simp [show i < 32 by omega]
theorem allL_bit {s : Int32} {k : Nat} (hk : k < 20) (hs1 : v 24 k = s) : ∀ n, n ≤ 20 → k < n → (C_allL na nt v r s n).toBitVec.getLsbD k = true
  | 0, _, h => absurd h (Nat.not_lt_zero _)
  | n + 1, hn, h => by
    rw [C_allL_s, C_allLB]
    by_cases e : k = n
    · subst e
      rw [if_pos hs1, bit_or k k hk hk]
      simp
    · have ih := allL_bit hk hs1 n (by omega) (by omega)
      split
      · rw [bit_or k n hk (by omega), ih]; rfl
      · exact ih
theorem all_ok {s : Int32} {k : Nat} (hn : nt ≤ 20) (hk : k < nt) (hs1 : v 24 k = s) : (C_allL na nt v r s nt >>> (nI k &&& 31)) &&& 1 = 1 := by
  rw [bit_at k (by omega), allL_bit (by omega) hs1 nt hn hk]
  rfl
theorem bit_iff (k : Nat) (hk : k < 8) (y : BitVec 32) : ((y.sshiftRight k) &&& 1#32 = 1#32) ↔ ¬ (y &&& (1#32 <<< k) = 0#32) := by
  have h1 : ((y.sshiftRight k) &&& BitVec.twoPow 32 0) = if y.getLsbD k then BitVec.twoPow 32 0 else 0#32 := by
    rw [BitVec.and_twoPow, BitVec.getLsbD_sshiftRight]
    simp [show k < 32 by omega]
  have h2 : (y &&& BitVec.twoPow 32 k) = if y.getLsbD k then BitVec.twoPow 32 k else 0#32 := BitVec.and_twoPow _ _
  have e1 : BitVec.twoPow 32 0 = 1#32 := by decide
  have e2 : (1#32 <<< k) = BitVec.twoPow 32 k := rfl
  rw [e1] at h1
  rw [h1, e2, h2]
  have ht : ∀ k, k < 8 → ¬ BitVec.twoPow 32 k = 0#32 := by decide +kernel
  cases y.getLsbD k with
  | true => simp [ht k hk]
  | false => simp
theorem has_iff {k : Nat} (hk : k < 8) (x : Int32) : ((x >>> (nI k &&& 31)) &&& 1 = 1) ↔ ¬ (x &&& (1 <<< (nI k &&& 31)) = 0) := by
  have hs : ∀ k, k < 8 → (nI k &&& 31) = nI k := by decide +kernel
  have hm : ∀ k, k < 8 → ((nI k).toBitVec.smod 32).toNat = k := by decide +kernel
  rw [hs k hk, ← Int32.toBitVec_inj, ← Int32.toBitVec_inj (a := x &&& (1 <<< nI k))]
  have e1 : (x >>> nI k &&& 1).toBitVec = (x.toBitVec.sshiftRight k) &&& 1#32 := by
    show (x.toBitVec.sshiftRight ((nI k).toBitVec.smod 32).toNat) &&& 1#32 = _
    rw [hm k hk]
  have e2 : (x &&& (1 <<< nI k)).toBitVec = x.toBitVec &&& (1#32 <<< k) := by
    show x.toBitVec &&& (1#32 <<< ((nI k).toBitVec.smod 32).toNat) = _
    rw [hm k hk]
  rw [e1, e2]
  exact bit_iff k hk _
theorem hs_ok {x : Int32} {q : Int32} (hq : vp_in q 8) (h : hs x q) : (x >>> (q &&& 31)) &&& 1 = 1 := by
  have e := in_nI hq
  have hl := vp_lt hq
  unfold hs at h
  rw [e] at h ⊢
  exact (has_iff hl x).mpr h
end CALLS
end
section
/-! THE LAW'S ROWS: the script (read alone), the array d, the calls of the class -/
section LR
variable {k : Kx} {cc : ByteArray} {own : String} {R : Room} {nL : Nat} {ws wc wr : va_W} {c n pc : Nat} {lv : List (Option Value)} {st stk : List Value} {b Ls : Nat} {xs : Nat → Int32}
theorem j_sld (F : Fx k cc own R nL) {i : Nat} (hX : va_X b Ls xs (ks k) (ks k).heap) (hbl : b < (ks k).heap.size) (hbA : ¬ kA k b) (hd : decode cc pc = .ok (.iaload, 1)) (hi : i < Ls) (hL : Ls < 2 ^ 31) (K : J k ws c n (pc + 1) lv (.int (xs i) :: st)) : J k ws c n pc lv (.int (nI i) :: .ref b :: st) := fun H locs ls hP hL2 =>
  va_sld F.hx F.hb hX hbl hbA hP.2.2.1 (vp_in_nI hi hL) hd (by rw [nI_clamp (Nat.lt_trans hi hL)]; exact K H locs ls hP hL2)
theorem j_slen (F : Fx k cc own R nL) (hX : va_X b Ls xs (ks k) (ks k).heap) (hbl : b < (ks k).heap.size) (hbA : ¬ kA k b) (hd : decode cc pc = .ok (.arraylength, 1)) (K : J k ws c n (pc + 1) lv (.int (nI Ls) :: st)) : J k ws c n pc lv (.ref b :: st) := fun H locs ls hP hL2 =>
  va_slen F.hx F.hb hX hbl hbA hP.2.2.1 hd (K H locs ls hP hL2)
def PX_ (D : va_G) (b Ls : Nat) (xs : Nat → Int32) (U : State) : Prop := va_X b Ls xs U U.heap ∧ b < U.heap.size ∧ KK D U
def CRX (l : Launch) (D : va_G) (y : MethodName) (cc : ByteArray) (maxL : Nat) (ret : Option FieldType) (fr lo : Nat) (b Ls : Nat) (xs : Nat → Int32) (as : List Value) (v : Value) : Prop :=
  Met l y (wU y cc maxL ret) (rm4 fr 0 0 lo) (va_Pc as (PX_ D b Ls xs)) (fun _ st oc t => oc = .returned (some v) ∧ t.heap = st.heap) 0 0 (fun _ => False)
theorem PX_.blind {D : va_G} {as : List Value} : FrameBlind (va_Pc as (PX_ D b Ls xs)) := fun a U g mk q => by
  obtain ⟨h0, h1, h2, h3⟩ := q
  exact ⟨h0, h1.moved (u := U) (U := U.calling g mk a) (Vm.Alike.refl U.vm), h2, h3.calling⟩
theorem CRX_of {l : Launch} {D : va_G} {y : MethodName} {cc : ByteArray} {maxL : Nat} {ret : Option FieldType} {fr lo : Nat} {as : List Value} {v : Value} (lv : List (Option Value)) (hst : l.stackTraces = false) (hy : plainName y.cls = true) (hlv : lv_args 0 as = prs 0 lv) (hlen : (lg_sl as).length ≤ maxL)
    (body : ∀ k : Kx, Fx k cc y.cls (rm4 fr 0 0 lo) maxL → kl k = l → kD k = D → RR k ret v → va_X b Ls xs (ks k) (ks k).heap → b < (ks k).heap.size → ¬ kA k b → J k [] 0 0 0 lv []) : CRX l D y cc maxL ret fr lo b Ls xs as v := by
  refine Met.ofW (cc := cc) (maxL := maxL) (ret := ret) hy rfl ?_
  intro p e s m args below meth c s₁ B hml hv
  obtain ⟨rfl, hX, hbl, hK⟩ := hv
  have hts := atoms_spec (ws := wU y cc maxL ret) B.pre
  obtain ⟨ls, e1, e2⟩ := entry_eqL (m := m) hlv hlen
  rw [e1]
  exact body (mkK p l e (rm4 fr 0 0 lo) s m as.toArray below meth c (MQ below (fun _ st oc t => oc = .returned (some v) ∧ t.heap = st.heap) as.toArray s 0 0 (fun _ => False)) D (fun _ => False) false maxL)
    ⟨B.exec, B.bytes, hml, rfl, rfl, findClass_of_methodNamed B.named, fun w h => hts w (List.mem_cons_of_mem _ h), hK, fun _ _ h => (by cases h), fun h => (by cases h), hst, B.notSynchronized⟩ rfl rfl ⟨rfl, B.returns, rfl⟩ hX hbl (fun z => z) s.heap [] ls ⟨fun i q hq => (by simp at hq), fun h => (by cases h), va_S.rf, fun _ => ⟨rfl, rfl⟩⟩ e2
theorem PX_.at (F : Fx k cc own R nL) {H : Heap} {locs : List Loc} (hX : va_X b Ls xs (ks k) (ks k).heap) (hbl : b < (ks k).heap.size) (hbA : ¬ kA k b) (hP : Wd k ws H locs) {as : List Value} : PreS (ks k) H (va_Pc as (PX_ (kD k) b Ls xs)) as :=
  ⟨PX_.blind, fun U hU hW => ⟨rfl, by rw [hU]; exact (hX.kept (hP.2.2.1.2.1 b hbl hbA)).moved hW.alike, by rw [hU]; exact Nat.lt_of_lt_of_le hbl hP.2.2.1.1, F.hK.warm hW⟩⟩
theorem j_rdX (F : Fx k cc own R nL) (hX : va_X b Ls xs (ks k) (ks k).heap) (hbl : b < (ks k).heap.size) (hbA : ¬ kA k b) {y : MethodName} {ccy : ByteArray} {maxL : Nat} {ret : Option FieldType} {fr lo idx : Nat} {as : List Value} {v : Value} (hM : CRX (kl k) (kD k) y ccy maxL ret fr lo b Ls xs as v) (hk : LkS own idx y ccy maxL ret as.length) (hd : decode cc pc = .ok (.invokestatic idx, 3)) (hR : fr + 1 ≤ R.frames ∧ 8 + (maxL + 11) + lo ≤ R.locals)
    (hst : stk = as.reverse ++ st) (hW : (st.map fun v => v.category).sum ≤ 8) (hcn : c ≤ R.cells ∧ n ≤ R.slots) (K : J k ws c n (pc + 3) lv (v :: st)) : J k ws c n pc lv stk := fun H locs ls hP hL =>
  run_rd (a := as.toArray) (va_runS (As := as) (rest := st) F.fix hM (lkS F hk hR) (PX_.at F hX hbl hbA hP) rfl rfl (hL.1.trans F.hn) hst (lv_room hW) hd (by rw [F.hR]; exact hcn)) (K H locs ls hP hL)
/-- a writer that reads the script besides -/
def PMX (D : va_G) (ws : va_W) (sz b Ls : Nat) (xs : Nat → Int32) (U : State) : Prop := PreM D ws sz U ∧ va_X b Ls xs U U.heap ∧ b < U.heap.size ∧ ¬ va_A ws sz b
def CMX (l : Launch) (D : va_G) (y : MethodName) (cc : ByteArray) (maxL : Nat) (ret : Option FieldType) (fr lo mc ms b Ls : Nat) (xs : Nat → Int32) (ws : va_W) (as : List Value) (P : Option Value → va_W → Prop) : Prop :=
  ∀ sz, Met l y (wU y cc maxL ret) (rm4 fr mc ms lo) (va_Pc as (PMX D ws sz b Ls xs)) (PostM D ws sz P) mc ms (va_A ws sz)
theorem PMX.blind {D : va_G} {sz : Nat} {as : List Value} : FrameBlind (va_Pc as (PMX D ws sz b Ls xs)) := fun a U g mk q => by
  obtain ⟨h0, h1, h2, h3, h4⟩ := q
  exact ⟨h0, (PreM.blind (as := as) a U g mk ⟨h0, h1⟩).2, h2.moved (u := U) (U := U.calling g mk a) (Vm.Alike.refl U.vm), h3, h4⟩
theorem CMX_of {l : Launch} {D : va_G} {y : MethodName} {cc : ByteArray} {maxL : Nat} {ret : Option FieldType} {fr lo mc ms : Nat} {as : List Value} {P : Option Value → va_W → Prop} (lv : List (Option Value)) (hst : l.stackTraces = false) (hy : plainName y.cls = true) (hlv : lv_args 0 as = prs 0 lv) (hlen : (lg_sl as).length ≤ maxL)
    (body : ∀ k : Kx, Fx k cc y.cls (rm4 fr mc ms lo) maxL → kl k = l → kD k = D → RW k ret mc ms P → va_X b Ls xs (ks k) (ks k).heap → b < (ks k).heap.size → ¬ kA k b → J k ws 0 0 0 lv []) : CMX l D y cc maxL ret fr lo mc ms b Ls xs ws as P := by
  intro sz
  refine Met.ofW (cc := cc) (maxL := maxL) (ret := ret) hy rfl ?_
  intro p e s m args below meth c s₁ B hml hv
  obtain ⟨rfl, ⟨rfl, hP, hK, hD, hZ⟩, hX, hbl, hbA⟩ := hv
  have hts := atoms_spec (ws := wU y cc maxL ret) B.pre
  obtain ⟨ls, e1, e2⟩ := entry_eqL (m := m) hlv hlen
  rw [e1]
  exact body (mkK p l e (rm4 fr mc ms lo) s m as.toArray below meth c (MQ below (PostM D ws s.heap.size P) as.toArray s mc ms (va_A ws s.heap.size)) D (va_A ws s.heap.size) true maxL)
    ⟨B.exec, B.bytes, hml, rfl, rfl, findClass_of_methodNamed B.named, fun w h => hts w (List.mem_cons_of_mem _ h), hK, fun _ h _ => Or.inr h, fun _ => hZ, hst, B.notSynchronized⟩ rfl rfl ⟨rfl, B.returns, fun _ _ _ _ _ w => w⟩ hX hbl hbA s.heap [] ls ⟨hP, fun _ => hD.self, va_S.rf, fun h => (by cases h)⟩ e2
theorem PMX.at (F : Fx k cc own R nL) {H : Heap} {locs : List Loc} (hw : kw k = true) (hX : va_X b Ls xs (ks k) (ks k).heap) (hbl : b < (ks k).heap.size) (hbA : ¬ kA k b) (hP : Wd k (wc ++ wr) H locs) {as : List Value} : PreS (ks k) H (va_Pc as (PMX (kD k) wc H.size b Ls xs)) as :=
  ⟨PMX.blind, fun U hU hW => by
    obtain ⟨e, hp⟩ := (PreM.at F hw hP (as := as)).2 U hU hW
    refine ⟨e, hp, by rw [hU]; exact (hX.kept (hP.2.2.1.2.1 b hbl hbA)).moved hW.alike, by rw [hU]; exact Nat.lt_of_lt_of_le hbl hP.2.2.1.1, ?_⟩
    rintro (⟨i, q, hi⟩ | hq)
    · exact hbA ((hP.2.1 hw).2 i (b, q) (by rw [List.getElem?_append_left (List.getElem?_eq_some_iff.mp hi).1]; exact hi))
    · exact absurd (Nat.lt_of_lt_of_le hbl hP.2.2.1.1) (Nat.not_lt.mpr hq)⟩
theorem j_cmX (F : Fx k cc own R nL) (hw : kw k = true) (hX : va_X b Ls xs (ks k) (ks k).heap) (hbl : b < (ks k).heap.size) (hbA : ¬ kA k b) {y : MethodName} {ccy : ByteArray} {maxL : Nat} {ret : Option FieldType} {fr lo mc ms idx : Nat} {as : List Value} {P : Option Value → va_W → Prop} (hM : CMX (kl k) (kD k) y ccy maxL ret fr lo mc ms b Ls xs wc as P) (hk : LkS own idx y ccy maxL ret as.length) (hd : decode cc pc = .ok (.invokestatic idx, 3)) (hR : fr + 1 ≤ R.frames ∧ 8 + (maxL + 11) + lo ≤ R.locals)
    (hst : stk = as.reverse ++ st) (hW : (st.map fun v => v.category).sum ≤ 8) (hcn : c + mc ≤ R.cells ∧ n + ms ≤ R.slots) (K : ∀ v w1, P v w1 → J k (w1 ++ wr) (c + mc) (n + ms) (pc + 3) lv (vlist v st)) : J k (wc ++ wr) c n pc lv stk := fun H locs ls hP hL =>
  run_cm F hw hP (a := as.toArray) (va_runS (As := as) (rest := st) F.fix (hM H.size) (lkS F hk hR) (PMX.at F hw hX hbl hbA hP) rfl rfl (hL.1.trans F.hn) hst (lv_room hW) hd (by rw [F.hR]; exact hcn)) (fun v w1 H1 locs1 hp h1 => K v w1 hp H1 locs1 ls h1 hL)
/-! numbers of the law -/
theorem j_imulN (F : Fx k cc own R nL) {a e : Nat} (hd : decode cc pc = .ok (.imul, 1)) (K : J k ws c n (pc + 1) lv (.int (nI (a * e)) :: st)) : J k ws c n pc lv (.int (nI e) :: .int (nI a) :: st) := j_imul F hd (by rw [nI_mul]; exact K)
theorem j_isubN (F : Fx k cc own R nL) {a e : Nat} (hd : decode cc pc = .ok (.isub, 1)) (h : e ≤ a) (K : J k ws c n (pc + 1) lv (.int (nI (a - e)) :: st)) : J k ws c n pc lv (.int (nI e) :: .int (nI a) :: st) := j_isub F hd (by rw [nI_sub h]; exact K)
theorem j_idivN (F : Fx k cc own R nL) {a e : Nat} (hd : decode cc pc = .ok (.idiv, 1)) (ha : a < 2 ^ 31) (he : 0 < e ∧ e < 2 ^ 31) (K : J k ws c n (pc + 1) lv (.int (nI (a / e)) :: st)) : J k ws c n pc lv (.int (nI e) :: .int (nI a) :: st) := j_idiv F hd (fun z => nI_ne0 he.1 he.2 z) (by rw [nI_div ha he.2 he.1]; exact K)
theorem nI_rem {a e : Nat} (ha : a < 2 ^ 31) (he : 0 < e ∧ e < 2 ^ 31) : nI a - nI a / nI e * nI e = nI (a % e) := by
  rw [nI_div ha he.2 he.1, nI_mul, nI_sub (Nat.div_mul_le_self _ _)]
  congr 1
  have := Nat.div_add_mod a e
  rw [Nat.mul_comm] at this
  omega
theorem j_iremN (F : Fx k cc own R nL) {a e : Nat} (hd : decode cc pc = .ok (.irem, 1)) (ha : a < 2 ^ 31) (he : 0 < e ∧ e < 2 ^ 31) (K : J k ws c n (pc + 1) lv (.int (nI (a % e)) :: st)) : J k ws c n pc lv (.int (nI e) :: .int (nI a) :: st) := j_irem F hd (fun z => nI_ne0 he.1 he.2 z) (by rw [nI_rem ha he]; exact K)
/-- the array d -/
theorem j_dld (F : Fx k cc own R nL) {dd i : Nat} {g : Nat → Int32} {z : Int32} (hd : decode cc pc = .ok (.iaload, 1)) (hi : i < 350) (hz : g i = z) (K : J k (ain (kD k) dd 350 g :: wr) c n (pc + 1) lv (.int z :: st)) : J k (ain (kD k) dd 350 g :: wr) c n pc lv (.int (nI i) :: .ref dd :: st) := j_ialdN F hd 0 rfl ⟨hi, by decide⟩ (by rw [hz]; exact K)
theorem j_dst (F : Fx k cc own R nL) (hw : kw k = true) {dd i : Nat} {g : Nat → Int32} {x : Int32} (hd : decode cc pc = .ok (.iastore, 1)) (hi : i < 350) (K : ∀ g', g' = upd g i x → J k (ain (kD k) dd 350 g' :: wr) c n (pc + 1) lv st) : J k (ain (kD k) dd 350 g :: wr) c n pc lv (.int x :: .int (nI i) :: .ref dd :: st) := j_iastN F hw hd 0 rfl ⟨hi, by decide⟩ _ rfl (K _ rfl)
/-- a call of the class -/
theorem j_lcx (F : Fx k cc own R nL) (hw : kw k = true) {G : CG} {v : S2} {r : R2} {x0 : Nat × va_E} {y : MethodName} {ccy : ByteArray} {maxL : Nat} {ret : Option FieldType} {fr lo mc ms idx : Nat} {as : List Value} {P : Option Value → va_W → Prop} {PX : String → Prop} (hM : CX (kl k) (kD k) y ccy maxL ret fr lo mc ms (CW (kD k) G v r) (.ref (G.1 0 0) :: as) P PX) (hk : LkV own idx RX3 y ccy maxL ret as.length) (hd : decode cc pc = .ok (.invokevirtual idx, 3)) (hR : fr + 1 ≤ R.frames ∧ 8 + (maxL + 11) + lo ≤ R.locals) (hst : stk = as.reverse ++ .ref (G.1 0 0) :: st) (hW : (st.map fun v => v.category).sum ≤ 8) (hcn : c + mc ≤ R.cells ∧ n + ms ≤ R.slots) (hno : ∀ E, ¬ PX E) (K : ∀ u w, P u w → J k (x0 :: w) (c + mc) (n + ms) (pc + 3) lv (vlist u st)) : J k (x0 :: CW (kD k) G v r) c n pc lv stk := by
  refine j_perm (CW (kD k) G v r ++ [x0]) (List.perm_append_comm (l₁ := [x0])) ?_
  exact j_cxV F hw hM hk hd hR 0 rfl rfl hst hW hcn (fun u w h => j_perm _ (List.perm_append_comm (l₂ := [x0])) (K u w h)) (fun E h => absurd h (hno E))
theorem j_lc (F : Fx k cc own R nL) (hw : kw k = true) {G : CG} {v v' : S2} {r r' : R2} {z : Int32} {x0 : Nat × va_E} {y : MethodName} {ccy : ByteArray} {maxL : Nat} {ret : Option FieldType} {fr lo mc ms idx : Nat} {as : List Value} {C : Nat × Int32 × S2 × R2} (hM : CX (kl k) (kD k) y ccy maxL ret fr lo mc ms (CW (kD k) G v r) (.ref (G.1 0 0) :: as) (fun u w => C.1 = 0 ∧ u = some (.int C.2.1) ∧ w = CW (kD k) G C.2.2.1 C.2.2.2) (fun E => C.1 ≠ 0 ∧ E = xE C.1)) (hk : LkV own idx RX3 y ccy maxL ret as.length) (hd : decode cc pc = .ok (.invokevirtual idx, 3)) (hR : fr + 1 ≤ R.frames ∧ 8 + (maxL + 11) + lo ≤ R.locals) (hst : stk = as.reverse ++ .ref (G.1 0 0) :: st) (hW : (st.map fun v => v.category).sum ≤ 8) (hcn : c + mc ≤ R.cells ∧ n + ms ≤ R.slots) (hE : C = (0, z, v', r')) (K : J k (x0 :: CW (kD k) G v' r') (c + mc) (n + ms) (pc + 3) lv (.int z :: st)) : J k (x0 :: CW (kD k) G v r) c n pc lv stk := by
  refine j_lcx F hw hM hk hd hR hst hW hcn (fun E h => h.1 (by rw [hE])) (fun u w h => ?_)
  obtain ⟨_, rfl, rfl⟩ := h
  rw [hE]
  exact K
theorem j_lcr (F : Fx k cc own R nL) {G : CG} {v : S2} {r : R2} {z : Value} {x0 : Nat × va_E} {y : MethodName} {ccy : ByteArray} {maxL : Nat} {ret : Option FieldType} {fr lo idx : Nat} {as : List Value} (hM : CR (kl k) (kD k) y ccy maxL ret fr lo (CW (kD k) G v r) (.ref (G.1 0 0) :: as) z) (hk : LkV own idx RX3 y ccy maxL ret as.length) (hd : decode cc pc = .ok (.invokevirtual idx, 3)) (hR : fr + 1 ≤ R.frames ∧ 8 + (maxL + 11) + lo ≤ R.locals) (hst : stk = as.reverse ++ .ref (G.1 0 0) :: st) (hW : (st.map fun v => v.category).sum ≤ 8) (hcn : c ≤ R.cells ∧ n ≤ R.slots) (K : J k (x0 :: CW (kD k) G v r) c n (pc + 3) lv (z :: st)) : J k (x0 :: CW (kD k) G v r) c n pc lv stk :=
  j_rdV F hM hk hd hR (fun q h => List.mem_cons_of_mem _ h) 1 rfl rfl hst hW hcn K
end LR
def bel (x y : Int32) : Int32 := (x &&& 2147483647) - (x &&& 2147483647) / y * y
theorem msk (x : Int32) : ∃ j : Nat, j < 2 ^ 31 ∧ x &&& 2147483647 = nI j := by
  refine nI_of (fun z => ?_)
  rw [Int32.lt_iff_toInt_lt, show (0 : Int32).toInt = 0 from by decide] at z
  have hm : (x &&& 2147483647).toBitVec.msb = false := by
    show (x.toBitVec &&& 2147483647#32).msb = false
    rw [BitVec.msb_and, show (2147483647#32).msb = false from by decide, Bool.and_false]
  have e : (x &&& 2147483647).toInt = ((x &&& 2147483647).toBitVec.toNat : Int) := BitVec.toInt_eq_toNat_of_msb hm
  omega
theorem bel_nI (x : Int32) {N : Nat} (hN : 0 < N ∧ N < 2 ^ 31) : ∃ j, j < N ∧ bel x (nI N) = nI j := by
  obtain ⟨j, hj, e⟩ := msk x
  unfold bel
  rw [e, nI_rem hj hN]
  exact ⟨_, Nat.mod_lt _ hN.1, rfl⟩
theorem qL_below (l : Launch) (hst : l.stackTraces = false) (D : va_G) (p0 p1 : Int32) (h : ¬ p1 = 0) : CR l D yL_below cL_below 2 (some .int) 0 0 [] [.int p0, .int p1] (.int (bel p0 p1)) := by
  refine CR_of [some (.int p0), some (.int p1)] hst (by decide +kernel) rfl (Nat.le_of_ble_eq_true rfl) (fun k F hl hD hR => ?_)
  subst hl hD
  refine j_iloadn F dL_below_0 rfl ?_
  refine j_ldc F uc_L_7 dL_below_1 ?_
  refine j_iand F dL_below_3 ?_
  refine j_iloadn F dL_below_4 rfl ?_
  refine j_irem F dL_below_5 h ?_
  exact j_iretR F hR dL_below_6 rfl
def celV (Ls : Nat) (xs : Nat → Int32) (i : Nat) : Int32 := if i < Ls then xs i else 790386105 * nI (i + 3)
theorem qL_cell (l : Launch) (hst : l.stackTraces = false) (D : va_G) (b Ls : Nat) (xs : Nat → Int32) (i : Nat) (hL : Ls ≤ 260) (hi : i ≤ 1000) : CRX l D yL_cell cL_cell 2 (some .int) 0 0 b Ls xs [.ref b, .int (nI i)] (.int (celV Ls xs i)) := by
  refine CRX_of [some (.ref b), some (.int (nI i))] hst (by decide +kernel) rfl (Nat.le_of_ble_eq_true rfl) (fun k F hl hD hR hX hbl hbA => ?_)
  subst hl hD
  refine j_iloadn F dL_cell_0 rfl ?_
  refine j_aloadn F dL_cell_1 rfl ?_
  refine j_slen F hX hbl hbA dL_cell_2 ?_
  refine j_icgeN F (x := i) (y := Ls) (tgt := 12) dL_cell_3 (by decide) ⟨by omega, by omega⟩ (fun h => ?_) (fun h => ?_)
  · refine j_ldc F uc_L_8 dL_cell_12 ?_
    refine j_iloadn F dL_cell_14 rfl ?_
    refine j_iconst F (v := 3) dL_cell_15 (by decide) ?_
    refine j_iaddN F (a := i) (b := 3) dL_cell_16 ?_
    refine j_imul F dL_cell_17 ?_
    exact j_iretR F hR dL_cell_18 (congrArg Value.int (if_neg (Nat.not_lt.mpr h)))
  · refine j_aloadn F dL_cell_6 rfl ?_
    refine j_iloadn F dL_cell_7 rfl ?_
    refine j_sld F hX hbl hbA dL_cell_8 h (by omega) ?_
    refine j_goto F (tgt := 18) dL_cell_9 (by decide) ?_
    exact j_iretR F hR dL_cell_18 (congrArg Value.int (if_pos h))
section LR2
variable {k : Kx} {cc : ByteArray} {R : Room} {nL : Nat} {ws : va_W} {c n pc : Nat} {lv : List (Option Value)} {st : List Value} {b Ls : Nat} {xs : Nat → Int32}
theorem j_bel (F : Fx k cc RL R nL) (hst : (kl k).stackTraces = false) {x : Int32} {N : Nat} (hN : 0 < N ∧ N < 2 ^ 31) (hd : decode cc pc = .ok (.invokestatic 15, 3)) (hR : 1 ≤ R.frames ∧ 21 ≤ R.locals) (hW : (st.map fun v => v.category).sum ≤ 8) (hcn : c ≤ R.cells ∧ n ≤ R.slots) (K : ∀ j, j < N → J k ws c n (pc + 3) lv (.int (nI j) :: st)) : J k ws c n pc lv (.int (nI N) :: .int x :: st) := by
  obtain ⟨j, hj, e⟩ := bel_nI x hN
  refine j_rdS F (qL_below (kl k) hst (kD k) x (nI N) (fun z => nI_ne0 hN.1 hN.2 z)) lk_L_15 hd hR (fun _ h => nomatch h) rfl hW hcn ?_
  rw [e]
  exact K j hj
theorem j_cel (F : Fx k cc RL R nL) (hst : (kl k).stackTraces = false) (hX : va_X b Ls xs (ks k) (ks k).heap) (hbl : b < (ks k).heap.size) (hbA : ¬ kA k b) (hL : Ls ≤ 260) {i : Nat} (hi : i ≤ 1000) (hd : decode cc pc = .ok (.invokestatic 9, 3)) (hR : 1 ≤ R.frames ∧ 21 ≤ R.locals) (hW : (st.map fun v => v.category).sum ≤ 8) (hcn : c ≤ R.cells ∧ n ≤ R.slots) (K : ∀ x, J k ws c n (pc + 3) lv (.int x :: st)) : J k ws c n pc lv (.int (nI i) :: .ref b :: st) :=
  j_rdX F hX hbl hbA (qL_cell (kl k) hst (kD k) b Ls xs i hL hi) lk_L_9 hd hR rfl hW hcn (K _)
end LR2
end
