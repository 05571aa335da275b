/-! THE LAW'S OWN CALLS: each catches what the class throws -/
def CXH (l : Launch) (D : va_G) (y : MethodName) (cc : ByteArray) (maxL : Nat) (ret : Option FieldType) (hh : List (Nat × Nat × Nat × Nat)) (fr lo mc ms : Nat) (ws : va_W) (as : List Value) (P : Option Value → va_W → Prop) : Prop :=
  ∀ sz, vx_Met l y (Cond.codeWith y cc maxL ret hh :: Uw) (rm4 fr mc ms lo) (va_Pc as (PreM D ws sz)) (PostM D ws sz P) (PostX D ws sz fun _ => False) mc ms (va_A ws sz)
theorem CXH_of {l : Launch} {D : va_G} {y : MethodName} {cc : ByteArray} {maxL : Nat} {ret : Option FieldType} {hh : List (Nat × Nat × Nat × Nat)} {fr lo mc ms : Nat} {ws : va_W} {as : List Value} {P : Option Value → va_W → Prop} (lv : List (Option Value)) (hst : l.stackTraces = false) (hy : plainName y.cls = true) (hlv : lv_args 0 as = prs 0 lv) (hlen : (lg_sl as).length ≤ maxL)
    (body : ∀ k : Kx, Fx k cc y.cls (rm4 fr mc ms lo) maxL → kl k = l → kD k = D → RW k ret mc ms P → (kc k).exceptionTable.toList = tableOf hh → J k ws 0 0 0 lv []) : CXH l D y cc maxL ret hh fr lo mc ms ws as P := by
  intro sz
  refine vx_ofWH (cc := cc) (maxL := maxL) (ret := ret) (hh := hh) hy rfl ?_
  intro p e s m args below meth c s₁ B hml hv
  obtain ⟨rfl, rfl, hP, hK, hD, hZ⟩ := hv
  have hts := atoms_spec (ws := Cond.codeWith y cc maxL ret hh :: Uw) B.pre
  obtain ⟨ls, e1, e2⟩ := entry_eqL (m := m) hlv hlen
  rw [e1]
  exact body (mkK p l e (rm4 fr mc ms lo) s m as.toArray below meth c (vx_MQ below (PostM D ws s.heap.size P) (PostX D ws s.heap.size fun _ => False) as.toArray s mc ms (va_A ws s.heap.size)) D (va_A ws s.heap.size) true maxL)
    ⟨B.exec, B.bytes, hml, rfl, rfl, findClass_of_methodNamed B.named, fun w h => hts w (List.mem_cons_of_mem _ h), hK, fun _ h _ => Or.inr h, fun _ => hZ, hst, B.notSynchronized⟩ rfl rfl ⟨rfl, B.returns, fun _ _ _ _ _ w => vx_ret w⟩ (vx_table (x := y) B (hts _ List.mem_cons_self)) s.heap [] ls ⟨hP, fun _ => hD.self, va_S.rf, fun h => (by cases h)⟩ e2
section LROWS
variable {k : Kx} {cc : ByteArray} {own : String} {R : Room} {nL : Nat} {ws ws' wc wr : va_W} {c n pc : Nat} {lv lv' : List (Option Value)} {st stk : List Value}
theorem j_catch (F : Fx k cc own R nL) {hh : List (Nat × Nat × Nat × Nat)} (hT : (kc k).exceptionTable.toList = tableOf hh) (pre : List ExceptionTableEntry) (x : ExceptionTableEntry) (suf : List ExceptionTableEntry) {E : String} (hs : tableOf hh = pre ++ x :: suf) (hpass : ∀ z ∈ pre, covers z pc = false ∨ (z.catchType ≠ 0 ∧ ∃ nm : String, Cond.classLink own z.catchType nm ∈ Uw ∧ (E, nm) ∈ ncs)) (hx : covers x pc = true) (h0 : x.catchType ≠ 0) (hl : Cond.classLink own x.catchType E ∈ Uw) (hc : (E, E) ∈ cas) (K : ∀ q, J k ws c n x.handlerPc lv [.ref q]) : JX k ws c n pc lv st E := fun H locs ls q ce hP hL h1 h2 h3 =>
  vx_catch F.hown pre x suf (hT.trans hs) (fun z hz => (hpass z hz).imp id fun h => ⟨h.1, h.2.choose, F.hts h.2.choose_spec.1, F.hK.2.2.2.2.2.2.2.1 _ h.2.choose_spec.2⟩) hx h0 (F.hts hl) (va_Nw.use rfl (F.hK.2.2.2.1 _ hc)) h1 h2 h3 (K q H locs ls hP hL)
def LkH (own : String) (idx : Nat) (y : MethodName) (cc : ByteArray) (maxL : Nat) (ret : Option FieldType) (hh : List (Nat × Nat × Nat × Nat)) (n : Nat) : Prop := Cond.methodLink own idx y ∈ Uw ∧ Cond.initialized y.cls ∈ Uw ∧ Cond.codeWith y cc maxL ret hh ∈ Uw ∧ (y.cls ≠ "java/lang/invoke/MethodHandle" ∧ y.cls ≠ "java/lang/invoke/VarHandle" ∧ (parseMethodDescriptor y.desc).map (fun d => d.parameters.length) = some n) ∧ Cond.static y ∈ Uw
theorem wH_good {y : MethodName} {cc : ByteArray} {maxL idx : Nat} {ret : Option FieldType} {hh : List (Nat × Nat × Nat × Nat)} (h1 : Cond.methodLink own idx y ∈ Uw) (h2 : Cond.initialized y.cls ∈ Uw) (h3 : Cond.codeWith y cc maxL ret hh ∈ Uw) (h5 : Cond.static y ∈ Uw) : GoodIn Uw (va_wsS own idx y (Cond.codeWith y cc maxL ret hh :: Uw)) := fun w hw => by
  have hm : w ∈ Uw := by
    unfold va_wsS at hw
    rcases List.mem_append.mp hw with h | h
    · simp only [List.mem_cons, List.not_mem_nil, or_false] at h
      rcases h with rfl | rfl | rfl
      · exact h1
      · exact h5
      · exact h2
    · rcases List.mem_cons.mp h with rfl | h
      · exact h3
      · exact h
  exact ⟨hm, good_of_word (Uw_good hm)⟩
theorem j_cxhS (F : Fx k cc own R nL) (hw : kw k = true) {y : MethodName} {ccy : ByteArray} {maxL : Nat} {ret : Option FieldType} {hh : List (Nat × Nat × Nat × Nat)} {fr lo mc ms idx : Nat} {as : List Value} {P : Option Value → va_W → Prop} (hM : CXH (kl k) (kD k) y ccy maxL ret hh fr lo mc ms wc as P) (hk : LkH own idx y ccy maxL ret hh as.length) (hd : decode cc pc = .ok (.invokestatic idx, 3)) (hR : fr + 1 ≤ R.frames ∧ 8 + (maxL + 11) + lo ≤ R.locals)
    (hst : stk = as.reverse ++ st) (hW : (st.map fun v => v.category).sum ≤ 8) (hcn : c + mc ≤ R.cells ∧ n + ms ≤ R.slots) (K : ∀ v w1, P v w1 → J k (w1 ++ wr) (c + mc) (n + ms) (pc + 3) lv (vlist v st)) : J k (wc ++ wr) c n pc lv stk := fun H locs ls hP hL =>
  run_cx F hw hP hL (a := as.toArray) (vx_runSX (As := as) (rest := st) F.fix (hM H.size) (vx_cwSW (ws' := Uw) as.length (fun _ q => F.hts q) (wH_good hk.1 hk.2.1 hk.2.2.1 hk.2.2.2.2) rfl rfl rfl hk.2.2.2.1 (by rw [F.hR]; exact hR)) (PreM.at F hw hP) rfl rfl (hL.1.trans F.hn) hst (lv_room hW) hd (by rw [F.hR]; exact hcn)) K (fun _ h => h.elim)
end LROWS
abbrev lng (D : va_G) (o : Nat) (f : Nat → Int64) : Nat × va_E := (o, .inl (D.1 102, 1, .inr (.inl f)))
/-- the number that a call answers with, of what was thrown -/
def KC (h : List Nat) (x : Nat) (kk : Int32) : Prop := (x = 0 ∧ kk = 0) ∨ (x ≠ 0 ∧ ∃ j, h[j]? = some x ∧ kk = nI (j + 1))
theorem ul_L_13 : Cond.classLink RL 13 eA ∈ Uw := Uw_of (i := 227) (by decide +kernel) (by decide +kernel)
theorem ul_L_19 : Cond.classLink RL 19 eI ∈ Uw := Uw_of (i := 306) (by decide +kernel) (by decide +kernel)
theorem ul_L_29 : Cond.classLink RL 29 eS ∈ Uw := Uw_of (i := 358) (by decide +kernel) (by decide +kernel)
theorem C_addAgent_codes (na nt : Nat) (v : S2) (r : R2) (p0 : Int32) (p1 : Int32) (p2 : Int32) (p3 : Int32) : (C_addAgent na nt v r p0 p1 p2 p3).1 = 0 ∨ (C_addAgent na nt v r p0 p1 p2 p3).1 = 1 ∨ (C_addAgent na nt v r p0 p1 p2 p3).1 = 3 := by
  unfold C_addAgent
  repeat' split
  all_goals first | exact Or.inl rfl | exact Or.inr (Or.inl rfl) | exact Or.inr (Or.inr (Or.inl rfl)) | exact Or.inr (Or.inr (Or.inr rfl)) | exact Or.inr rfl | exact Or.inr (Or.inr rfl)
set_option maxRecDepth 100000 in
set_option maxHeartbeats 4000000 in
theorem qL_addAgent (l : Launch) (hst : l.stackTraces = false) (D : va_G) (G : CG) (v : S2) (r : R2) (o : Nat) (f : Nat → Int64) (p0 : Int32) (p1 : Int32) (p2 : Int32) (p3 : Int32) (hG : GI D G) (hC : CI G v r) : CXH l D yL_addAgent cL_addAgent 7 (some .int) [(0, 14, 17, 13), (0, 14, 21, 29)] 8 226 2 45 (CW D G v r ++ [lng D o f]) [.ref (G.1 0 0), .int p0, .int p1, .int p2, .int p3, .ref o] (fun u w => ∃ (kk : Int32) (f' : Nat → Int64), u = some (.int kk) ∧ KC [1, 3] (C_addAgent (nA G) (nT G) v r p0 p1 p2 p3).1 kk ∧ ((C_addAgent (nA G) (nT G) v r p0 p1 p2 p3).1 = 0 → f' 0 = (((C_addAgent (nA G) (nT G) v r p0 p1 p2 p3).2.1).toInt64)) ∧ (((C_addAgent (nA G) (nT G) v r p0 p1 p2 p3).1 = 0 ∧ ∃ G', Gx D G G' 1 0 ∧ w = CW D G' (C_addAgent (nA G) (nT G) v r p0 p1 p2 p3).2.2.1 (C_addAgent (nA G) (nT G) v r p0 p1 p2 p3).2.2.2 ++ [lng D o f']) ∨ ((C_addAgent (nA G) (nT G) v r p0 p1 p2 p3).1 ≠ 0 ∧ w = CW D G v r ++ [lng D o f']))) := by
  refine CXH_of [some (.ref (G.1 0 0)), some (.int p0), some (.int p1), some (.int p2), some (.int p3), some (.ref o), none] hst (by decide +kernel) rfl (Nat.le_of_ble_eq_true rfl) (fun k F hl hD hR hT => ?_)
  subst hl hD
  refine j_aload F dL_addAgent_0 rfl ?_
  refine j_iconst F (v := 0) dL_addAgent_2 (by decide) ?_
  refine j_aloadn F dL_addAgent_3 rfl ?_
  refine j_iloadn F dL_addAgent_4 rfl ?_
  refine j_iloadn F dL_addAgent_5 rfl ?_
  refine j_iloadn F dL_addAgent_6 rfl ?_
  refine j_iload F dL_addAgent_7 rfl ?_
  refine j_cxV F hR.1 (qX3_addAgent (kl k) hst (kD k) G v r p0 p1 p2 p3 hG hC) lk_L_25 dL_addAgent_9 ⟨(Nat.le_of_ble_eq_true rfl), (Nat.le_of_ble_eq_true rfl)⟩ 0 rfl rfl rfl (Nat.le_of_ble_eq_true rfl) ⟨(Nat.le_of_ble_eq_true rfl), (Nat.le_of_ble_eq_true rfl)⟩ (fun u w1 hp => ?_) (fun E hE => ?_)
  · obtain ⟨h0, G', hx, rfl, rfl⟩ := hp
    refine j_i2l F dL_addAgent_12 ?_
    refine j_perm ([lng (kD k) o f] ++ CW (kD k) G' (C_addAgent (nA G) (nT G) v r p0 p1 p2 p3).2.2.1 (C_addAgent (nA G) (nT G) v r p0 p1 p2 p3).2.2.2) List.perm_append_comm ?_
    refine j_last F hR.1 dL_addAgent_13 0 rfl (by unfold vp_in; decide +kernel) ([lng (kD k) o (vp_updL f 0 (((C_addAgent (nA G) (nT G) v r p0 p1 p2 p3).2.1).toInt64))] ++ CW (kD k) G' (C_addAgent (nA G) (nT G) v r p0 p1 p2 p3).2.2.1 (C_addAgent (nA G) (nT G) v r p0 p1 p2 p3).2.2.2) rfl ?_
    refine j_perm (CW (kD k) G' (C_addAgent (nA G) (nT G) v r p0 p1 p2 p3).2.2.1 (C_addAgent (nA G) (nT G) v r p0 p1 p2 p3).2.2.2 ++ [lng (kD k) o (vp_updL f 0 (((C_addAgent (nA G) (nT G) v r p0 p1 p2 p3).2.1).toInt64))]) List.perm_append_comm ?_
    refine j_goto F (tgt := 25) dL_addAgent_14 (by decide) ?_
    refine j_iconst F (v := 0) dL_addAgent_25 (by decide) ?_
    exact j_iret F hR dL_addAgent_26 (Nat.le_of_ble_eq_true rfl) (Nat.le_of_ble_eq_true rfl) ⟨0, _, rfl, Or.inl ⟨h0, rfl⟩, fun _ => (congrArg (fun z => z) (show vp_updL f 0 (((C_addAgent (nA G) (nT G) v r p0 p1 p2 p3).2.1).toInt64) 0 = _ from if_pos rfl)), Or.inl ⟨h0, G', hx, rfl⟩⟩
  · obtain ⟨h0, rfl⟩ := hE
    rcases C_addAgent_codes (nA G) (nT G) v r p0 p1 p2 p3 with e | e | e
    · exact absurd e h0
    · rw [e, show xE 1 = eA from by decide]
      refine j_catch F hT [] ⟨0, 14, 17, 13⟩ [⟨0, 14, 21, 29⟩] rfl (fun _ hz => absurd hz List.not_mem_nil) (by decide) (by decide) ul_L_13 (by decide) (fun q => ?_)
      refine j_astore F [some (.ref (G.1 0 0)), some (.int p0), some (.int p1), some (.int p2), some (.int p3), some (.ref o), some (.ref q)] dL_addAgent_17 rfl rfl rfl ?_
      refine j_iconst F (v := 1) dL_addAgent_19 (by decide) ?_
      exact j_iret F hR dL_addAgent_20 (Nat.le_of_ble_eq_true rfl) (Nat.le_of_ble_eq_true rfl) ⟨1, f, rfl, Or.inr ⟨h0, 0, by rw [e]; rfl, rfl⟩, fun z => absurd z h0, Or.inr ⟨h0, rfl⟩⟩
    · rw [e, show xE 3 = eS from by decide]
      refine j_catch F hT [⟨0, 14, 17, 13⟩] ⟨0, 14, 21, 29⟩ [] rfl (fun z hz => ?_) (by decide) (by decide) ul_L_29 (by decide) (fun q => ?_)
      · simp only [List.mem_cons, List.not_mem_nil, or_false] at hz
        subst hz
        exact Or.inr ⟨(by decide), _, ul_L_13, (by decide)⟩
      refine j_astore F [some (.ref (G.1 0 0)), some (.int p0), some (.int p1), some (.int p2), some (.int p3), some (.ref o), some (.ref q)] dL_addAgent_21 rfl rfl rfl ?_
      refine j_iconst F (v := 2) dL_addAgent_23 (by decide) ?_
      exact j_iret F hR dL_addAgent_24 (Nat.le_of_ble_eq_true rfl) (Nat.le_of_ble_eq_true rfl) ⟨2, f, rfl, Or.inr ⟨h0, 1, by rw [e]; rfl, rfl⟩, fun z => absurd z h0, Or.inr ⟨h0, rfl⟩⟩
theorem lh_L_102 : LkH RL 102 yL_addAgent cL_addAgent 7 (some .int) [(0, 14, 17, 13), (0, 14, 21, 29)] 6 := ⟨um_L_102, ui_L, ud_L_addAgent, by decide +kernel, us_L_addAgent⟩
theorem C_agent_codes (na nt : Nat) (v : S2) (r : R2) (p0 : Int32) (p1 : Int32) : (C_agent na nt v r p0 p1).1 = 0 ∨ (C_agent na nt v r p0 p1).1 = 2 := by
  unfold C_agent
  repeat' split
  all_goals first | exact Or.inl rfl | exact Or.inr (Or.inl rfl) | exact Or.inr (Or.inr (Or.inl rfl)) | exact Or.inr (Or.inr (Or.inr rfl)) | exact Or.inr rfl | exact Or.inr (Or.inr rfl)
set_option maxRecDepth 100000 in
set_option maxHeartbeats 4000000 in
theorem qL_agent (l : Launch) (hst : l.stackTraces = false) (D : va_G) (G : CG) (v : S2) (r : R2) (o : Nat) (f : Nat → Int64) (p0 : Int32) (p1 : Int32) (hG : GI D G) (hC : CI G v r) : CXH l D yL_agent cL_agent 5 (some .int) [(0, 10, 13, 19)] 8 154 2 12 (CW D G v r ++ [lng D o f]) [.ref (G.1 0 0), .int p0, .int p1, .ref o] (fun u w => ∃ (kk : Int32) (f' : Nat → Int64), u = some (.int kk) ∧ KC [2] (C_agent (nA G) (nT G) v r p0 p1).1 kk ∧ ((C_agent (nA G) (nT G) v r p0 p1).1 = 0 → f' 0 = (((C_agent (nA G) (nT G) v r p0 p1).2.1).toInt64)) ∧ (((C_agent (nA G) (nT G) v r p0 p1).1 = 0 ∧ w = CW D G (C_agent (nA G) (nT G) v r p0 p1).2.2.1 (C_agent (nA G) (nT G) v r p0 p1).2.2.2 ++ [lng D o f']) ∨ ((C_agent (nA G) (nT G) v r p0 p1).1 ≠ 0 ∧ w = CW D G v r ++ [lng D o f']))) := by
  refine CXH_of [some (.ref (G.1 0 0)), some (.int p0), some (.int p1), some (.ref o), none] hst (by decide +kernel) rfl (Nat.le_of_ble_eq_true rfl) (fun k F hl hD hR hT => ?_)
  subst hl hD
  refine j_aloadn F dL_agent_0 rfl ?_
  refine j_iconst F (v := 0) dL_agent_1 (by decide) ?_
  refine j_aloadn F dL_agent_2 rfl ?_
  refine j_iloadn F dL_agent_3 rfl ?_
  refine j_iloadn F dL_agent_4 rfl ?_
  refine j_cxV F hR.1 (qX3_agent (kl k) hst (kD k) G v r p0 p1 hG hC) lk_L_34 dL_agent_5 ⟨(Nat.le_of_ble_eq_true rfl), (Nat.le_of_ble_eq_true rfl)⟩ 0 rfl rfl rfl (Nat.le_of_ble_eq_true rfl) ⟨(Nat.le_of_ble_eq_true rfl), (Nat.le_of_ble_eq_true rfl)⟩ (fun u w1 hp => ?_) (fun E hE => ?_)
  · obtain ⟨h0, rfl, rfl⟩ := hp
    refine j_i2l F dL_agent_8 ?_
    refine j_perm ([lng (kD k) o f] ++ CW (kD k) G (C_agent (nA G) (nT G) v r p0 p1).2.2.1 (C_agent (nA G) (nT G) v r p0 p1).2.2.2) List.perm_append_comm ?_
    refine j_last F hR.1 dL_agent_9 0 rfl (by unfold vp_in; decide +kernel) ([lng (kD k) o (vp_updL f 0 (((C_agent (nA G) (nT G) v r p0 p1).2.1).toInt64))] ++ CW (kD k) G (C_agent (nA G) (nT G) v r p0 p1).2.2.1 (C_agent (nA G) (nT G) v r p0 p1).2.2.2) rfl ?_
    refine j_perm (CW (kD k) G (C_agent (nA G) (nT G) v r p0 p1).2.2.1 (C_agent (nA G) (nT G) v r p0 p1).2.2.2 ++ [lng (kD k) o (vp_updL f 0 (((C_agent (nA G) (nT G) v r p0 p1).2.1).toInt64))]) List.perm_append_comm ?_
    refine j_goto F (tgt := 17) dL_agent_10 (by decide) ?_
    refine j_iconst F (v := 0) dL_agent_17 (by decide) ?_
    exact j_iret F hR dL_agent_18 (Nat.le_of_ble_eq_true rfl) (Nat.le_of_ble_eq_true rfl) ⟨0, _, rfl, Or.inl ⟨h0, rfl⟩, fun _ => (congrArg (fun z => z) (show vp_updL f 0 (((C_agent (nA G) (nT G) v r p0 p1).2.1).toInt64) 0 = _ from if_pos rfl)), Or.inl ⟨h0, rfl⟩⟩
  · obtain ⟨h0, rfl⟩ := hE
    rcases C_agent_codes (nA G) (nT G) v r p0 p1 with e | e
    · exact absurd e h0
    · rw [e, show xE 2 = eI from by decide]
      refine j_catch F hT [] ⟨0, 10, 13, 19⟩ [] rfl (fun _ hz => absurd hz List.not_mem_nil) (by decide) (by decide) ul_L_19 (by decide) (fun q => ?_)
      refine j_astore F [some (.ref (G.1 0 0)), some (.int p0), some (.int p1), some (.ref o), some (.ref q)] dL_agent_13 rfl rfl rfl ?_
      refine j_iconst F (v := 1) dL_agent_15 (by decide) ?_
      exact j_iret F hR dL_agent_16 (Nat.le_of_ble_eq_true rfl) (Nat.le_of_ble_eq_true rfl) ⟨1, f, rfl, Or.inr ⟨h0, 0, by rw [e]; rfl, rfl⟩, fun z => absurd z h0, Or.inr ⟨h0, rfl⟩⟩
theorem lh_L_109 : LkH RL 109 yL_agent cL_agent 5 (some .int) [(0, 10, 13, 19)] 4 := ⟨um_L_109, ui_L, ud_L_agent, by decide +kernel, us_L_agent⟩
theorem C_all_codes (na nt : Nat) (v : S2) (r : R2) (p0 : Int32) : (C_all na nt v r p0).1 = 0 ∨ (C_all na nt v r p0).1 = 2 := by
  unfold C_all
  repeat' split
  all_goals first | exact Or.inl rfl | exact Or.inr (Or.inl rfl) | exact Or.inr (Or.inr (Or.inl rfl)) | exact Or.inr (Or.inr (Or.inr rfl)) | exact Or.inr rfl | exact Or.inr (Or.inr rfl)
set_option maxRecDepth 100000 in
set_option maxHeartbeats 4000000 in
theorem qL_all (l : Launch) (hst : l.stackTraces = false) (D : va_G) (G : CG) (v : S2) (r : R2) (o : Nat) (f : Nat → Int64) (p0 : Int32) (hG : GI D G) : CXH l D yL_all cL_all 4 (some .int) [(0, 9, 12, 19)] 7 113 1 6 (CW D G v r ++ [lng D o f]) [.ref (G.1 0 0), .int p0, .ref o] (fun u w => ∃ (kk : Int32) (f' : Nat → Int64), u = some (.int kk) ∧ KC [2] (C_all (nA G) (nT G) v r p0).1 kk ∧ ((C_all (nA G) (nT G) v r p0).1 = 0 → f' 0 = (((C_all (nA G) (nT G) v r p0).2.1).toInt64)) ∧ (((C_all (nA G) (nT G) v r p0).1 = 0 ∧ w = CW D G (C_all (nA G) (nT G) v r p0).2.2.1 (C_all (nA G) (nT G) v r p0).2.2.2 ++ [lng D o f']) ∨ ((C_all (nA G) (nT G) v r p0).1 ≠ 0 ∧ w = CW D G v r ++ [lng D o f']))) := by
  refine CXH_of [some (.ref (G.1 0 0)), some (.int p0), some (.ref o), none] hst (by decide +kernel) rfl (Nat.le_of_ble_eq_true rfl) (fun k F hl hD hR hT => ?_)
  subst hl hD
  refine j_aloadn F dL_all_0 rfl ?_
  refine j_iconst F (v := 0) dL_all_1 (by decide) ?_
  refine j_aloadn F dL_all_2 rfl ?_
  refine j_iloadn F dL_all_3 rfl ?_
  refine j_cxV F hR.1 (qX3_all (kl k) hst (kD k) G v r p0 hG) lk_L_74 dL_all_4 ⟨(Nat.le_of_ble_eq_true rfl), (Nat.le_of_ble_eq_true rfl)⟩ 0 rfl rfl rfl (Nat.le_of_ble_eq_true rfl) ⟨(Nat.le_of_ble_eq_true rfl), (Nat.le_of_ble_eq_true rfl)⟩ (fun u w1 hp => ?_) (fun E hE => ?_)
  · obtain ⟨h0, rfl, rfl⟩ := hp
    refine j_i2l F dL_all_7 ?_
    refine j_perm ([lng (kD k) o f] ++ CW (kD k) G (C_all (nA G) (nT G) v r p0).2.2.1 (C_all (nA G) (nT G) v r p0).2.2.2) List.perm_append_comm ?_
    refine j_last F hR.1 dL_all_8 0 rfl (by unfold vp_in; decide +kernel) ([lng (kD k) o (vp_updL f 0 (((C_all (nA G) (nT G) v r p0).2.1).toInt64))] ++ CW (kD k) G (C_all (nA G) (nT G) v r p0).2.2.1 (C_all (nA G) (nT G) v r p0).2.2.2) rfl ?_
    refine j_perm (CW (kD k) G (C_all (nA G) (nT G) v r p0).2.2.1 (C_all (nA G) (nT G) v r p0).2.2.2 ++ [lng (kD k) o (vp_updL f 0 (((C_all (nA G) (nT G) v r p0).2.1).toInt64))]) List.perm_append_comm ?_
    refine j_goto F (tgt := 15) dL_all_9 (by decide) ?_
    refine j_iconst F (v := 0) dL_all_15 (by decide) ?_
    exact j_iret F hR dL_all_16 (Nat.le_of_ble_eq_true rfl) (Nat.le_of_ble_eq_true rfl) ⟨0, _, rfl, Or.inl ⟨h0, rfl⟩, fun _ => (congrArg (fun z => z) (show vp_updL f 0 (((C_all (nA G) (nT G) v r p0).2.1).toInt64) 0 = _ from if_pos rfl)), Or.inl ⟨h0, rfl⟩⟩
  · obtain ⟨h0, rfl⟩ := hE
    rcases C_all_codes (nA G) (nT G) v r p0 with e | e
    · exact absurd e h0
    · rw [e, show xE 2 = eI from by decide]
      refine j_catch F hT [] ⟨0, 9, 12, 19⟩ [] rfl (fun _ hz => absurd hz List.not_mem_nil) (by decide) (by decide) ul_L_19 (by decide) (fun q => ?_)
      refine j_astoren F [some (.ref (G.1 0 0)), some (.int p0), some (.ref o), some (.ref q)] dL_all_12 rfl rfl rfl ?_
      refine j_iconst F (v := 1) dL_all_13 (by decide) ?_
      exact j_iret F hR dL_all_14 (Nat.le_of_ble_eq_true rfl) (Nat.le_of_ble_eq_true rfl) ⟨1, f, rfl, Or.inr ⟨h0, 0, by rw [e]; rfl, rfl⟩, fun z => absurd z h0, Or.inr ⟨h0, rfl⟩⟩
theorem lh_L_153 : LkH RL 153 yL_all cL_all 4 (some .int) [(0, 9, 12, 19)] 3 := ⟨um_L_153, ui_L, ud_L_all, by decide +kernel, us_L_all⟩
theorem C_customers_codes (na nt : Nat) (v : S2) (r : R2) (p0 : Int32) : (C_customers na nt v r p0).1 = 0 ∨ (C_customers na nt v r p0).1 = 2 := by
  unfold C_customers
  repeat' split
  all_goals first | exact Or.inl rfl | exact Or.inr (Or.inl rfl) | exact Or.inr (Or.inr (Or.inl rfl)) | exact Or.inr (Or.inr (Or.inr rfl)) | exact Or.inr rfl | exact Or.inr (Or.inr rfl)
set_option maxRecDepth 100000 in
set_option maxHeartbeats 4000000 in
theorem qL_customers (l : Launch) (hst : l.stackTraces = false) (D : va_G) (G : CG) (v : S2) (r : R2) (o : Nat) (f : Nat → Int64) (p0 : Int32) (hG : GI D G) : CXH l D yL_customers cL_customers 4 (some .int) [(0, 9, 12, 19)] 8 152 1 6 (CW D G v r ++ [lng D o f]) [.ref (G.1 0 0), .int p0, .ref o] (fun u w => ∃ (kk : Int32) (f' : Nat → Int64), u = some (.int kk) ∧ KC [2] (C_customers (nA G) (nT G) v r p0).1 kk ∧ ((C_customers (nA G) (nT G) v r p0).1 = 0 → f' 0 = (((C_customers (nA G) (nT G) v r p0).2.1).toInt64)) ∧ (((C_customers (nA G) (nT G) v r p0).1 = 0 ∧ w = CW D G (C_customers (nA G) (nT G) v r p0).2.2.1 (C_customers (nA G) (nT G) v r p0).2.2.2 ++ [lng D o f']) ∨ ((C_customers (nA G) (nT G) v r p0).1 ≠ 0 ∧ w = CW D G v r ++ [lng D o f']))) := by
  refine CXH_of [some (.ref (G.1 0 0)), some (.int p0), some (.ref o), none] hst (by decide +kernel) rfl (Nat.le_of_ble_eq_true rfl) (fun k F hl hD hR hT => ?_)
  subst hl hD
  refine j_aloadn F dL_customers_0 rfl ?_
  refine j_iconst F (v := 0) dL_customers_1 (by decide) ?_
  refine j_aloadn F dL_customers_2 rfl ?_
  refine j_iloadn F dL_customers_3 rfl ?_
  refine j_cxV F hR.1 (qX3_customers (kl k) hst (kD k) G v r p0 hG) lk_L_65 dL_customers_4 ⟨(Nat.le_of_ble_eq_true rfl), (Nat.le_of_ble_eq_true rfl)⟩ 0 rfl rfl rfl (Nat.le_of_ble_eq_true rfl) ⟨(Nat.le_of_ble_eq_true rfl), (Nat.le_of_ble_eq_true rfl)⟩ (fun u w1 hp => ?_) (fun E hE => ?_)
  · obtain ⟨h0, rfl, rfl⟩ := hp
    refine j_i2l F dL_customers_7 ?_
    refine j_perm ([lng (kD k) o f] ++ CW (kD k) G (C_customers (nA G) (nT G) v r p0).2.2.1 (C_customers (nA G) (nT G) v r p0).2.2.2) List.perm_append_comm ?_
    refine j_last F hR.1 dL_customers_8 0 rfl (by unfold vp_in; decide +kernel) ([lng (kD k) o (vp_updL f 0 (((C_customers (nA G) (nT G) v r p0).2.1).toInt64))] ++ CW (kD k) G (C_customers (nA G) (nT G) v r p0).2.2.1 (C_customers (nA G) (nT G) v r p0).2.2.2) rfl ?_
    refine j_perm (CW (kD k) G (C_customers (nA G) (nT G) v r p0).2.2.1 (C_customers (nA G) (nT G) v r p0).2.2.2 ++ [lng (kD k) o (vp_updL f 0 (((C_customers (nA G) (nT G) v r p0).2.1).toInt64))]) List.perm_append_comm ?_
    refine j_goto F (tgt := 15) dL_customers_9 (by decide) ?_
    refine j_iconst F (v := 0) dL_customers_15 (by decide) ?_
    exact j_iret F hR dL_customers_16 (Nat.le_of_ble_eq_true rfl) (Nat.le_of_ble_eq_true rfl) ⟨0, _, rfl, Or.inl ⟨h0, rfl⟩, fun _ => (congrArg (fun z => z) (show vp_updL f 0 (((C_customers (nA G) (nT G) v r p0).2.1).toInt64) 0 = _ from if_pos rfl)), Or.inl ⟨h0, rfl⟩⟩
  · obtain ⟨h0, rfl⟩ := hE
    rcases C_customers_codes (nA G) (nT G) v r p0 with e | e
    · exact absurd e h0
    · rw [e, show xE 2 = eI from by decide]
      refine j_catch F hT [] ⟨0, 9, 12, 19⟩ [] rfl (fun _ hz => absurd hz List.not_mem_nil) (by decide) (by decide) ul_L_19 (by decide) (fun q => ?_)
      refine j_astoren F [some (.ref (G.1 0 0)), some (.int p0), some (.ref o), some (.ref q)] dL_customers_12 rfl rfl rfl ?_
      refine j_iconst F (v := 1) dL_customers_13 (by decide) ?_
      exact j_iret F hR dL_customers_14 (Nat.le_of_ble_eq_true rfl) (Nat.le_of_ble_eq_true rfl) ⟨1, f, rfl, Or.inr ⟨h0, 0, by rw [e]; rfl, rfl⟩, fun z => absurd z h0, Or.inr ⟨h0, rfl⟩⟩
theorem lh_L_144 : LkH RL 144 yL_customers cL_customers 4 (some .int) [(0, 9, 12, 19)] 3 := ⟨um_L_144, ui_L, ud_L_customers, by decide +kernel, us_L_customers⟩
theorem C_due_codes (na nt : Nat) (v : S2) (r : R2) (p0 : Int32) : (C_due na nt v r p0).1 = 0 ∨ (C_due na nt v r p0).1 = 2 := by
  unfold C_due
  repeat' split
  all_goals first | exact Or.inl rfl | exact Or.inr (Or.inl rfl) | exact Or.inr (Or.inr (Or.inl rfl)) | exact Or.inr (Or.inr (Or.inr rfl)) | exact Or.inr rfl | exact Or.inr (Or.inr rfl)
set_option maxRecDepth 100000 in
set_option maxHeartbeats 4000000 in
theorem qL_due (l : Launch) (hst : l.stackTraces = false) (D : va_G) (G : CG) (v : S2) (r : R2) (o : Nat) (f : Nat → Int64) (p0 : Int32) (hG : GI D G) (hC : CI G v r) (hM : vp_in (v 0 0) 100001) : CXH l D yL_due cL_due 4 (some .int) [(0, 9, 12, 19)] 8 154 1 6 (CW D G v r ++ [lng D o f]) [.ref (G.1 0 0), .int p0, .ref o] (fun u w => ∃ (kk : Int32) (f' : Nat → Int64), u = some (.int kk) ∧ KC [2] (C_due (nA G) (nT G) v r p0).1 kk ∧ ((C_due (nA G) (nT G) v r p0).1 = 0 → f' 0 = (((C_due (nA G) (nT G) v r p0).2.1).toInt64)) ∧ (((C_due (nA G) (nT G) v r p0).1 = 0 ∧ w = CW D G (C_due (nA G) (nT G) v r p0).2.2.1 (C_due (nA G) (nT G) v r p0).2.2.2 ++ [lng D o f']) ∨ ((C_due (nA G) (nT G) v r p0).1 ≠ 0 ∧ w = CW D G v r ++ [lng D o f']))) := by
  refine CXH_of [some (.ref (G.1 0 0)), some (.int p0), some (.ref o), none] hst (by decide +kernel) rfl (Nat.le_of_ble_eq_true rfl) (fun k F hl hD hR hT => ?_)
  subst hl hD
  refine j_aloadn F dL_due_0 rfl ?_
  refine j_iconst F (v := 0) dL_due_1 (by decide) ?_
  refine j_aloadn F dL_due_2 rfl ?_
  refine j_iloadn F dL_due_3 rfl ?_
  refine j_cxV F hR.1 (qX3_due (kl k) hst (kD k) G v r p0 hG hC hM) lk_L_68 dL_due_4 ⟨(Nat.le_of_ble_eq_true rfl), (Nat.le_of_ble_eq_true rfl)⟩ 0 rfl rfl rfl (Nat.le_of_ble_eq_true rfl) ⟨(Nat.le_of_ble_eq_true rfl), (Nat.le_of_ble_eq_true rfl)⟩ (fun u w1 hp => ?_) (fun E hE => ?_)
  · obtain ⟨h0, rfl, rfl⟩ := hp
    refine j_i2l F dL_due_7 ?_
    refine j_perm ([lng (kD k) o f] ++ CW (kD k) G (C_due (nA G) (nT G) v r p0).2.2.1 (C_due (nA G) (nT G) v r p0).2.2.2) List.perm_append_comm ?_
    refine j_last F hR.1 dL_due_8 0 rfl (by unfold vp_in; decide +kernel) ([lng (kD k) o (vp_updL f 0 (((C_due (nA G) (nT G) v r p0).2.1).toInt64))] ++ CW (kD k) G (C_due (nA G) (nT G) v r p0).2.2.1 (C_due (nA G) (nT G) v r p0).2.2.2) rfl ?_
    refine j_perm (CW (kD k) G (C_due (nA G) (nT G) v r p0).2.2.1 (C_due (nA G) (nT G) v r p0).2.2.2 ++ [lng (kD k) o (vp_updL f 0 (((C_due (nA G) (nT G) v r p0).2.1).toInt64))]) List.perm_append_comm ?_
    refine j_goto F (tgt := 15) dL_due_9 (by decide) ?_
    refine j_iconst F (v := 0) dL_due_15 (by decide) ?_
    exact j_iret F hR dL_due_16 (Nat.le_of_ble_eq_true rfl) (Nat.le_of_ble_eq_true rfl) ⟨0, _, rfl, Or.inl ⟨h0, rfl⟩, fun _ => (congrArg (fun z => z) (show vp_updL f 0 (((C_due (nA G) (nT G) v r p0).2.1).toInt64) 0 = _ from if_pos rfl)), Or.inl ⟨h0, rfl⟩⟩
  · obtain ⟨h0, rfl⟩ := hE
    rcases C_due_codes (nA G) (nT G) v r p0 with e | e
    · exact absurd e h0
    · rw [e, show xE 2 = eI from by decide]
      refine j_catch F hT [] ⟨0, 9, 12, 19⟩ [] rfl (fun _ hz => absurd hz List.not_mem_nil) (by decide) (by decide) ul_L_19 (by decide) (fun q => ?_)
      refine j_astoren F [some (.ref (G.1 0 0)), some (.int p0), some (.ref o), some (.ref q)] dL_due_12 rfl rfl rfl ?_
      refine j_iconst F (v := 1) dL_due_13 (by decide) ?_
      exact j_iret F hR dL_due_14 (Nat.le_of_ble_eq_true rfl) (Nat.le_of_ble_eq_true rfl) ⟨1, f, rfl, Or.inr ⟨h0, 0, by rw [e]; rfl, rfl⟩, fun z => absurd z h0, Or.inr ⟨h0, rfl⟩⟩
theorem lh_L_147 : LkH RL 147 yL_due cL_due 4 (some .int) [(0, 9, 12, 19)] 3 := ⟨um_L_147, ui_L, ud_L_due, by decide +kernel, us_L_due⟩
theorem C_main_codes (na nt : Nat) (v : S2) (r : R2) (p0 : Int32) : (C_main na nt v r p0).1 = 0 ∨ (C_main na nt v r p0).1 = 2 := by
  unfold C_main
  repeat' split
  all_goals first | exact Or.inl rfl | exact Or.inr (Or.inl rfl) | exact Or.inr (Or.inr (Or.inl rfl)) | exact Or.inr (Or.inr (Or.inr rfl)) | exact Or.inr rfl | exact Or.inr (Or.inr rfl)
set_option maxRecDepth 100000 in
set_option maxHeartbeats 4000000 in
theorem qL_main (l : Launch) (hst : l.stackTraces = false) (D : va_G) (G : CG) (v : S2) (r : R2) (o : Nat) (f : Nat → Int64) (p0 : Int32) (hG : GI D G) (hC : CI G v r) : CXH l D yL_main cL_main 4 (some .int) [(0, 9, 12, 19)] 8 152 1 6 (CW D G v r ++ [lng D o f]) [.ref (G.1 0 0), .int p0, .ref o] (fun u w => ∃ (kk : Int32) (f' : Nat → Int64), u = some (.int kk) ∧ KC [2] (C_main (nA G) (nT G) v r p0).1 kk ∧ ((C_main (nA G) (nT G) v r p0).1 = 0 → f' 0 = (((C_main (nA G) (nT G) v r p0).2.1).toInt64)) ∧ (((C_main (nA G) (nT G) v r p0).1 = 0 ∧ w = CW D G (C_main (nA G) (nT G) v r p0).2.2.1 (C_main (nA G) (nT G) v r p0).2.2.2 ++ [lng D o f']) ∨ ((C_main (nA G) (nT G) v r p0).1 ≠ 0 ∧ w = CW D G v r ++ [lng D o f']))) := by
  refine CXH_of [some (.ref (G.1 0 0)), some (.int p0), some (.ref o), none] hst (by decide +kernel) rfl (Nat.le_of_ble_eq_true rfl) (fun k F hl hD hR hT => ?_)
  subst hl hD
  refine j_aloadn F dL_main_0 rfl ?_
  refine j_iconst F (v := 0) dL_main_1 (by decide) ?_
  refine j_aloadn F dL_main_2 rfl ?_
  refine j_iloadn F dL_main_3 rfl ?_
  refine j_cxV F hR.1 (qX3_main (kl k) hst (kD k) G v r p0 hG hC) lk_L_62 dL_main_4 ⟨(Nat.le_of_ble_eq_true rfl), (Nat.le_of_ble_eq_true rfl)⟩ 0 rfl rfl rfl (Nat.le_of_ble_eq_true rfl) ⟨(Nat.le_of_ble_eq_true rfl), (Nat.le_of_ble_eq_true rfl)⟩ (fun u w1 hp => ?_) (fun E hE => ?_)
  · obtain ⟨h0, rfl, rfl⟩ := hp
    refine j_i2l F dL_main_7 ?_
    refine j_perm ([lng (kD k) o f] ++ CW (kD k) G (C_main (nA G) (nT G) v r p0).2.2.1 (C_main (nA G) (nT G) v r p0).2.2.2) List.perm_append_comm ?_
    refine j_last F hR.1 dL_main_8 0 rfl (by unfold vp_in; decide +kernel) ([lng (kD k) o (vp_updL f 0 (((C_main (nA G) (nT G) v r p0).2.1).toInt64))] ++ CW (kD k) G (C_main (nA G) (nT G) v r p0).2.2.1 (C_main (nA G) (nT G) v r p0).2.2.2) rfl ?_
    refine j_perm (CW (kD k) G (C_main (nA G) (nT G) v r p0).2.2.1 (C_main (nA G) (nT G) v r p0).2.2.2 ++ [lng (kD k) o (vp_updL f 0 (((C_main (nA G) (nT G) v r p0).2.1).toInt64))]) List.perm_append_comm ?_
    refine j_goto F (tgt := 15) dL_main_9 (by decide) ?_
    refine j_iconst F (v := 0) dL_main_15 (by decide) ?_
    exact j_iret F hR dL_main_16 (Nat.le_of_ble_eq_true rfl) (Nat.le_of_ble_eq_true rfl) ⟨0, _, rfl, Or.inl ⟨h0, rfl⟩, fun _ => (congrArg (fun z => z) (show vp_updL f 0 (((C_main (nA G) (nT G) v r p0).2.1).toInt64) 0 = _ from if_pos rfl)), Or.inl ⟨h0, rfl⟩⟩
  · obtain ⟨h0, rfl⟩ := hE
    rcases C_main_codes (nA G) (nT G) v r p0 with e | e
    · exact absurd e h0
    · rw [e, show xE 2 = eI from by decide]
      refine j_catch F hT [] ⟨0, 9, 12, 19⟩ [] rfl (fun _ hz => absurd hz List.not_mem_nil) (by decide) (by decide) ul_L_19 (by decide) (fun q => ?_)
      refine j_astoren F [some (.ref (G.1 0 0)), some (.int p0), some (.ref o), some (.ref q)] dL_main_12 rfl rfl rfl ?_
      refine j_iconst F (v := 1) dL_main_13 (by decide) ?_
      exact j_iret F hR dL_main_14 (Nat.le_of_ble_eq_true rfl) (Nat.le_of_ble_eq_true rfl) ⟨1, f, rfl, Or.inr ⟨h0, 0, by rw [e]; rfl, rfl⟩, fun z => absurd z h0, Or.inr ⟨h0, rfl⟩⟩
theorem lh_L_141 : LkH RL 141 yL_main cL_main 4 (some .int) [(0, 9, 12, 19)] 3 := ⟨um_L_141, ui_L, ud_L_main, by decide +kernel, us_L_main⟩
theorem C_merge_codes (na nt : Nat) (v : S2) (r : R2) (p0 : Int32) (p1 : Int32) : (C_merge na nt v r p0 p1).1 = 0 ∨ (C_merge na nt v r p0 p1).1 = 2 ∨ (C_merge na nt v r p0 p1).1 = 1 ∨ (C_merge na nt v r p0 p1).1 = 3 := by
  unfold C_merge
  repeat' split
  all_goals first | exact Or.inl rfl | exact Or.inr (Or.inl rfl) | exact Or.inr (Or.inr (Or.inl rfl)) | exact Or.inr (Or.inr (Or.inr rfl)) | exact Or.inr rfl | exact Or.inr (Or.inr rfl)
set_option maxRecDepth 100000 in
set_option maxHeartbeats 4000000 in
theorem qL_merge (l : Launch) (hst : l.stackTraces = false) (D : va_G) (G : CG) (v : S2) (r : R2) (o : Nat) (f : Nat → Int64) (p0 : Int32) (p1 : Int32) (hG : GI D G) (hC : CI G v r) : CXH l D yL_merge cL_merge 5 (some .int) [(0, 10, 13, 19), (0, 10, 17, 13), (0, 10, 21, 29)] 8 155 3 18 (CW D G v r ++ [lng D o f]) [.ref (G.1 0 0), .int p0, .int p1, .ref o] (fun u w => ∃ (kk : Int32) (f' : Nat → Int64), u = some (.int kk) ∧ KC [2, 1, 3] (C_merge (nA G) (nT G) v r p0 p1).1 kk ∧ ((C_merge (nA G) (nT G) v r p0 p1).1 = 0 → f' 0 = (((C_merge (nA G) (nT G) v r p0 p1).2.1).toInt64)) ∧ (((C_merge (nA G) (nT G) v r p0 p1).1 = 0 ∧ w = CW D G (C_merge (nA G) (nT G) v r p0 p1).2.2.1 (C_merge (nA G) (nT G) v r p0 p1).2.2.2 ++ [lng D o f']) ∨ ((C_merge (nA G) (nT G) v r p0 p1).1 ≠ 0 ∧ w = CW D G v r ++ [lng D o f']))) := by
  refine CXH_of [some (.ref (G.1 0 0)), some (.int p0), some (.int p1), some (.ref o), none] hst (by decide +kernel) rfl (Nat.le_of_ble_eq_true rfl) (fun k F hl hD hR hT => ?_)
  subst hl hD
  refine j_aloadn F dL_merge_0 rfl ?_
  refine j_iconst F (v := 0) dL_merge_1 (by decide) ?_
  refine j_aloadn F dL_merge_2 rfl ?_
  refine j_iloadn F dL_merge_3 rfl ?_
  refine j_iloadn F dL_merge_4 rfl ?_
  refine j_cxV F hR.1 (qX3_merge (kl k) hst (kD k) G v r p0 p1 hG hC) lk_L_53 dL_merge_5 ⟨(Nat.le_of_ble_eq_true rfl), (Nat.le_of_ble_eq_true rfl)⟩ 0 rfl rfl rfl (Nat.le_of_ble_eq_true rfl) ⟨(Nat.le_of_ble_eq_true rfl), (Nat.le_of_ble_eq_true rfl)⟩ (fun u w1 hp => ?_) (fun E hE => ?_)
  · obtain ⟨h0, rfl, rfl⟩ := hp
    refine j_i2l F dL_merge_8 ?_
    refine j_perm ([lng (kD k) o f] ++ CW (kD k) G (C_merge (nA G) (nT G) v r p0 p1).2.2.1 (C_merge (nA G) (nT G) v r p0 p1).2.2.2) List.perm_append_comm ?_
    refine j_last F hR.1 dL_merge_9 0 rfl (by unfold vp_in; decide +kernel) ([lng (kD k) o (vp_updL f 0 (((C_merge (nA G) (nT G) v r p0 p1).2.1).toInt64))] ++ CW (kD k) G (C_merge (nA G) (nT G) v r p0 p1).2.2.1 (C_merge (nA G) (nT G) v r p0 p1).2.2.2) rfl ?_
    refine j_perm (CW (kD k) G (C_merge (nA G) (nT G) v r p0 p1).2.2.1 (C_merge (nA G) (nT G) v r p0 p1).2.2.2 ++ [lng (kD k) o (vp_updL f 0 (((C_merge (nA G) (nT G) v r p0 p1).2.1).toInt64))]) List.perm_append_comm ?_
    refine j_goto F (tgt := 25) dL_merge_10 (by decide) ?_
    refine j_iconst F (v := 0) dL_merge_25 (by decide) ?_
    exact j_iret F hR dL_merge_26 (Nat.le_of_ble_eq_true rfl) (Nat.le_of_ble_eq_true rfl) ⟨0, _, rfl, Or.inl ⟨h0, rfl⟩, fun _ => (congrArg (fun z => z) (show vp_updL f 0 (((C_merge (nA G) (nT G) v r p0 p1).2.1).toInt64) 0 = _ from if_pos rfl)), Or.inl ⟨h0, rfl⟩⟩
  · obtain ⟨h0, rfl⟩ := hE
    rcases C_merge_codes (nA G) (nT G) v r p0 p1 with e | e | e | e
    · exact absurd e h0
    · rw [e, show xE 2 = eI from by decide]
      refine j_catch F hT [] ⟨0, 10, 13, 19⟩ [⟨0, 10, 17, 13⟩, ⟨0, 10, 21, 29⟩] rfl (fun _ hz => absurd hz List.not_mem_nil) (by decide) (by decide) ul_L_19 (by decide) (fun q => ?_)
      refine j_astore F [some (.ref (G.1 0 0)), some (.int p0), some (.int p1), some (.ref o), some (.ref q)] dL_merge_13 rfl rfl rfl ?_
      refine j_iconst F (v := 1) dL_merge_15 (by decide) ?_
      exact j_iret F hR dL_merge_16 (Nat.le_of_ble_eq_true rfl) (Nat.le_of_ble_eq_true rfl) ⟨1, f, rfl, Or.inr ⟨h0, 0, by rw [e]; rfl, rfl⟩, fun z => absurd z h0, Or.inr ⟨h0, rfl⟩⟩
    · rw [e, show xE 1 = eA from by decide]
      refine j_catch F hT [⟨0, 10, 13, 19⟩] ⟨0, 10, 17, 13⟩ [⟨0, 10, 21, 29⟩] rfl (fun z hz => ?_) (by decide) (by decide) ul_L_13 (by decide) (fun q => ?_)
      · simp only [List.mem_cons, List.not_mem_nil, or_false] at hz
        subst hz
        exact Or.inr ⟨(by decide), _, ul_L_19, (by decide)⟩
      refine j_astore F [some (.ref (G.1 0 0)), some (.int p0), some (.int p1), some (.ref o), some (.ref q)] dL_merge_17 rfl rfl rfl ?_
      refine j_iconst F (v := 2) dL_merge_19 (by decide) ?_
      exact j_iret F hR dL_merge_20 (Nat.le_of_ble_eq_true rfl) (Nat.le_of_ble_eq_true rfl) ⟨2, f, rfl, Or.inr ⟨h0, 1, by rw [e]; rfl, rfl⟩, fun z => absurd z h0, Or.inr ⟨h0, rfl⟩⟩
    · rw [e, show xE 3 = eS from by decide]
      refine j_catch F hT [⟨0, 10, 13, 19⟩, ⟨0, 10, 17, 13⟩] ⟨0, 10, 21, 29⟩ [] rfl (fun z hz => ?_) (by decide) (by decide) ul_L_29 (by decide) (fun q => ?_)
      · simp only [List.mem_cons, List.not_mem_nil, or_false] at hz
        rcases hz with rfl | rfl
        · exact Or.inr ⟨(by decide), _, ul_L_19, (by decide)⟩
        · exact Or.inr ⟨(by decide), _, ul_L_13, (by decide)⟩
      refine j_astore F [some (.ref (G.1 0 0)), some (.int p0), some (.int p1), some (.ref o), some (.ref q)] dL_merge_21 rfl rfl rfl ?_
      refine j_iconst F (v := 3) dL_merge_23 (by decide) ?_
      exact j_iret F hR dL_merge_24 (Nat.le_of_ble_eq_true rfl) (Nat.le_of_ble_eq_true rfl) ⟨3, f, rfl, Or.inr ⟨h0, 2, by rw [e]; rfl, rfl⟩, fun z => absurd z h0, Or.inr ⟨h0, rfl⟩⟩
theorem lh_L_128 : LkH RL 128 yL_merge cL_merge 5 (some .int) [(0, 10, 13, 19), (0, 10, 17, 13), (0, 10, 21, 29)] 4 := ⟨um_L_128, ui_L, ud_L_merge, by decide +kernel, us_L_merge⟩
theorem C_next_codes (na nt : Nat) (v : S2) (r : R2) (p0 : Int32) : (C_next na nt v r p0).1 = 0 ∨ (C_next na nt v r p0).1 = 2 := by
  unfold C_next
  repeat' split
  all_goals first | exact Or.inl rfl | exact Or.inr (Or.inl rfl) | exact Or.inr (Or.inr (Or.inl rfl)) | exact Or.inr (Or.inr (Or.inr rfl)) | exact Or.inr rfl | exact Or.inr (Or.inr rfl)
set_option maxRecDepth 100000 in
set_option maxHeartbeats 4000000 in
theorem qL_next (l : Launch) (hst : l.stackTraces = false) (D : va_G) (G : CG) (v : S2) (r : R2) (o : Nat) (f : Nat → Int64) (p0 : Int32) (hG : GI D G) (hC : CI G v r) : CXH l D yL_next cL_next 4 (some .int) [(0, 9, 12, 19)] 8 152 1 6 (CW D G v r ++ [lng D o f]) [.ref (G.1 0 0), .int p0, .ref o] (fun u w => ∃ (kk : Int32) (f' : Nat → Int64), u = some (.int kk) ∧ KC [2] (C_next (nA G) (nT G) v r p0).1 kk ∧ ((C_next (nA G) (nT G) v r p0).1 = 0 → f' 0 = (((C_next (nA G) (nT G) v r p0).2.1).toInt64)) ∧ (((C_next (nA G) (nT G) v r p0).1 = 0 ∧ w = CW D G (C_next (nA G) (nT G) v r p0).2.2.1 (C_next (nA G) (nT G) v r p0).2.2.2 ++ [lng D o f']) ∨ ((C_next (nA G) (nT G) v r p0).1 ≠ 0 ∧ w = CW D G v r ++ [lng D o f']))) := by
  refine CXH_of [some (.ref (G.1 0 0)), some (.int p0), some (.ref o), none] hst (by decide +kernel) rfl (Nat.le_of_ble_eq_true rfl) (fun k F hl hD hR hT => ?_)
  subst hl hD
  refine j_aloadn F dL_next_0 rfl ?_
  refine j_iconst F (v := 0) dL_next_1 (by decide) ?_
  refine j_aloadn F dL_next_2 rfl ?_
  refine j_iloadn F dL_next_3 rfl ?_
  refine j_cxV F hR.1 (qX3_next (kl k) hst (kD k) G v r p0 hG hC) lk_L_37 dL_next_4 ⟨(Nat.le_of_ble_eq_true rfl), (Nat.le_of_ble_eq_true rfl)⟩ 0 rfl rfl rfl (Nat.le_of_ble_eq_true rfl) ⟨(Nat.le_of_ble_eq_true rfl), (Nat.le_of_ble_eq_true rfl)⟩ (fun u w1 hp => ?_) (fun E hE => ?_)
  · obtain ⟨h0, rfl, rfl⟩ := hp
    refine j_i2l F dL_next_7 ?_
    refine j_perm ([lng (kD k) o f] ++ CW (kD k) G (C_next (nA G) (nT G) v r p0).2.2.1 (C_next (nA G) (nT G) v r p0).2.2.2) List.perm_append_comm ?_
    refine j_last F hR.1 dL_next_8 0 rfl (by unfold vp_in; decide +kernel) ([lng (kD k) o (vp_updL f 0 (((C_next (nA G) (nT G) v r p0).2.1).toInt64))] ++ CW (kD k) G (C_next (nA G) (nT G) v r p0).2.2.1 (C_next (nA G) (nT G) v r p0).2.2.2) rfl ?_
    refine j_perm (CW (kD k) G (C_next (nA G) (nT G) v r p0).2.2.1 (C_next (nA G) (nT G) v r p0).2.2.2 ++ [lng (kD k) o (vp_updL f 0 (((C_next (nA G) (nT G) v r p0).2.1).toInt64))]) List.perm_append_comm ?_
    refine j_goto F (tgt := 15) dL_next_9 (by decide) ?_
    refine j_iconst F (v := 0) dL_next_15 (by decide) ?_
    exact j_iret F hR dL_next_16 (Nat.le_of_ble_eq_true rfl) (Nat.le_of_ble_eq_true rfl) ⟨0, _, rfl, Or.inl ⟨h0, rfl⟩, fun _ => (congrArg (fun z => z) (show vp_updL f 0 (((C_next (nA G) (nT G) v r p0).2.1).toInt64) 0 = _ from if_pos rfl)), Or.inl ⟨h0, rfl⟩⟩
  · obtain ⟨h0, rfl⟩ := hE
    rcases C_next_codes (nA G) (nT G) v r p0 with e | e
    · exact absurd e h0
    · rw [e, show xE 2 = eI from by decide]
      refine j_catch F hT [] ⟨0, 9, 12, 19⟩ [] rfl (fun _ hz => absurd hz List.not_mem_nil) (by decide) (by decide) ul_L_19 (by decide) (fun q => ?_)
      refine j_astoren F [some (.ref (G.1 0 0)), some (.int p0), some (.ref o), some (.ref q)] dL_next_12 rfl rfl rfl ?_
      refine j_iconst F (v := 1) dL_next_13 (by decide) ?_
      exact j_iret F hR dL_next_14 (Nat.le_of_ble_eq_true rfl) (Nat.le_of_ble_eq_true rfl) ⟨1, f, rfl, Or.inr ⟨h0, 0, by rw [e]; rfl, rfl⟩, fun z => absurd z h0, Or.inr ⟨h0, rfl⟩⟩
theorem lh_L_112 : LkH RL 112 yL_next cL_next 4 (some .int) [(0, 9, 12, 19)] 3 := ⟨um_L_112, ui_L, ud_L_next, by decide +kernel, us_L_next⟩
theorem C_open_codes (na nt : Nat) (v : S2) (r : R2) (p0 : Int32) (p1 : Int32) (p2 : Int32) (p3 : Int32) : (C_open na nt v r p0 p1 p2 p3).1 = 0 ∨ (C_open na nt v r p0 p1 p2 p3).1 = 1 ∨ (C_open na nt v r p0 p1 p2 p3).1 = 3 := by
  unfold C_open
  repeat' split
  all_goals first | exact Or.inl rfl | exact Or.inr (Or.inl rfl) | exact Or.inr (Or.inr (Or.inl rfl)) | exact Or.inr (Or.inr (Or.inr rfl)) | exact Or.inr rfl | exact Or.inr (Or.inr rfl)
set_option maxRecDepth 100000 in
set_option maxHeartbeats 4000000 in
theorem qL_open (l : Launch) (hst : l.stackTraces = false) (D : va_G) (G : CG) (v : S2) (r : R2) (o : Nat) (f : Nat → Int64) (p0 : Int32) (p1 : Int32) (p2 : Int32) (p3 : Int32) (hG : GI D G) (hC : CI G v r) : CXH l D yL_open cL_open 7 (some .int) [(0, 14, 17, 13), (0, 14, 21, 29)] 8 226 2 45 (CW D G v r ++ [lng D o f]) [.ref (G.1 0 0), .int p0, .int p1, .int p2, .int p3, .ref o] (fun u w => ∃ (kk : Int32) (f' : Nat → Int64), u = some (.int kk) ∧ KC [1, 3] (C_open (nA G) (nT G) v r p0 p1 p2 p3).1 kk ∧ ((C_open (nA G) (nT G) v r p0 p1 p2 p3).1 = 0 → f' 0 = (((C_open (nA G) (nT G) v r p0 p1 p2 p3).2.1).toInt64)) ∧ (((C_open (nA G) (nT G) v r p0 p1 p2 p3).1 = 0 ∧ ∃ G', Gx D G G' 0 1 ∧ w = CW D G' (C_open (nA G) (nT G) v r p0 p1 p2 p3).2.2.1 (C_open (nA G) (nT G) v r p0 p1 p2 p3).2.2.2 ++ [lng D o f']) ∨ ((C_open (nA G) (nT G) v r p0 p1 p2 p3).1 ≠ 0 ∧ w = CW D G v r ++ [lng D o f']))) := by
  refine CXH_of [some (.ref (G.1 0 0)), some (.int p0), some (.int p1), some (.int p2), some (.int p3), some (.ref o), none] hst (by decide +kernel) rfl (Nat.le_of_ble_eq_true rfl) (fun k F hl hD hR hT => ?_)
  subst hl hD
  refine j_aload F dL_open_0 rfl ?_
  refine j_iconst F (v := 0) dL_open_2 (by decide) ?_
  refine j_aloadn F dL_open_3 rfl ?_
  refine j_iloadn F dL_open_4 rfl ?_
  refine j_iloadn F dL_open_5 rfl ?_
  refine j_iloadn F dL_open_6 rfl ?_
  refine j_iload F dL_open_7 rfl ?_
  refine j_cxV F hR.1 (qX3_open (kl k) hst (kD k) G v r p0 p1 p2 p3 hG hC) lk_L_41 dL_open_9 ⟨(Nat.le_of_ble_eq_true rfl), (Nat.le_of_ble_eq_true rfl)⟩ 0 rfl rfl rfl (Nat.le_of_ble_eq_true rfl) ⟨(Nat.le_of_ble_eq_true rfl), (Nat.le_of_ble_eq_true rfl)⟩ (fun u w1 hp => ?_) (fun E hE => ?_)
  · obtain ⟨h0, G', hx, rfl, rfl⟩ := hp
    refine j_i2l F dL_open_12 ?_
    refine j_perm ([lng (kD k) o f] ++ CW (kD k) G' (C_open (nA G) (nT G) v r p0 p1 p2 p3).2.2.1 (C_open (nA G) (nT G) v r p0 p1 p2 p3).2.2.2) List.perm_append_comm ?_
    refine j_last F hR.1 dL_open_13 0 rfl (by unfold vp_in; decide +kernel) ([lng (kD k) o (vp_updL f 0 (((C_open (nA G) (nT G) v r p0 p1 p2 p3).2.1).toInt64))] ++ CW (kD k) G' (C_open (nA G) (nT G) v r p0 p1 p2 p3).2.2.1 (C_open (nA G) (nT G) v r p0 p1 p2 p3).2.2.2) rfl ?_
    refine j_perm (CW (kD k) G' (C_open (nA G) (nT G) v r p0 p1 p2 p3).2.2.1 (C_open (nA G) (nT G) v r p0 p1 p2 p3).2.2.2 ++ [lng (kD k) o (vp_updL f 0 (((C_open (nA G) (nT G) v r p0 p1 p2 p3).2.1).toInt64))]) List.perm_append_comm ?_
    refine j_goto F (tgt := 25) dL_open_14 (by decide) ?_
    refine j_iconst F (v := 0) dL_open_25 (by decide) ?_
    exact j_iret F hR dL_open_26 (Nat.le_of_ble_eq_true rfl) (Nat.le_of_ble_eq_true rfl) ⟨0, _, rfl, Or.inl ⟨h0, rfl⟩, fun _ => (congrArg (fun z => z) (show vp_updL f 0 (((C_open (nA G) (nT G) v r p0 p1 p2 p3).2.1).toInt64) 0 = _ from if_pos rfl)), Or.inl ⟨h0, G', hx, rfl⟩⟩
  · obtain ⟨h0, rfl⟩ := hE
    rcases C_open_codes (nA G) (nT G) v r p0 p1 p2 p3 with e | e | e
    · exact absurd e h0
    · rw [e, show xE 1 = eA from by decide]
      refine j_catch F hT [] ⟨0, 14, 17, 13⟩ [⟨0, 14, 21, 29⟩] rfl (fun _ hz => absurd hz List.not_mem_nil) (by decide) (by decide) ul_L_13 (by decide) (fun q => ?_)
      refine j_astore F [some (.ref (G.1 0 0)), some (.int p0), some (.int p1), some (.int p2), some (.int p3), some (.ref o), some (.ref q)] dL_open_17 rfl rfl rfl ?_
      refine j_iconst F (v := 1) dL_open_19 (by decide) ?_
      exact j_iret F hR dL_open_20 (Nat.le_of_ble_eq_true rfl) (Nat.le_of_ble_eq_true rfl) ⟨1, f, rfl, Or.inr ⟨h0, 0, by rw [e]; rfl, rfl⟩, fun z => absurd z h0, Or.inr ⟨h0, rfl⟩⟩
    · rw [e, show xE 3 = eS from by decide]
      refine j_catch F hT [⟨0, 14, 17, 13⟩] ⟨0, 14, 21, 29⟩ [] rfl (fun z hz => ?_) (by decide) (by decide) ul_L_29 (by decide) (fun q => ?_)
      · simp only [List.mem_cons, List.not_mem_nil, or_false] at hz
        subst hz
        exact Or.inr ⟨(by decide), _, ul_L_13, (by decide)⟩
      refine j_astore F [some (.ref (G.1 0 0)), some (.int p0), some (.int p1), some (.int p2), some (.int p3), some (.ref o), some (.ref q)] dL_open_21 rfl rfl rfl ?_
      refine j_iconst F (v := 2) dL_open_23 (by decide) ?_
      exact j_iret F hR dL_open_24 (Nat.le_of_ble_eq_true rfl) (Nat.le_of_ble_eq_true rfl) ⟨2, f, rfl, Or.inr ⟨h0, 1, by rw [e]; rfl, rfl⟩, fun z => absurd z h0, Or.inr ⟨h0, rfl⟩⟩
theorem lh_L_116 : LkH RL 116 yL_open cL_open 7 (some .int) [(0, 14, 17, 13), (0, 14, 21, 29)] 6 := ⟨um_L_116, ui_L, ud_L_open, by decide +kernel, us_L_open⟩
theorem C_pass_codes (na nt : Nat) (v : S2) (r : R2) (p0 : Int32) : (C_pass na nt v r p0).1 = 0 ∨ (C_pass na nt v r p0).1 = 1 ∨ (C_pass na nt v r p0).1 = 3 := by
  unfold C_pass
  repeat' split
  all_goals first | exact Or.inl rfl | exact Or.inr (Or.inl rfl) | exact Or.inr (Or.inr (Or.inl rfl)) | exact Or.inr (Or.inr (Or.inr rfl)) | exact Or.inr rfl | exact Or.inr (Or.inr rfl)
set_option maxRecDepth 100000 in
set_option maxHeartbeats 4000000 in
theorem qL_pass (l : Launch) (hst : l.stackTraces = false) (D : va_G) (G : CG) (v : S2) (r : R2) (o : Nat) (f : Nat → Int64) (p0 : Int32) (hG : GI D G) (hC : CI G v r) : CXH l D yL_pass cL_pass 4 (some .int) [(0, 9, 12, 13), (0, 9, 15, 29)] 7 155 1 6 (CW D G v r ++ [lng D o f]) [.ref (G.1 0 0), .int p0, .ref o] (fun u w => ∃ (kk : Int32) (f' : Nat → Int64), u = some (.int kk) ∧ KC [1, 3] (C_pass (nA G) (nT G) v r p0).1 kk ∧ ((C_pass (nA G) (nT G) v r p0).1 = 0 → f' 0 = (((C_pass (nA G) (nT G) v r p0).2.1).toInt64)) ∧ (((C_pass (nA G) (nT G) v r p0).1 = 0 ∧ w = CW D G (C_pass (nA G) (nT G) v r p0).2.2.1 (C_pass (nA G) (nT G) v r p0).2.2.2 ++ [lng D o f']) ∨ ((C_pass (nA G) (nT G) v r p0).1 ≠ 0 ∧ w = CW D G v r ++ [lng D o f']))) := by
  refine CXH_of [some (.ref (G.1 0 0)), some (.int p0), some (.ref o), none] hst (by decide +kernel) rfl (Nat.le_of_ble_eq_true rfl) (fun k F hl hD hR hT => ?_)
  subst hl hD
  refine j_aloadn F dL_pass_0 rfl ?_
  refine j_iconst F (v := 0) dL_pass_1 (by decide) ?_
  refine j_aloadn F dL_pass_2 rfl ?_
  refine j_iloadn F dL_pass_3 rfl ?_
  refine j_cxV F hR.1 (qX3_pass (kl k) hst (kD k) G v r p0 hG hC) lk_L_71 dL_pass_4 ⟨(Nat.le_of_ble_eq_true rfl), (Nat.le_of_ble_eq_true rfl)⟩ 0 rfl rfl rfl (Nat.le_of_ble_eq_true rfl) ⟨(Nat.le_of_ble_eq_true rfl), (Nat.le_of_ble_eq_true rfl)⟩ (fun u w1 hp => ?_) (fun E hE => ?_)
  · obtain ⟨h0, rfl, rfl⟩ := hp
    refine j_i2l F dL_pass_7 ?_
    refine j_perm ([lng (kD k) o f] ++ CW (kD k) G (C_pass (nA G) (nT G) v r p0).2.2.1 (C_pass (nA G) (nT G) v r p0).2.2.2) List.perm_append_comm ?_
    refine j_last F hR.1 dL_pass_8 0 rfl (by unfold vp_in; decide +kernel) ([lng (kD k) o (vp_updL f 0 (((C_pass (nA G) (nT G) v r p0).2.1).toInt64))] ++ CW (kD k) G (C_pass (nA G) (nT G) v r p0).2.2.1 (C_pass (nA G) (nT G) v r p0).2.2.2) rfl ?_
    refine j_perm (CW (kD k) G (C_pass (nA G) (nT G) v r p0).2.2.1 (C_pass (nA G) (nT G) v r p0).2.2.2 ++ [lng (kD k) o (vp_updL f 0 (((C_pass (nA G) (nT G) v r p0).2.1).toInt64))]) List.perm_append_comm ?_
    refine j_goto F (tgt := 18) dL_pass_9 (by decide) ?_
    refine j_iconst F (v := 0) dL_pass_18 (by decide) ?_
    exact j_iret F hR dL_pass_19 (Nat.le_of_ble_eq_true rfl) (Nat.le_of_ble_eq_true rfl) ⟨0, _, rfl, Or.inl ⟨h0, rfl⟩, fun _ => (congrArg (fun z => z) (show vp_updL f 0 (((C_pass (nA G) (nT G) v r p0).2.1).toInt64) 0 = _ from if_pos rfl)), Or.inl ⟨h0, rfl⟩⟩
  · obtain ⟨h0, rfl⟩ := hE
    rcases C_pass_codes (nA G) (nT G) v r p0 with e | e | e
    · exact absurd e h0
    · rw [e, show xE 1 = eA from by decide]
      refine j_catch F hT [] ⟨0, 9, 12, 13⟩ [⟨0, 9, 15, 29⟩] rfl (fun _ hz => absurd hz List.not_mem_nil) (by decide) (by decide) ul_L_13 (by decide) (fun q => ?_)
      refine j_astoren F [some (.ref (G.1 0 0)), some (.int p0), some (.ref o), some (.ref q)] dL_pass_12 rfl rfl rfl ?_
      refine j_iconst F (v := 1) dL_pass_13 (by decide) ?_
      exact j_iret F hR dL_pass_14 (Nat.le_of_ble_eq_true rfl) (Nat.le_of_ble_eq_true rfl) ⟨1, f, rfl, Or.inr ⟨h0, 0, by rw [e]; rfl, rfl⟩, fun z => absurd z h0, Or.inr ⟨h0, rfl⟩⟩
    · rw [e, show xE 3 = eS from by decide]
      refine j_catch F hT [⟨0, 9, 12, 13⟩] ⟨0, 9, 15, 29⟩ [] rfl (fun z hz => ?_) (by decide) (by decide) ul_L_29 (by decide) (fun q => ?_)
      · simp only [List.mem_cons, List.not_mem_nil, or_false] at hz
        subst hz
        exact Or.inr ⟨(by decide), _, ul_L_13, (by decide)⟩
      refine j_astoren F [some (.ref (G.1 0 0)), some (.int p0), some (.ref o), some (.ref q)] dL_pass_15 rfl rfl rfl ?_
      refine j_iconst F (v := 2) dL_pass_16 (by decide) ?_
      exact j_iret F hR dL_pass_17 (Nat.le_of_ble_eq_true rfl) (Nat.le_of_ble_eq_true rfl) ⟨2, f, rfl, Or.inr ⟨h0, 1, by rw [e]; rfl, rfl⟩, fun z => absurd z h0, Or.inr ⟨h0, rfl⟩⟩
theorem lh_L_150 : LkH RL 150 yL_pass cL_pass 4 (some .int) [(0, 9, 12, 13), (0, 9, 15, 29)] 3 := ⟨um_L_150, ui_L, ud_L_pass, by decide +kernel, us_L_pass⟩
theorem C_pause_codes (na nt : Nat) (v : S2) (r : R2) (p0 : Int32) : (C_pause na nt v r p0).1 = 0 ∨ (C_pause na nt v r p0).1 = 2 ∨ (C_pause na nt v r p0).1 = 3 := by
  unfold C_pause
  repeat' split
  all_goals first | exact Or.inl rfl | exact Or.inr (Or.inl rfl) | exact Or.inr (Or.inr (Or.inl rfl)) | exact Or.inr (Or.inr (Or.inr rfl)) | exact Or.inr rfl | exact Or.inr (Or.inr rfl)
set_option maxRecDepth 100000 in
set_option maxHeartbeats 4000000 in
theorem qL_pause (l : Launch) (hst : l.stackTraces = false) (D : va_G) (G : CG) (v : S2) (r : R2) (o : Nat) (f : Nat → Int64) (p0 : Int32) (hG : GI D G) (hC : CI G v r) : CXH l D yL_pause cL_pause 4 (some .int) [(0, 9, 12, 19), (0, 9, 15, 29)] 8 153 2 12 (CW D G v r ++ [lng D o f]) [.ref (G.1 0 0), .int p0, .ref o] (fun u w => ∃ (kk : Int32) (f' : Nat → Int64), u = some (.int kk) ∧ KC [2, 3] (C_pause (nA G) (nT G) v r p0).1 kk ∧ ((C_pause (nA G) (nT G) v r p0).1 = 0 → f' 0 = (((C_pause (nA G) (nT G) v r p0).2.1).toInt64)) ∧ (((C_pause (nA G) (nT G) v r p0).1 = 0 ∧ w = CW D G (C_pause (nA G) (nT G) v r p0).2.2.1 (C_pause (nA G) (nT G) v r p0).2.2.2 ++ [lng D o f']) ∨ ((C_pause (nA G) (nT G) v r p0).1 ≠ 0 ∧ w = CW D G v r ++ [lng D o f']))) := by
  refine CXH_of [some (.ref (G.1 0 0)), some (.int p0), some (.ref o), none] hst (by decide +kernel) rfl (Nat.le_of_ble_eq_true rfl) (fun k F hl hD hR hT => ?_)
  subst hl hD
  refine j_aloadn F dL_pause_0 rfl ?_
  refine j_iconst F (v := 0) dL_pause_1 (by decide) ?_
  refine j_aloadn F dL_pause_2 rfl ?_
  refine j_iloadn F dL_pause_3 rfl ?_
  refine j_cxV F hR.1 (qX3_pause (kl k) hst (kD k) G v r p0 hG hC) lk_L_47 dL_pause_4 ⟨(Nat.le_of_ble_eq_true rfl), (Nat.le_of_ble_eq_true rfl)⟩ 0 rfl rfl rfl (Nat.le_of_ble_eq_true rfl) ⟨(Nat.le_of_ble_eq_true rfl), (Nat.le_of_ble_eq_true rfl)⟩ (fun u w1 hp => ?_) (fun E hE => ?_)
  · obtain ⟨h0, rfl, rfl⟩ := hp
    refine j_i2l F dL_pause_7 ?_
    refine j_perm ([lng (kD k) o f] ++ CW (kD k) G (C_pause (nA G) (nT G) v r p0).2.2.1 (C_pause (nA G) (nT G) v r p0).2.2.2) List.perm_append_comm ?_
    refine j_last F hR.1 dL_pause_8 0 rfl (by unfold vp_in; decide +kernel) ([lng (kD k) o (vp_updL f 0 (((C_pause (nA G) (nT G) v r p0).2.1).toInt64))] ++ CW (kD k) G (C_pause (nA G) (nT G) v r p0).2.2.1 (C_pause (nA G) (nT G) v r p0).2.2.2) rfl ?_
    refine j_perm (CW (kD k) G (C_pause (nA G) (nT G) v r p0).2.2.1 (C_pause (nA G) (nT G) v r p0).2.2.2 ++ [lng (kD k) o (vp_updL f 0 (((C_pause (nA G) (nT G) v r p0).2.1).toInt64))]) List.perm_append_comm ?_
    refine j_goto F (tgt := 18) dL_pause_9 (by decide) ?_
    refine j_iconst F (v := 0) dL_pause_18 (by decide) ?_
    exact j_iret F hR dL_pause_19 (Nat.le_of_ble_eq_true rfl) (Nat.le_of_ble_eq_true rfl) ⟨0, _, rfl, Or.inl ⟨h0, rfl⟩, fun _ => (congrArg (fun z => z) (show vp_updL f 0 (((C_pause (nA G) (nT G) v r p0).2.1).toInt64) 0 = _ from if_pos rfl)), Or.inl ⟨h0, rfl⟩⟩
  · obtain ⟨h0, rfl⟩ := hE
    rcases C_pause_codes (nA G) (nT G) v r p0 with e | e | e
    · exact absurd e h0
    · rw [e, show xE 2 = eI from by decide]
      refine j_catch F hT [] ⟨0, 9, 12, 19⟩ [⟨0, 9, 15, 29⟩] rfl (fun _ hz => absurd hz List.not_mem_nil) (by decide) (by decide) ul_L_19 (by decide) (fun q => ?_)
      refine j_astoren F [some (.ref (G.1 0 0)), some (.int p0), some (.ref o), some (.ref q)] dL_pause_12 rfl rfl rfl ?_
      refine j_iconst F (v := 1) dL_pause_13 (by decide) ?_
      exact j_iret F hR dL_pause_14 (Nat.le_of_ble_eq_true rfl) (Nat.le_of_ble_eq_true rfl) ⟨1, f, rfl, Or.inr ⟨h0, 0, by rw [e]; rfl, rfl⟩, fun z => absurd z h0, Or.inr ⟨h0, rfl⟩⟩
    · rw [e, show xE 3 = eS from by decide]
      refine j_catch F hT [⟨0, 9, 12, 19⟩] ⟨0, 9, 15, 29⟩ [] rfl (fun z hz => ?_) (by decide) (by decide) ul_L_29 (by decide) (fun q => ?_)
      · simp only [List.mem_cons, List.not_mem_nil, or_false] at hz
        subst hz
        exact Or.inr ⟨(by decide), _, ul_L_19, (by decide)⟩
      refine j_astoren F [some (.ref (G.1 0 0)), some (.int p0), some (.ref o), some (.ref q)] dL_pause_15 rfl rfl rfl ?_
      refine j_iconst F (v := 2) dL_pause_16 (by decide) ?_
      exact j_iret F hR dL_pause_17 (Nat.le_of_ble_eq_true rfl) (Nat.le_of_ble_eq_true rfl) ⟨2, f, rfl, Or.inr ⟨h0, 1, by rw [e]; rfl, rfl⟩, fun z => absurd z h0, Or.inr ⟨h0, rfl⟩⟩
theorem lh_L_122 : LkH RL 122 yL_pause cL_pause 4 (some .int) [(0, 9, 12, 19), (0, 9, 15, 29)] 3 := ⟨um_L_122, ui_L, ud_L_pause, by decide +kernel, us_L_pause⟩
theorem C_reopen_codes (na nt : Nat) (v : S2) (r : R2) (p0 : Int32) (p1 : Int32) : (C_reopen na nt v r p0 p1).1 = 0 ∨ (C_reopen na nt v r p0 p1).1 = 2 ∨ (C_reopen na nt v r p0 p1).1 = 1 ∨ (C_reopen na nt v r p0 p1).1 = 3 := by
  unfold C_reopen
  repeat' split
  all_goals first | exact Or.inl rfl | exact Or.inr (Or.inl rfl) | exact Or.inr (Or.inr (Or.inl rfl)) | exact Or.inr (Or.inr (Or.inr rfl)) | exact Or.inr rfl | exact Or.inr (Or.inr rfl)
set_option maxRecDepth 100000 in
set_option maxHeartbeats 4000000 in
theorem qL_reopen (l : Launch) (hst : l.stackTraces = false) (D : va_G) (G : CG) (v : S2) (r : R2) (o : Nat) (f : Nat → Int64) (p0 : Int32) (p1 : Int32) (hG : GI D G) : CXH l D yL_reopen cL_reopen 5 (some .int) [(0, 10, 13, 19), (0, 10, 17, 13), (0, 10, 21, 29)] 8 154 2 12 (CW D G v r ++ [lng D o f]) [.ref (G.1 0 0), .int p0, .int p1, .ref o] (fun u w => ∃ (kk : Int32) (f' : Nat → Int64), u = some (.int kk) ∧ KC [2, 1, 3] (C_reopen (nA G) (nT G) v r p0 p1).1 kk ∧ ((C_reopen (nA G) (nT G) v r p0 p1).1 = 0 → f' 0 = (((C_reopen (nA G) (nT G) v r p0 p1).2.1).toInt64)) ∧ (((C_reopen (nA G) (nT G) v r p0 p1).1 = 0 ∧ w = CW D G (C_reopen (nA G) (nT G) v r p0 p1).2.2.1 (C_reopen (nA G) (nT G) v r p0 p1).2.2.2 ++ [lng D o f']) ∨ ((C_reopen (nA G) (nT G) v r p0 p1).1 ≠ 0 ∧ w = CW D G v r ++ [lng D o f']))) := by
  refine CXH_of [some (.ref (G.1 0 0)), some (.int p0), some (.int p1), some (.ref o), none] hst (by decide +kernel) rfl (Nat.le_of_ble_eq_true rfl) (fun k F hl hD hR hT => ?_)
  subst hl hD
  refine j_aloadn F dL_reopen_0 rfl ?_
  refine j_iconst F (v := 0) dL_reopen_1 (by decide) ?_
  refine j_aloadn F dL_reopen_2 rfl ?_
  refine j_iloadn F dL_reopen_3 rfl ?_
  refine j_iloadn F dL_reopen_4 rfl ?_
  refine j_cxV F hR.1 (qX3_reopen (kl k) hst (kD k) G v r p0 p1 hG) lk_L_56 dL_reopen_5 ⟨(Nat.le_of_ble_eq_true rfl), (Nat.le_of_ble_eq_true rfl)⟩ 0 rfl rfl rfl (Nat.le_of_ble_eq_true rfl) ⟨(Nat.le_of_ble_eq_true rfl), (Nat.le_of_ble_eq_true rfl)⟩ (fun u w1 hp => ?_) (fun E hE => ?_)
  · obtain ⟨h0, rfl, rfl⟩ := hp
    refine j_i2l F dL_reopen_8 ?_
    refine j_perm ([lng (kD k) o f] ++ CW (kD k) G (C_reopen (nA G) (nT G) v r p0 p1).2.2.1 (C_reopen (nA G) (nT G) v r p0 p1).2.2.2) List.perm_append_comm ?_
    refine j_last F hR.1 dL_reopen_9 0 rfl (by unfold vp_in; decide +kernel) ([lng (kD k) o (vp_updL f 0 (((C_reopen (nA G) (nT G) v r p0 p1).2.1).toInt64))] ++ CW (kD k) G (C_reopen (nA G) (nT G) v r p0 p1).2.2.1 (C_reopen (nA G) (nT G) v r p0 p1).2.2.2) rfl ?_
    refine j_perm (CW (kD k) G (C_reopen (nA G) (nT G) v r p0 p1).2.2.1 (C_reopen (nA G) (nT G) v r p0 p1).2.2.2 ++ [lng (kD k) o (vp_updL f 0 (((C_reopen (nA G) (nT G) v r p0 p1).2.1).toInt64))]) List.perm_append_comm ?_
    refine j_goto F (tgt := 25) dL_reopen_10 (by decide) ?_
    refine j_iconst F (v := 0) dL_reopen_25 (by decide) ?_
    exact j_iret F hR dL_reopen_26 (Nat.le_of_ble_eq_true rfl) (Nat.le_of_ble_eq_true rfl) ⟨0, _, rfl, Or.inl ⟨h0, rfl⟩, fun _ => (congrArg (fun z => z) (show vp_updL f 0 (((C_reopen (nA G) (nT G) v r p0 p1).2.1).toInt64) 0 = _ from if_pos rfl)), Or.inl ⟨h0, rfl⟩⟩
  · obtain ⟨h0, rfl⟩ := hE
    rcases C_reopen_codes (nA G) (nT G) v r p0 p1 with e | e | e | e
    · exact absurd e h0
    · rw [e, show xE 2 = eI from by decide]
      refine j_catch F hT [] ⟨0, 10, 13, 19⟩ [⟨0, 10, 17, 13⟩, ⟨0, 10, 21, 29⟩] rfl (fun _ hz => absurd hz List.not_mem_nil) (by decide) (by decide) ul_L_19 (by decide) (fun q => ?_)
      refine j_astore F [some (.ref (G.1 0 0)), some (.int p0), some (.int p1), some (.ref o), some (.ref q)] dL_reopen_13 rfl rfl rfl ?_
      refine j_iconst F (v := 1) dL_reopen_15 (by decide) ?_
      exact j_iret F hR dL_reopen_16 (Nat.le_of_ble_eq_true rfl) (Nat.le_of_ble_eq_true rfl) ⟨1, f, rfl, Or.inr ⟨h0, 0, by rw [e]; rfl, rfl⟩, fun z => absurd z h0, Or.inr ⟨h0, rfl⟩⟩
    · rw [e, show xE 1 = eA from by decide]
      refine j_catch F hT [⟨0, 10, 13, 19⟩] ⟨0, 10, 17, 13⟩ [⟨0, 10, 21, 29⟩] rfl (fun z hz => ?_) (by decide) (by decide) ul_L_13 (by decide) (fun q => ?_)
      · simp only [List.mem_cons, List.not_mem_nil, or_false] at hz
        subst hz
        exact Or.inr ⟨(by decide), _, ul_L_19, (by decide)⟩
      refine j_astore F [some (.ref (G.1 0 0)), some (.int p0), some (.int p1), some (.ref o), some (.ref q)] dL_reopen_17 rfl rfl rfl ?_
      refine j_iconst F (v := 2) dL_reopen_19 (by decide) ?_
      exact j_iret F hR dL_reopen_20 (Nat.le_of_ble_eq_true rfl) (Nat.le_of_ble_eq_true rfl) ⟨2, f, rfl, Or.inr ⟨h0, 1, by rw [e]; rfl, rfl⟩, fun z => absurd z h0, Or.inr ⟨h0, rfl⟩⟩
    · rw [e, show xE 3 = eS from by decide]
      refine j_catch F hT [⟨0, 10, 13, 19⟩, ⟨0, 10, 17, 13⟩] ⟨0, 10, 21, 29⟩ [] rfl (fun z hz => ?_) (by decide) (by decide) ul_L_29 (by decide) (fun q => ?_)
      · simp only [List.mem_cons, List.not_mem_nil, or_false] at hz
        rcases hz with rfl | rfl
        · exact Or.inr ⟨(by decide), _, ul_L_19, (by decide)⟩
        · exact Or.inr ⟨(by decide), _, ul_L_13, (by decide)⟩
      refine j_astore F [some (.ref (G.1 0 0)), some (.int p0), some (.int p1), some (.ref o), some (.ref q)] dL_reopen_21 rfl rfl rfl ?_
      refine j_iconst F (v := 3) dL_reopen_23 (by decide) ?_
      exact j_iret F hR dL_reopen_24 (Nat.le_of_ble_eq_true rfl) (Nat.le_of_ble_eq_true rfl) ⟨3, f, rfl, Or.inr ⟨h0, 2, by rw [e]; rfl, rfl⟩, fun z => absurd z h0, Or.inr ⟨h0, rfl⟩⟩
theorem lh_L_131 : LkH RL 131 yL_reopen cL_reopen 5 (some .int) [(0, 10, 13, 19), (0, 10, 17, 13), (0, 10, 21, 29)] 4 := ⟨um_L_131, ui_L, ud_L_reopen, by decide +kernel, us_L_reopen⟩
theorem C_resume_codes (na nt : Nat) (v : S2) (r : R2) (p0 : Int32) : (C_resume na nt v r p0).1 = 0 ∨ (C_resume na nt v r p0).1 = 2 ∨ (C_resume na nt v r p0).1 = 3 := by
  unfold C_resume
  repeat' split
  all_goals first | exact Or.inl rfl | exact Or.inr (Or.inl rfl) | exact Or.inr (Or.inr (Or.inl rfl)) | exact Or.inr (Or.inr (Or.inr rfl)) | exact Or.inr rfl | exact Or.inr (Or.inr rfl)
set_option maxRecDepth 100000 in
set_option maxHeartbeats 4000000 in
theorem qL_resume (l : Launch) (hst : l.stackTraces = false) (D : va_G) (G : CG) (v : S2) (r : R2) (o : Nat) (f : Nat → Int64) (p0 : Int32) (hG : GI D G) : CXH l D yL_resume cL_resume 4 (some .int) [(0, 9, 12, 19), (0, 9, 15, 29)] 8 153 2 12 (CW D G v r ++ [lng D o f]) [.ref (G.1 0 0), .int p0, .ref o] (fun u w => ∃ (kk : Int32) (f' : Nat → Int64), u = some (.int kk) ∧ KC [2, 3] (C_resume (nA G) (nT G) v r p0).1 kk ∧ ((C_resume (nA G) (nT G) v r p0).1 = 0 → f' 0 = (((C_resume (nA G) (nT G) v r p0).2.1).toInt64)) ∧ (((C_resume (nA G) (nT G) v r p0).1 = 0 ∧ w = CW D G (C_resume (nA G) (nT G) v r p0).2.2.1 (C_resume (nA G) (nT G) v r p0).2.2.2 ++ [lng D o f']) ∨ ((C_resume (nA G) (nT G) v r p0).1 ≠ 0 ∧ w = CW D G v r ++ [lng D o f']))) := by
  refine CXH_of [some (.ref (G.1 0 0)), some (.int p0), some (.ref o), none] hst (by decide +kernel) rfl (Nat.le_of_ble_eq_true rfl) (fun k F hl hD hR hT => ?_)
  subst hl hD
  refine j_aloadn F dL_resume_0 rfl ?_
  refine j_iconst F (v := 0) dL_resume_1 (by decide) ?_
  refine j_aloadn F dL_resume_2 rfl ?_
  refine j_iloadn F dL_resume_3 rfl ?_
  refine j_cxV F hR.1 (qX3_resume (kl k) hst (kD k) G v r p0 hG) lk_L_50 dL_resume_4 ⟨(Nat.le_of_ble_eq_true rfl), (Nat.le_of_ble_eq_true rfl)⟩ 0 rfl rfl rfl (Nat.le_of_ble_eq_true rfl) ⟨(Nat.le_of_ble_eq_true rfl), (Nat.le_of_ble_eq_true rfl)⟩ (fun u w1 hp => ?_) (fun E hE => ?_)
  · obtain ⟨h0, rfl, rfl⟩ := hp
    refine j_i2l F dL_resume_7 ?_
    refine j_perm ([lng (kD k) o f] ++ CW (kD k) G (C_resume (nA G) (nT G) v r p0).2.2.1 (C_resume (nA G) (nT G) v r p0).2.2.2) List.perm_append_comm ?_
    refine j_last F hR.1 dL_resume_8 0 rfl (by unfold vp_in; decide +kernel) ([lng (kD k) o (vp_updL f 0 (((C_resume (nA G) (nT G) v r p0).2.1).toInt64))] ++ CW (kD k) G (C_resume (nA G) (nT G) v r p0).2.2.1 (C_resume (nA G) (nT G) v r p0).2.2.2) rfl ?_
    refine j_perm (CW (kD k) G (C_resume (nA G) (nT G) v r p0).2.2.1 (C_resume (nA G) (nT G) v r p0).2.2.2 ++ [lng (kD k) o (vp_updL f 0 (((C_resume (nA G) (nT G) v r p0).2.1).toInt64))]) List.perm_append_comm ?_
    refine j_goto F (tgt := 18) dL_resume_9 (by decide) ?_
    refine j_iconst F (v := 0) dL_resume_18 (by decide) ?_
    exact j_iret F hR dL_resume_19 (Nat.le_of_ble_eq_true rfl) (Nat.le_of_ble_eq_true rfl) ⟨0, _, rfl, Or.inl ⟨h0, rfl⟩, fun _ => (congrArg (fun z => z) (show vp_updL f 0 (((C_resume (nA G) (nT G) v r p0).2.1).toInt64) 0 = _ from if_pos rfl)), Or.inl ⟨h0, rfl⟩⟩
  · obtain ⟨h0, rfl⟩ := hE
    rcases C_resume_codes (nA G) (nT G) v r p0 with e | e | e
    · exact absurd e h0
    · rw [e, show xE 2 = eI from by decide]
      refine j_catch F hT [] ⟨0, 9, 12, 19⟩ [⟨0, 9, 15, 29⟩] rfl (fun _ hz => absurd hz List.not_mem_nil) (by decide) (by decide) ul_L_19 (by decide) (fun q => ?_)
      refine j_astoren F [some (.ref (G.1 0 0)), some (.int p0), some (.ref o), some (.ref q)] dL_resume_12 rfl rfl rfl ?_
      refine j_iconst F (v := 1) dL_resume_13 (by decide) ?_
      exact j_iret F hR dL_resume_14 (Nat.le_of_ble_eq_true rfl) (Nat.le_of_ble_eq_true rfl) ⟨1, f, rfl, Or.inr ⟨h0, 0, by rw [e]; rfl, rfl⟩, fun z => absurd z h0, Or.inr ⟨h0, rfl⟩⟩
    · rw [e, show xE 3 = eS from by decide]
      refine j_catch F hT [⟨0, 9, 12, 19⟩] ⟨0, 9, 15, 29⟩ [] rfl (fun z hz => ?_) (by decide) (by decide) ul_L_29 (by decide) (fun q => ?_)
      · simp only [List.mem_cons, List.not_mem_nil, or_false] at hz
        subst hz
        exact Or.inr ⟨(by decide), _, ul_L_19, (by decide)⟩
      refine j_astoren F [some (.ref (G.1 0 0)), some (.int p0), some (.ref o), some (.ref q)] dL_resume_15 rfl rfl rfl ?_
      refine j_iconst F (v := 2) dL_resume_16 (by decide) ?_
      exact j_iret F hR dL_resume_17 (Nat.le_of_ble_eq_true rfl) (Nat.le_of_ble_eq_true rfl) ⟨2, f, rfl, Or.inr ⟨h0, 1, by rw [e]; rfl, rfl⟩, fun z => absurd z h0, Or.inr ⟨h0, rfl⟩⟩
theorem lh_L_125 : LkH RL 125 yL_resume cL_resume 4 (some .int) [(0, 9, 12, 19), (0, 9, 15, 29)] 3 := ⟨um_L_125, ui_L, ud_L_resume, by decide +kernel, us_L_resume⟩
theorem C_service_codes (na nt : Nat) (v : S2) (r : R2) (p0 : Int32) (p1 : Int32) : (C_service na nt v r p0 p1).1 = 0 ∨ (C_service na nt v r p0 p1).1 = 1 := by
  unfold C_service
  repeat' split
  all_goals first | exact Or.inl rfl | exact Or.inr (Or.inl rfl) | exact Or.inr (Or.inr (Or.inl rfl)) | exact Or.inr (Or.inr (Or.inr rfl)) | exact Or.inr rfl | exact Or.inr (Or.inr rfl)
set_option maxRecDepth 100000 in
set_option maxHeartbeats 4000000 in
theorem qL_service (l : Launch) (hst : l.stackTraces = false) (D : va_G) (G : CG) (v : S2) (r : R2) (o : Nat) (f : Nat → Int64) (p0 : Int32) (p1 : Int32) : CXH l D yL_service cL_service 5 (some .int) [(0, 10, 13, 13)] 7 112 1 6 (CW D G v r ++ [lng D o f]) [.ref (G.1 0 0), .int p0, .int p1, .ref o] (fun u w => ∃ (kk : Int32) (f' : Nat → Int64), u = some (.int kk) ∧ KC [1] (C_service (nA G) (nT G) v r p0 p1).1 kk ∧ ((C_service (nA G) (nT G) v r p0 p1).1 = 0 → f' 0 = (((C_service (nA G) (nT G) v r p0 p1).2.1).toInt64)) ∧ (((C_service (nA G) (nT G) v r p0 p1).1 = 0 ∧ w = CW D G (C_service (nA G) (nT G) v r p0 p1).2.2.1 (C_service (nA G) (nT G) v r p0 p1).2.2.2 ++ [lng D o f']) ∨ ((C_service (nA G) (nT G) v r p0 p1).1 ≠ 0 ∧ w = CW D G v r ++ [lng D o f']))) := by
  refine CXH_of [some (.ref (G.1 0 0)), some (.int p0), some (.int p1), some (.ref o), none] hst (by decide +kernel) rfl (Nat.le_of_ble_eq_true rfl) (fun k F hl hD hR hT => ?_)
  subst hl hD
  refine j_aloadn F dL_service_0 rfl ?_
  refine j_iconst F (v := 0) dL_service_1 (by decide) ?_
  refine j_aloadn F dL_service_2 rfl ?_
  refine j_iloadn F dL_service_3 rfl ?_
  refine j_iloadn F dL_service_4 rfl ?_
  refine j_cxV F hR.1 (qX3_service (kl k) hst (kD k) G v r p0 p1 ) lk_L_21 dL_service_5 ⟨(Nat.le_of_ble_eq_true rfl), (Nat.le_of_ble_eq_true rfl)⟩ 0 rfl rfl rfl (Nat.le_of_ble_eq_true rfl) ⟨(Nat.le_of_ble_eq_true rfl), (Nat.le_of_ble_eq_true rfl)⟩ (fun u w1 hp => ?_) (fun E hE => ?_)
  · obtain ⟨h0, rfl, rfl⟩ := hp
    refine j_i2l F dL_service_8 ?_
    refine j_perm ([lng (kD k) o f] ++ CW (kD k) G (C_service (nA G) (nT G) v r p0 p1).2.2.1 (C_service (nA G) (nT G) v r p0 p1).2.2.2) List.perm_append_comm ?_
    refine j_last F hR.1 dL_service_9 0 rfl (by unfold vp_in; decide +kernel) ([lng (kD k) o (vp_updL f 0 (((C_service (nA G) (nT G) v r p0 p1).2.1).toInt64))] ++ CW (kD k) G (C_service (nA G) (nT G) v r p0 p1).2.2.1 (C_service (nA G) (nT G) v r p0 p1).2.2.2) rfl ?_
    refine j_perm (CW (kD k) G (C_service (nA G) (nT G) v r p0 p1).2.2.1 (C_service (nA G) (nT G) v r p0 p1).2.2.2 ++ [lng (kD k) o (vp_updL f 0 (((C_service (nA G) (nT G) v r p0 p1).2.1).toInt64))]) List.perm_append_comm ?_
    refine j_goto F (tgt := 17) dL_service_10 (by decide) ?_
    refine j_iconst F (v := 0) dL_service_17 (by decide) ?_
    exact j_iret F hR dL_service_18 (Nat.le_of_ble_eq_true rfl) (Nat.le_of_ble_eq_true rfl) ⟨0, _, rfl, Or.inl ⟨h0, rfl⟩, fun _ => (congrArg (fun z => z) (show vp_updL f 0 (((C_service (nA G) (nT G) v r p0 p1).2.1).toInt64) 0 = _ from if_pos rfl)), Or.inl ⟨h0, rfl⟩⟩
  · obtain ⟨h0, rfl⟩ := hE
    rcases C_service_codes (nA G) (nT G) v r p0 p1 with e | e
    · exact absurd e h0
    · rw [e, show xE 1 = eA from by decide]
      refine j_catch F hT [] ⟨0, 10, 13, 13⟩ [] rfl (fun _ hz => absurd hz List.not_mem_nil) (by decide) (by decide) ul_L_13 (by decide) (fun q => ?_)
      refine j_astore F [some (.ref (G.1 0 0)), some (.int p0), some (.int p1), some (.ref o), some (.ref q)] dL_service_13 rfl rfl rfl ?_
      refine j_iconst F (v := 1) dL_service_15 (by decide) ?_
      exact j_iret F hR dL_service_16 (Nat.le_of_ble_eq_true rfl) (Nat.le_of_ble_eq_true rfl) ⟨1, f, rfl, Or.inr ⟨h0, 0, by rw [e]; rfl, rfl⟩, fun z => absurd z h0, Or.inr ⟨h0, rfl⟩⟩
theorem lh_L_99 : LkH RL 99 yL_service cL_service 5 (some .int) [(0, 10, 13, 13)] 4 := ⟨um_L_99, ui_L, ud_L_service, by decide +kernel, us_L_service⟩
theorem C_setHours_codes (na nt : Nat) (v : S2) (r : R2) (p0 : Int32) (p1 : Int32) : (C_setHours na nt v r p0 p1).1 = 0 ∨ (C_setHours na nt v r p0 p1).1 = 1 := by
  unfold C_setHours
  repeat' split
  all_goals first | exact Or.inl rfl | exact Or.inr (Or.inl rfl) | exact Or.inr (Or.inr (Or.inl rfl)) | exact Or.inr (Or.inr (Or.inr rfl)) | exact Or.inr rfl | exact Or.inr (Or.inr rfl)
set_option maxRecDepth 100000 in
set_option maxHeartbeats 4000000 in
theorem qL_setHours (l : Launch) (hst : l.stackTraces = false) (D : va_G) (G : CG) (v : S2) (r : R2) (o : Nat) (f : Nat → Int64) (p0 : Int32) (p1 : Int32) : CXH l D yL_setHours cL_setHours 5 (some .int) [(0, 17, 20, 13)] 7 113 1 6 (CW D G v r ++ [lng D o f]) [.ref (G.1 0 0), .int p0, .int p1, .ref o] (fun u w => ∃ (kk : Int32) (f' : Nat → Int64), u = some (.int kk) ∧ KC [1] (C_setHours (nA G) (nT G) v r p0 p1).1 kk ∧ ((C_setHours (nA G) (nT G) v r p0 p1).1 = 0 → f' 0 = (if (C_setHours (nA G) (nT G) v r p0 p1).2.1 = true then 1 else 0)) ∧ (((C_setHours (nA G) (nT G) v r p0 p1).1 = 0 ∧ w = CW D G (C_setHours (nA G) (nT G) v r p0 p1).2.2.1 (C_setHours (nA G) (nT G) v r p0 p1).2.2.2 ++ [lng D o f']) ∨ ((C_setHours (nA G) (nT G) v r p0 p1).1 ≠ 0 ∧ w = CW D G v r ++ [lng D o f']))) := by
  refine CXH_of [some (.ref (G.1 0 0)), some (.int p0), some (.int p1), some (.ref o), none] hst (by decide +kernel) rfl (Nat.le_of_ble_eq_true rfl) (fun k F hl hD hR hT => ?_)
  subst hl hD
  refine j_aloadn F dL_setHours_0 rfl ?_
  refine j_iconst F (v := 0) dL_setHours_1 (by decide) ?_
  refine j_aloadn F dL_setHours_2 rfl ?_
  refine j_iloadn F dL_setHours_3 rfl ?_
  refine j_iloadn F dL_setHours_4 rfl ?_
  refine j_cxV F hR.1 (qX3_setHours (kl k) hst (kD k) G v r p0 p1 ) lk_L_7 dL_setHours_5 ⟨(Nat.le_of_ble_eq_true rfl), (Nat.le_of_ble_eq_true rfl)⟩ 0 rfl rfl rfl (Nat.le_of_ble_eq_true rfl) ⟨(Nat.le_of_ble_eq_true rfl), (Nat.le_of_ble_eq_true rfl)⟩ (fun u w1 hp => ?_) (fun E hE => ?_)
  · obtain ⟨h0, rfl, rfl⟩ := hp
    refine j_ifbeq F (tgt := 15) dL_setHours_8 (by decide) (fun hb => ?_) (fun hb => ?_)
    · refine j_lconst F (v := 0) dL_setHours_15 (by decide) ?_
      refine j_perm ([lng (kD k) o f] ++ CW (kD k) G (C_setHours (nA G) (nT G) v r p0 p1).2.2.1 (C_setHours (nA G) (nT G) v r p0 p1).2.2.2) List.perm_append_comm ?_
      refine j_last F hR.1 dL_setHours_16 0 rfl (by unfold vp_in; decide +kernel) ([lng (kD k) o (vp_updL f 0 (0))] ++ CW (kD k) G (C_setHours (nA G) (nT G) v r p0 p1).2.2.1 (C_setHours (nA G) (nT G) v r p0 p1).2.2.2) rfl ?_
      refine j_perm (CW (kD k) G (C_setHours (nA G) (nT G) v r p0 p1).2.2.1 (C_setHours (nA G) (nT G) v r p0 p1).2.2.2 ++ [lng (kD k) o (vp_updL f 0 (0))]) List.perm_append_comm ?_
      refine j_goto F (tgt := 24) dL_setHours_17 (by decide) ?_
      refine j_iconst F (v := 0) dL_setHours_24 (by decide) ?_
      exact j_iret F hR dL_setHours_25 (Nat.le_of_ble_eq_true rfl) (Nat.le_of_ble_eq_true rfl) ⟨0, _, rfl, Or.inl ⟨h0, rfl⟩, fun _ => (congrArg (fun z => z) (show vp_updL f 0 (0) 0 = _ from (if_pos rfl).trans (if_neg hb).symm)), Or.inl ⟨h0, rfl⟩⟩
    · refine j_lconst F (v := 1) dL_setHours_11 (by decide) ?_
      refine j_goto F (tgt := 16) dL_setHours_12 (by decide) ?_
      refine j_perm ([lng (kD k) o f] ++ CW (kD k) G (C_setHours (nA G) (nT G) v r p0 p1).2.2.1 (C_setHours (nA G) (nT G) v r p0 p1).2.2.2) List.perm_append_comm ?_
      refine j_last F hR.1 dL_setHours_16 0 rfl (by unfold vp_in; decide +kernel) ([lng (kD k) o (vp_updL f 0 (1))] ++ CW (kD k) G (C_setHours (nA G) (nT G) v r p0 p1).2.2.1 (C_setHours (nA G) (nT G) v r p0 p1).2.2.2) rfl ?_
      refine j_perm (CW (kD k) G (C_setHours (nA G) (nT G) v r p0 p1).2.2.1 (C_setHours (nA G) (nT G) v r p0 p1).2.2.2 ++ [lng (kD k) o (vp_updL f 0 (1))]) List.perm_append_comm ?_
      refine j_goto F (tgt := 24) dL_setHours_17 (by decide) ?_
      refine j_iconst F (v := 0) dL_setHours_24 (by decide) ?_
      exact j_iret F hR dL_setHours_25 (Nat.le_of_ble_eq_true rfl) (Nat.le_of_ble_eq_true rfl) ⟨0, _, rfl, Or.inl ⟨h0, rfl⟩, fun _ => (congrArg (fun z => z) (show vp_updL f 0 (1) 0 = _ from (if_pos rfl).trans (if_pos hb).symm)), Or.inl ⟨h0, rfl⟩⟩
  · obtain ⟨h0, rfl⟩ := hE
    rcases C_setHours_codes (nA G) (nT G) v r p0 p1 with e | e
    · exact absurd e h0
    · rw [e, show xE 1 = eA from by decide]
      refine j_catch F hT [] ⟨0, 17, 20, 13⟩ [] rfl (fun _ hz => absurd hz List.not_mem_nil) (by decide) (by decide) ul_L_13 (by decide) (fun q => ?_)
      refine j_astore F [some (.ref (G.1 0 0)), some (.int p0), some (.int p1), some (.ref o), some (.ref q)] dL_setHours_20 rfl rfl rfl ?_
      refine j_iconst F (v := 1) dL_setHours_22 (by decide) ?_
      exact j_iret F hR dL_setHours_23 (Nat.le_of_ble_eq_true rfl) (Nat.le_of_ble_eq_true rfl) ⟨1, f, rfl, Or.inr ⟨h0, 0, by rw [e]; rfl, rfl⟩, fun z => absurd z h0, Or.inr ⟨h0, rfl⟩⟩
theorem lh_L_81 : LkH RL 81 yL_setHours cL_setHours 5 (some .int) [(0, 17, 20, 13)] 4 := ⟨um_L_81, ui_L, ud_L_setHours, by decide +kernel, us_L_setHours⟩
theorem C_setPriority_codes (na nt : Nat) (v : S2) (r : R2) (p0 : Int32) (p1 : Int32) : (C_setPriority na nt v r p0 p1).1 = 0 ∨ (C_setPriority na nt v r p0 p1).1 = 2 ∨ (C_setPriority na nt v r p0 p1).1 = 1 ∨ (C_setPriority na nt v r p0 p1).1 = 3 := by
  unfold C_setPriority
  repeat' split
  all_goals first | exact Or.inl rfl | exact Or.inr (Or.inl rfl) | exact Or.inr (Or.inr (Or.inl rfl)) | exact Or.inr (Or.inr (Or.inr rfl)) | exact Or.inr rfl | exact Or.inr (Or.inr rfl)
set_option maxRecDepth 100000 in
set_option maxHeartbeats 4000000 in
theorem qL_setPriority (l : Launch) (hst : l.stackTraces = false) (D : va_G) (G : CG) (v : S2) (r : R2) (o : Nat) (f : Nat → Int64) (p0 : Int32) (p1 : Int32) (hG : GI D G) : CXH l D yL_setPriority cL_setPriority 5 (some .int) [(0, 10, 13, 19), (0, 10, 17, 13), (0, 10, 21, 29)] 8 155 2 12 (CW D G v r ++ [lng D o f]) [.ref (G.1 0 0), .int p0, .int p1, .ref o] (fun u w => ∃ (kk : Int32) (f' : Nat → Int64), u = some (.int kk) ∧ KC [2, 1, 3] (C_setPriority (nA G) (nT G) v r p0 p1).1 kk ∧ ((C_setPriority (nA G) (nT G) v r p0 p1).1 = 0 → f' 0 = (((C_setPriority (nA G) (nT G) v r p0 p1).2.1).toInt64)) ∧ (((C_setPriority (nA G) (nT G) v r p0 p1).1 = 0 ∧ w = CW D G (C_setPriority (nA G) (nT G) v r p0 p1).2.2.1 (C_setPriority (nA G) (nT G) v r p0 p1).2.2.2 ++ [lng D o f']) ∨ ((C_setPriority (nA G) (nT G) v r p0 p1).1 ≠ 0 ∧ w = CW D G v r ++ [lng D o f']))) := by
  refine CXH_of [some (.ref (G.1 0 0)), some (.int p0), some (.int p1), some (.ref o), none] hst (by decide +kernel) rfl (Nat.le_of_ble_eq_true rfl) (fun k F hl hD hR hT => ?_)
  subst hl hD
  refine j_aloadn F dL_setPriority_0 rfl ?_
  refine j_iconst F (v := 0) dL_setPriority_1 (by decide) ?_
  refine j_aloadn F dL_setPriority_2 rfl ?_
  refine j_iloadn F dL_setPriority_3 rfl ?_
  refine j_iloadn F dL_setPriority_4 rfl ?_
  refine j_cxV F hR.1 (qX3_setPriority (kl k) hst (kD k) G v r p0 p1 hG) lk_L_44 dL_setPriority_5 ⟨(Nat.le_of_ble_eq_true rfl), (Nat.le_of_ble_eq_true rfl)⟩ 0 rfl rfl rfl (Nat.le_of_ble_eq_true rfl) ⟨(Nat.le_of_ble_eq_true rfl), (Nat.le_of_ble_eq_true rfl)⟩ (fun u w1 hp => ?_) (fun E hE => ?_)
  · obtain ⟨h0, rfl, rfl⟩ := hp
    refine j_i2l F dL_setPriority_8 ?_
    refine j_perm ([lng (kD k) o f] ++ CW (kD k) G (C_setPriority (nA G) (nT G) v r p0 p1).2.2.1 (C_setPriority (nA G) (nT G) v r p0 p1).2.2.2) List.perm_append_comm ?_
    refine j_last F hR.1 dL_setPriority_9 0 rfl (by unfold vp_in; decide +kernel) ([lng (kD k) o (vp_updL f 0 (((C_setPriority (nA G) (nT G) v r p0 p1).2.1).toInt64))] ++ CW (kD k) G (C_setPriority (nA G) (nT G) v r p0 p1).2.2.1 (C_setPriority (nA G) (nT G) v r p0 p1).2.2.2) rfl ?_
    refine j_perm (CW (kD k) G (C_setPriority (nA G) (nT G) v r p0 p1).2.2.1 (C_setPriority (nA G) (nT G) v r p0 p1).2.2.2 ++ [lng (kD k) o (vp_updL f 0 (((C_setPriority (nA G) (nT G) v r p0 p1).2.1).toInt64))]) List.perm_append_comm ?_
    refine j_goto F (tgt := 25) dL_setPriority_10 (by decide) ?_
    refine j_iconst F (v := 0) dL_setPriority_25 (by decide) ?_
    exact j_iret F hR dL_setPriority_26 (Nat.le_of_ble_eq_true rfl) (Nat.le_of_ble_eq_true rfl) ⟨0, _, rfl, Or.inl ⟨h0, rfl⟩, fun _ => (congrArg (fun z => z) (show vp_updL f 0 (((C_setPriority (nA G) (nT G) v r p0 p1).2.1).toInt64) 0 = _ from if_pos rfl)), Or.inl ⟨h0, rfl⟩⟩
  · obtain ⟨h0, rfl⟩ := hE
    rcases C_setPriority_codes (nA G) (nT G) v r p0 p1 with e | e | e | e
    · exact absurd e h0
    · rw [e, show xE 2 = eI from by decide]
      refine j_catch F hT [] ⟨0, 10, 13, 19⟩ [⟨0, 10, 17, 13⟩, ⟨0, 10, 21, 29⟩] rfl (fun _ hz => absurd hz List.not_mem_nil) (by decide) (by decide) ul_L_19 (by decide) (fun q => ?_)
      refine j_astore F [some (.ref (G.1 0 0)), some (.int p0), some (.int p1), some (.ref o), some (.ref q)] dL_setPriority_13 rfl rfl rfl ?_
      refine j_iconst F (v := 1) dL_setPriority_15 (by decide) ?_
      exact j_iret F hR dL_setPriority_16 (Nat.le_of_ble_eq_true rfl) (Nat.le_of_ble_eq_true rfl) ⟨1, f, rfl, Or.inr ⟨h0, 0, by rw [e]; rfl, rfl⟩, fun z => absurd z h0, Or.inr ⟨h0, rfl⟩⟩
    · rw [e, show xE 1 = eA from by decide]
      refine j_catch F hT [⟨0, 10, 13, 19⟩] ⟨0, 10, 17, 13⟩ [⟨0, 10, 21, 29⟩] rfl (fun z hz => ?_) (by decide) (by decide) ul_L_13 (by decide) (fun q => ?_)
      · simp only [List.mem_cons, List.not_mem_nil, or_false] at hz
        subst hz
        exact Or.inr ⟨(by decide), _, ul_L_19, (by decide)⟩
      refine j_astore F [some (.ref (G.1 0 0)), some (.int p0), some (.int p1), some (.ref o), some (.ref q)] dL_setPriority_17 rfl rfl rfl ?_
      refine j_iconst F (v := 2) dL_setPriority_19 (by decide) ?_
      exact j_iret F hR dL_setPriority_20 (Nat.le_of_ble_eq_true rfl) (Nat.le_of_ble_eq_true rfl) ⟨2, f, rfl, Or.inr ⟨h0, 1, by rw [e]; rfl, rfl⟩, fun z => absurd z h0, Or.inr ⟨h0, rfl⟩⟩
    · rw [e, show xE 3 = eS from by decide]
      refine j_catch F hT [⟨0, 10, 13, 19⟩, ⟨0, 10, 17, 13⟩] ⟨0, 10, 21, 29⟩ [] rfl (fun z hz => ?_) (by decide) (by decide) ul_L_29 (by decide) (fun q => ?_)
      · simp only [List.mem_cons, List.not_mem_nil, or_false] at hz
        rcases hz with rfl | rfl
        · exact Or.inr ⟨(by decide), _, ul_L_19, (by decide)⟩
        · exact Or.inr ⟨(by decide), _, ul_L_13, (by decide)⟩
      refine j_astore F [some (.ref (G.1 0 0)), some (.int p0), some (.int p1), some (.ref o), some (.ref q)] dL_setPriority_21 rfl rfl rfl ?_
      refine j_iconst F (v := 3) dL_setPriority_23 (by decide) ?_
      exact j_iret F hR dL_setPriority_24 (Nat.le_of_ble_eq_true rfl) (Nat.le_of_ble_eq_true rfl) ⟨3, f, rfl, Or.inr ⟨h0, 2, by rw [e]; rfl, rfl⟩, fun z => absurd z h0, Or.inr ⟨h0, rfl⟩⟩
theorem lh_L_119 : LkH RL 119 yL_setPriority cL_setPriority 5 (some .int) [(0, 10, 13, 19), (0, 10, 17, 13), (0, 10, 21, 29)] 4 := ⟨um_L_119, ui_L, ud_L_setPriority, by decide +kernel, us_L_setPriority⟩
theorem C_setSkills_codes (na nt : Nat) (v : S2) (r : R2) (p0 : Int32) (p1 : Int32) : (C_setSkills na nt v r p0 p1).1 = 0 ∨ (C_setSkills na nt v r p0 p1).1 = 2 ∨ (C_setSkills na nt v r p0 p1).1 = 1 := by
  unfold C_setSkills
  repeat' split
  all_goals first | exact Or.inl rfl | exact Or.inr (Or.inl rfl) | exact Or.inr (Or.inr (Or.inl rfl)) | exact Or.inr (Or.inr (Or.inr rfl)) | exact Or.inr rfl | exact Or.inr (Or.inr rfl)
set_option maxRecDepth 100000 in
set_option maxHeartbeats 4000000 in
theorem qL_setSkills (l : Launch) (hst : l.stackTraces = false) (D : va_G) (G : CG) (v : S2) (r : R2) (o : Nat) (f : Nat → Int64) (p0 : Int32) (p1 : Int32) (hG : GI D G) (hC : CI G v r) : CXH l D yL_setSkills cL_setSkills 5 (some .int) [(0, 10, 13, 19), (0, 10, 17, 13)] 8 156 2 12 (CW D G v r ++ [lng D o f]) [.ref (G.1 0 0), .int p0, .int p1, .ref o] (fun u w => ∃ (kk : Int32) (f' : Nat → Int64), u = some (.int kk) ∧ KC [2, 1] (C_setSkills (nA G) (nT G) v r p0 p1).1 kk ∧ ((C_setSkills (nA G) (nT G) v r p0 p1).1 = 0 → f' 0 = (((C_setSkills (nA G) (nT G) v r p0 p1).2.1).toInt64)) ∧ (((C_setSkills (nA G) (nT G) v r p0 p1).1 = 0 ∧ w = CW D G (C_setSkills (nA G) (nT G) v r p0 p1).2.2.1 (C_setSkills (nA G) (nT G) v r p0 p1).2.2.2 ++ [lng D o f']) ∨ ((C_setSkills (nA G) (nT G) v r p0 p1).1 ≠ 0 ∧ w = CW D G v r ++ [lng D o f']))) := by
  refine CXH_of [some (.ref (G.1 0 0)), some (.int p0), some (.int p1), some (.ref o), none] hst (by decide +kernel) rfl (Nat.le_of_ble_eq_true rfl) (fun k F hl hD hR hT => ?_)
  subst hl hD
  refine j_aloadn F dL_setSkills_0 rfl ?_
  refine j_iconst F (v := 0) dL_setSkills_1 (by decide) ?_
  refine j_aloadn F dL_setSkills_2 rfl ?_
  refine j_iloadn F dL_setSkills_3 rfl ?_
  refine j_iloadn F dL_setSkills_4 rfl ?_
  refine j_cxV F hR.1 (qX3_setSkills (kl k) hst (kD k) G v r p0 p1 hG hC) lk_L_31 dL_setSkills_5 ⟨(Nat.le_of_ble_eq_true rfl), (Nat.le_of_ble_eq_true rfl)⟩ 0 rfl rfl rfl (Nat.le_of_ble_eq_true rfl) ⟨(Nat.le_of_ble_eq_true rfl), (Nat.le_of_ble_eq_true rfl)⟩ (fun u w1 hp => ?_) (fun E hE => ?_)
  · obtain ⟨h0, rfl, rfl⟩ := hp
    refine j_i2l F dL_setSkills_8 ?_
    refine j_perm ([lng (kD k) o f] ++ CW (kD k) G (C_setSkills (nA G) (nT G) v r p0 p1).2.2.1 (C_setSkills (nA G) (nT G) v r p0 p1).2.2.2) List.perm_append_comm ?_
    refine j_last F hR.1 dL_setSkills_9 0 rfl (by unfold vp_in; decide +kernel) ([lng (kD k) o (vp_updL f 0 (((C_setSkills (nA G) (nT G) v r p0 p1).2.1).toInt64))] ++ CW (kD k) G (C_setSkills (nA G) (nT G) v r p0 p1).2.2.1 (C_setSkills (nA G) (nT G) v r p0 p1).2.2.2) rfl ?_
    refine j_perm (CW (kD k) G (C_setSkills (nA G) (nT G) v r p0 p1).2.2.1 (C_setSkills (nA G) (nT G) v r p0 p1).2.2.2 ++ [lng (kD k) o (vp_updL f 0 (((C_setSkills (nA G) (nT G) v r p0 p1).2.1).toInt64))]) List.perm_append_comm ?_
    refine j_goto F (tgt := 21) dL_setSkills_10 (by decide) ?_
    refine j_iconst F (v := 0) dL_setSkills_21 (by decide) ?_
    exact j_iret F hR dL_setSkills_22 (Nat.le_of_ble_eq_true rfl) (Nat.le_of_ble_eq_true rfl) ⟨0, _, rfl, Or.inl ⟨h0, rfl⟩, fun _ => (congrArg (fun z => z) (show vp_updL f 0 (((C_setSkills (nA G) (nT G) v r p0 p1).2.1).toInt64) 0 = _ from if_pos rfl)), Or.inl ⟨h0, rfl⟩⟩
  · obtain ⟨h0, rfl⟩ := hE
    rcases C_setSkills_codes (nA G) (nT G) v r p0 p1 with e | e | e
    · exact absurd e h0
    · rw [e, show xE 2 = eI from by decide]
      refine j_catch F hT [] ⟨0, 10, 13, 19⟩ [⟨0, 10, 17, 13⟩] rfl (fun _ hz => absurd hz List.not_mem_nil) (by decide) (by decide) ul_L_19 (by decide) (fun q => ?_)
      refine j_astore F [some (.ref (G.1 0 0)), some (.int p0), some (.int p1), some (.ref o), some (.ref q)] dL_setSkills_13 rfl rfl rfl ?_
      refine j_iconst F (v := 1) dL_setSkills_15 (by decide) ?_
      exact j_iret F hR dL_setSkills_16 (Nat.le_of_ble_eq_true rfl) (Nat.le_of_ble_eq_true rfl) ⟨1, f, rfl, Or.inr ⟨h0, 0, by rw [e]; rfl, rfl⟩, fun z => absurd z h0, Or.inr ⟨h0, rfl⟩⟩
    · rw [e, show xE 1 = eA from by decide]
      refine j_catch F hT [⟨0, 10, 13, 19⟩] ⟨0, 10, 17, 13⟩ [] rfl (fun z hz => ?_) (by decide) (by decide) ul_L_13 (by decide) (fun q => ?_)
      · simp only [List.mem_cons, List.not_mem_nil, or_false] at hz
        subst hz
        exact Or.inr ⟨(by decide), _, ul_L_19, (by decide)⟩
      refine j_astore F [some (.ref (G.1 0 0)), some (.int p0), some (.int p1), some (.ref o), some (.ref q)] dL_setSkills_17 rfl rfl rfl ?_
      refine j_iconst F (v := 2) dL_setSkills_19 (by decide) ?_
      exact j_iret F hR dL_setSkills_20 (Nat.le_of_ble_eq_true rfl) (Nat.le_of_ble_eq_true rfl) ⟨2, f, rfl, Or.inr ⟨h0, 1, by rw [e]; rfl, rfl⟩, fun z => absurd z h0, Or.inr ⟨h0, rfl⟩⟩
theorem lh_L_106 : LkH RL 106 yL_setSkills cL_setSkills 5 (some .int) [(0, 10, 13, 19), (0, 10, 17, 13)] 4 := ⟨um_L_106, ui_L, ud_L_setSkills, by decide +kernel, us_L_setSkills⟩
theorem C_setTargets_codes (na nt : Nat) (v : S2) (r : R2) (p0 : Int32) (p1 : Int32) (p2 : Int32) : (C_setTargets na nt v r p0 p1 p2).1 = 0 ∨ (C_setTargets na nt v r p0 p1 p2).1 = 2 ∨ (C_setTargets na nt v r p0 p1 p2).1 = 1 := by
  unfold C_setTargets
  repeat' split
  all_goals first | exact Or.inl rfl | exact Or.inr (Or.inl rfl) | exact Or.inr (Or.inr (Or.inl rfl)) | exact Or.inr (Or.inr (Or.inr rfl)) | exact Or.inr rfl | exact Or.inr (Or.inr rfl)
set_option maxRecDepth 100000 in
set_option maxHeartbeats 4000000 in
theorem qL_setTargets (l : Launch) (hst : l.stackTraces = false) (D : va_G) (G : CG) (v : S2) (r : R2) (o : Nat) (f : Nat → Int64) (p0 : Int32) (p1 : Int32) (p2 : Int32) : CXH l D yL_setTargets cL_setTargets 6 (some .int) [(0, 12, 15, 19), (0, 12, 19, 13)] 7 114 1 6 (CW D G v r ++ [lng D o f]) [.ref (G.1 0 0), .int p0, .int p1, .int p2, .ref o] (fun u w => ∃ (kk : Int32) (f' : Nat → Int64), u = some (.int kk) ∧ KC [2, 1] (C_setTargets (nA G) (nT G) v r p0 p1 p2).1 kk ∧ ((C_setTargets (nA G) (nT G) v r p0 p1 p2).1 = 0 → f' 0 = (((C_setTargets (nA G) (nT G) v r p0 p1 p2).2.1).toInt64)) ∧ (((C_setTargets (nA G) (nT G) v r p0 p1 p2).1 = 0 ∧ w = CW D G (C_setTargets (nA G) (nT G) v r p0 p1 p2).2.2.1 (C_setTargets (nA G) (nT G) v r p0 p1 p2).2.2.2 ++ [lng D o f']) ∨ ((C_setTargets (nA G) (nT G) v r p0 p1 p2).1 ≠ 0 ∧ w = CW D G v r ++ [lng D o f']))) := by
  refine CXH_of [some (.ref (G.1 0 0)), some (.int p0), some (.int p1), some (.int p2), some (.ref o), none] hst (by decide +kernel) rfl (Nat.le_of_ble_eq_true rfl) (fun k F hl hD hR hT => ?_)
  subst hl hD
  refine j_aload F dL_setTargets_0 rfl ?_
  refine j_iconst F (v := 0) dL_setTargets_2 (by decide) ?_
  refine j_aloadn F dL_setTargets_3 rfl ?_
  refine j_iloadn F dL_setTargets_4 rfl ?_
  refine j_iloadn F dL_setTargets_5 rfl ?_
  refine j_iloadn F dL_setTargets_6 rfl ?_
  refine j_cxV F hR.1 (qX3_setTargets (kl k) hst (kD k) G v r p0 p1 p2 ) lk_L_15 dL_setTargets_7 ⟨(Nat.le_of_ble_eq_true rfl), (Nat.le_of_ble_eq_true rfl)⟩ 0 rfl rfl rfl (Nat.le_of_ble_eq_true rfl) ⟨(Nat.le_of_ble_eq_true rfl), (Nat.le_of_ble_eq_true rfl)⟩ (fun u w1 hp => ?_) (fun E hE => ?_)
  · obtain ⟨h0, rfl, rfl⟩ := hp
    refine j_i2l F dL_setTargets_10 ?_
    refine j_perm ([lng (kD k) o f] ++ CW (kD k) G (C_setTargets (nA G) (nT G) v r p0 p1 p2).2.2.1 (C_setTargets (nA G) (nT G) v r p0 p1 p2).2.2.2) List.perm_append_comm ?_
    refine j_last F hR.1 dL_setTargets_11 0 rfl (by unfold vp_in; decide +kernel) ([lng (kD k) o (vp_updL f 0 (((C_setTargets (nA G) (nT G) v r p0 p1 p2).2.1).toInt64))] ++ CW (kD k) G (C_setTargets (nA G) (nT G) v r p0 p1 p2).2.2.1 (C_setTargets (nA G) (nT G) v r p0 p1 p2).2.2.2) rfl ?_
    refine j_perm (CW (kD k) G (C_setTargets (nA G) (nT G) v r p0 p1 p2).2.2.1 (C_setTargets (nA G) (nT G) v r p0 p1 p2).2.2.2 ++ [lng (kD k) o (vp_updL f 0 (((C_setTargets (nA G) (nT G) v r p0 p1 p2).2.1).toInt64))]) List.perm_append_comm ?_
    refine j_goto F (tgt := 23) dL_setTargets_12 (by decide) ?_
    refine j_iconst F (v := 0) dL_setTargets_23 (by decide) ?_
    exact j_iret F hR dL_setTargets_24 (Nat.le_of_ble_eq_true rfl) (Nat.le_of_ble_eq_true rfl) ⟨0, _, rfl, Or.inl ⟨h0, rfl⟩, fun _ => (congrArg (fun z => z) (show vp_updL f 0 (((C_setTargets (nA G) (nT G) v r p0 p1 p2).2.1).toInt64) 0 = _ from if_pos rfl)), Or.inl ⟨h0, rfl⟩⟩
  · obtain ⟨h0, rfl⟩ := hE
    rcases C_setTargets_codes (nA G) (nT G) v r p0 p1 p2 with e | e | e
    · exact absurd e h0
    · rw [e, show xE 2 = eI from by decide]
      refine j_catch F hT [] ⟨0, 12, 15, 19⟩ [⟨0, 12, 19, 13⟩] rfl (fun _ hz => absurd hz List.not_mem_nil) (by decide) (by decide) ul_L_19 (by decide) (fun q => ?_)
      refine j_astore F [some (.ref (G.1 0 0)), some (.int p0), some (.int p1), some (.int p2), some (.ref o), some (.ref q)] dL_setTargets_15 rfl rfl rfl ?_
      refine j_iconst F (v := 1) dL_setTargets_17 (by decide) ?_
      exact j_iret F hR dL_setTargets_18 (Nat.le_of_ble_eq_true rfl) (Nat.le_of_ble_eq_true rfl) ⟨1, f, rfl, Or.inr ⟨h0, 0, by rw [e]; rfl, rfl⟩, fun z => absurd z h0, Or.inr ⟨h0, rfl⟩⟩
    · rw [e, show xE 1 = eA from by decide]
      refine j_catch F hT [⟨0, 12, 15, 19⟩] ⟨0, 12, 19, 13⟩ [] rfl (fun z hz => ?_) (by decide) (by decide) ul_L_13 (by decide) (fun q => ?_)
      · simp only [List.mem_cons, List.not_mem_nil, or_false] at hz
        subst hz
        exact Or.inr ⟨(by decide), _, ul_L_19, (by decide)⟩
      refine j_astore F [some (.ref (G.1 0 0)), some (.int p0), some (.int p1), some (.int p2), some (.ref o), some (.ref q)] dL_setTargets_19 rfl rfl rfl ?_
      refine j_iconst F (v := 2) dL_setTargets_21 (by decide) ?_
      exact j_iret F hR dL_setTargets_22 (Nat.le_of_ble_eq_true rfl) (Nat.le_of_ble_eq_true rfl) ⟨2, f, rfl, Or.inr ⟨h0, 1, by rw [e]; rfl, rfl⟩, fun z => absurd z h0, Or.inr ⟨h0, rfl⟩⟩
theorem lh_L_91 : LkH RL 91 yL_setTargets cL_setTargets 6 (some .int) [(0, 12, 15, 19), (0, 12, 19, 13)] 5 := ⟨um_L_91, ui_L, ud_L_setTargets, by decide +kernel, us_L_setTargets⟩
theorem C_ticket_codes (na nt : Nat) (v : S2) (r : R2) (p0 : Int32) (p1 : Int32) : (C_ticket na nt v r p0 p1).1 = 0 ∨ (C_ticket na nt v r p0 p1).1 = 2 := by
  unfold C_ticket
  repeat' split
  all_goals first | exact Or.inl rfl | exact Or.inr (Or.inl rfl) | exact Or.inr (Or.inr (Or.inl rfl)) | exact Or.inr (Or.inr (Or.inr rfl)) | exact Or.inr rfl | exact Or.inr (Or.inr rfl)
set_option maxRecDepth 100000 in
set_option maxHeartbeats 4000000 in
theorem qL_ticket (l : Launch) (hst : l.stackTraces = false) (D : va_G) (G : CG) (v : S2) (r : R2) (o : Nat) (f : Nat → Int64) (p0 : Int32) (p1 : Int32) (hG : GI D G) (hC : CI G v r) : CXH l D yL_ticket cL_ticket 5 (some .int) [(0, 10, 13, 19)] 8 154 2 12 (CW D G v r ++ [lng D o f]) [.ref (G.1 0 0), .int p0, .int p1, .ref o] (fun u w => ∃ (kk : Int32) (f' : Nat → Int64), u = some (.int kk) ∧ KC [2] (C_ticket (nA G) (nT G) v r p0 p1).1 kk ∧ ((C_ticket (nA G) (nT G) v r p0 p1).1 = 0 → f' 0 = (((C_ticket (nA G) (nT G) v r p0 p1).2.1).toInt64)) ∧ (((C_ticket (nA G) (nT G) v r p0 p1).1 = 0 ∧ w = CW D G (C_ticket (nA G) (nT G) v r p0 p1).2.2.1 (C_ticket (nA G) (nT G) v r p0 p1).2.2.2 ++ [lng D o f']) ∨ ((C_ticket (nA G) (nT G) v r p0 p1).1 ≠ 0 ∧ w = CW D G v r ++ [lng D o f']))) := by
  refine CXH_of [some (.ref (G.1 0 0)), some (.int p0), some (.int p1), some (.ref o), none] hst (by decide +kernel) rfl (Nat.le_of_ble_eq_true rfl) (fun k F hl hD hR hT => ?_)
  subst hl hD
  refine j_aloadn F dL_ticket_0 rfl ?_
  refine j_iconst F (v := 0) dL_ticket_1 (by decide) ?_
  refine j_aloadn F dL_ticket_2 rfl ?_
  refine j_iloadn F dL_ticket_3 rfl ?_
  refine j_iloadn F dL_ticket_4 rfl ?_
  refine j_cxV F hR.1 (qX3_ticket (kl k) hst (kD k) G v r p0 p1 hG hC) lk_L_59 dL_ticket_5 ⟨(Nat.le_of_ble_eq_true rfl), (Nat.le_of_ble_eq_true rfl)⟩ 0 rfl rfl rfl (Nat.le_of_ble_eq_true rfl) ⟨(Nat.le_of_ble_eq_true rfl), (Nat.le_of_ble_eq_true rfl)⟩ (fun u w1 hp => ?_) (fun E hE => ?_)
  · obtain ⟨h0, rfl, rfl⟩ := hp
    refine j_i2l F dL_ticket_8 ?_
    refine j_perm ([lng (kD k) o f] ++ CW (kD k) G (C_ticket (nA G) (nT G) v r p0 p1).2.2.1 (C_ticket (nA G) (nT G) v r p0 p1).2.2.2) List.perm_append_comm ?_
    refine j_last F hR.1 dL_ticket_9 0 rfl (by unfold vp_in; decide +kernel) ([lng (kD k) o (vp_updL f 0 (((C_ticket (nA G) (nT G) v r p0 p1).2.1).toInt64))] ++ CW (kD k) G (C_ticket (nA G) (nT G) v r p0 p1).2.2.1 (C_ticket (nA G) (nT G) v r p0 p1).2.2.2) rfl ?_
    refine j_perm (CW (kD k) G (C_ticket (nA G) (nT G) v r p0 p1).2.2.1 (C_ticket (nA G) (nT G) v r p0 p1).2.2.2 ++ [lng (kD k) o (vp_updL f 0 (((C_ticket (nA G) (nT G) v r p0 p1).2.1).toInt64))]) List.perm_append_comm ?_
    refine j_goto F (tgt := 17) dL_ticket_10 (by decide) ?_
    refine j_iconst F (v := 0) dL_ticket_17 (by decide) ?_
    exact j_iret F hR dL_ticket_18 (Nat.le_of_ble_eq_true rfl) (Nat.le_of_ble_eq_true rfl) ⟨0, _, rfl, Or.inl ⟨h0, rfl⟩, fun _ => (congrArg (fun z => z) (show vp_updL f 0 (((C_ticket (nA G) (nT G) v r p0 p1).2.1).toInt64) 0 = _ from if_pos rfl)), Or.inl ⟨h0, rfl⟩⟩
  · obtain ⟨h0, rfl⟩ := hE
    rcases C_ticket_codes (nA G) (nT G) v r p0 p1 with e | e
    · exact absurd e h0
    · rw [e, show xE 2 = eI from by decide]
      refine j_catch F hT [] ⟨0, 10, 13, 19⟩ [] rfl (fun _ hz => absurd hz List.not_mem_nil) (by decide) (by decide) ul_L_19 (by decide) (fun q => ?_)
      refine j_astore F [some (.ref (G.1 0 0)), some (.int p0), some (.int p1), some (.ref o), some (.ref q)] dL_ticket_13 rfl rfl rfl ?_
      refine j_iconst F (v := 1) dL_ticket_15 (by decide) ?_
      exact j_iret F hR dL_ticket_16 (Nat.le_of_ble_eq_true rfl) (Nat.le_of_ble_eq_true rfl) ⟨1, f, rfl, Or.inr ⟨h0, 0, by rw [e]; rfl, rfl⟩, fun z => absurd z h0, Or.inr ⟨h0, rfl⟩⟩
theorem lh_L_138 : LkH RL 138 yL_ticket cL_ticket 5 (some .int) [(0, 10, 13, 19)] 4 := ⟨um_L_138, ui_L, ud_L_ticket, by decide +kernel, us_L_ticket⟩
