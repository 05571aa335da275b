/-! CALL ROWS -/
def LkB (own : String) (idx : Nat) (y : MethodName) (cc : ByteArray) (maxL : Nat) (ret : Option FieldType) (n : Nat) : Prop := Cond.methodLink own idx y ∈ Uw ∧ Cond.initialized y.cls ∈ Uw ∧ Cond.code y cc maxL ret ∈ Uw ∧ (y.cls ≠ "java/lang/invoke/MethodHandle" ∧ y.cls ≠ "java/lang/invoke/VarHandle" ∧ (parseMethodDescriptor y.desc).map (fun d => d.parameters.length) = some n)
def LkV (own : String) (idx : Nat) (C : String) (y : MethodName) (cc : ByteArray) (maxL : Nat) (ret : Option FieldType) (n : Nat) : Prop := LkB own idx y cc maxL ret n ∧ Cond.instanceMethod y ∈ Uw ∧ Cond.selects C y y ∈ Uw
def LkS (own : String) (idx : Nat) (y : MethodName) (cc : ByteArray) (maxL : Nat) (ret : Option FieldType) (n : Nat) : Prop := LkB own idx y cc maxL ret n ∧ Cond.static y ∈ Uw
def LkI (own : String) (idx : Nat) (y : MethodName) (cc : ByteArray) (maxL : Nat) (n : Nat) : Prop := LkB own idx y cc maxL none n ∧ y.name = "<init>" ∧ Cond.instanceMethod y ∈ Uw
section CROWS
variable {k : Kx} {cc : ByteArray} {own : String} {R : Room} {nL : Nat} {ws ws' wc wr : va_W} {c n pc : Nat} {lv lv' : List (Option Value)} {st stk : List Value}
theorem lkB {y : MethodName} {ccy : ByteArray} {maxL : Nat} {ret : Option FieldType} {fr lo mc ms idx m : Nat} (F : Fx k cc own R nL) (h : LkB own idx y ccy maxL ret m) (hR : fr + 1 ≤ R.frames ∧ 8 + (maxL + 11) + lo ≤ R.locals) : CallB (kR k) (ks k) (kargs k) own idx y ccy maxL ret (wU y ccy maxL ret) (rm4 fr mc ms lo) mc ms m :=
  callB_of (Ts := Uw) m (fun _ q => F.hts q) (wU_good h.2.2.1) rfl rfl rfl (F.hts h.2.1) (F.hts h.1) h.2.2.2 (by rw [F.hR]; exact hR)
theorem lkV {C : String} {y : MethodName} {ccy : ByteArray} {maxL : Nat} {ret : Option FieldType} {fr lo mc ms idx m : Nat} (F : Fx k cc own R nL) (h : LkV own idx C y ccy maxL ret m) (hR : fr + 1 ≤ R.frames ∧ 8 + (maxL + 11) + lo ≤ R.locals) : CallW (kR k) (ks k) (kargs k) own C idx y ccy maxL ret (wU y ccy maxL ret) (rm4 fr mc ms lo) mc ms m :=
  ⟨lkB F h.1 hR, F.hts h.2.1, F.hts h.2.2⟩
theorem lkS {y : MethodName} {ccy : ByteArray} {maxL : Nat} {ret : Option FieldType} {fr lo mc ms idx m : Nat} (F : Fx k cc own R nL) (h : LkS own idx y ccy maxL ret m) (hR : fr + 1 ≤ R.frames ∧ 8 + (maxL + 11) + lo ≤ R.locals) : CallB (kR k) (ks k) (kargs k) own idx y ccy maxL ret (wU y ccy maxL ret) (rm4 fr mc ms lo) mc ms m ∧ (Cond.static y).before (kargs k) (ks k) = true :=
  ⟨lkB F h.1 hR, F.hts h.2⟩
theorem lkI {y : MethodName} {ccy : ByteArray} {maxL : Nat} {fr lo mc ms idx m : Nat} (F : Fx k cc own R nL) (h : LkI own idx y ccy maxL m) (hR : fr + 1 ≤ R.frames ∧ 8 + (maxL + 11) + lo ≤ R.locals) : CallB (kR k) (ks k) (kargs k) own idx y ccy maxL none (wU y ccy maxL none) (rm4 fr mc ms lo) mc ms m ∧ y.name = "<init>" ∧ (Cond.instanceMethod y).before (kargs k) (ks k) = true :=
  ⟨lkB F h.1 hR, h.2.1, F.hts h.2.2⟩
theorem Wd.recv (F : Fx k cc own R nL) {H : Heap} {locs : List Loc} (hP : Wd k ws H locs) {C : String} {T : u_T} {N ci b q : Nat} {fs : List Value} (hq : ws[q]? = some (b, .inr (ci, fs))) (hc : vwCl[ci]? = some (C, T, N)) : ∃ cell : Cell, H[b]? = some cell ∧ cell.vm.isStatics = false ∧ (ks k).vm.findClass C = some cell.cls := va_recv F.hK.1 hP.1 hc hq
theorem PreR.at (F : Fx k cc own R nL) {H : Heap} {locs : List Loc} (hP : Wd k ws H locs) (hs : ∀ q ∈ wc, q ∈ ws) {as : List Value} : PreS (ks k) H (va_Pc as (fun U => va_P (kD k) vwCl wc U.heap ∧ KK (kD k) U)) as :=
  ⟨PreR.blind, fun U hU hW => ⟨rfl, by
    rw [hU]
    intro i q hq
    obtain ⟨j, hj⟩ := List.getElem?_of_mem (hs q (List.mem_of_getElem? hq))
    exact hP.1 j q hj, F.hK.warm hW⟩⟩
theorem run_rd {H : Heap} {locs : List Loc} {ls : Array Slot} {v : Value} {a : Array Value} (hr : va_Run (kp k) (kl k) (ke k) (kR k) (ks k) (km k) (kargs k) (kbelow k) (kmeth k) (kc k) H locs c n 0 0 (F0 (km k) pc ls stk) st ((fun (_ : Array Value) (st oc t) => oc = .returned (some v) ∧ t.heap = st.heap) a) (fun _ => False))
    (K : W (kp k) (kl k) (ke k) (kR k) (ks k) (km k) (kargs k) (kbelow k) (kmeth k) (kc k) H locs c n (kQ k) (F0 (km k) (pc + 3) ls (v :: st))) : W (kp k) (kl k) (ke k) (kR k) (ks k) (km k) (kargs k) (kbelow k) (kmeth k) (kc k) H locs c n (kQ k) (F0 (km k) pc ls stk) := by
  intro T hT X
  obtain ⟨w, st₀, t, T', L, h0, X', hL, e1, e2, ⟨hv, hh⟩, hg⟩ := hr T hT X
  cases hv
  have hLe : L = [] := List.eq_nil_iff_forall_not_mem.mpr fun q hq => hL q hq
  subst hLe
  rw [List.append_nil] at X'
  obtain ⟨t2, a1, b1⟩ := K T' (by rw [e1, hh, h0]) X'
  exact ⟨t2, hg t2 a1, b1⟩
theorem j_rdV (F : Fx k cc own R nL) {C : String} {y : MethodName} {ccy : ByteArray} {maxL : Nat} {ret : Option FieldType} {fr lo idx b : Nat} {as : List Value} {v : Value} (hM : CR (kl k) (kD k) y ccy maxL ret fr lo wc (.ref b :: as) v) (hk : LkV own idx C y ccy maxL ret as.length) (hd : decode cc pc = .ok (.invokevirtual idx, 3)) (hR : fr + 1 ≤ R.frames ∧ 8 + (maxL + 11) + lo ≤ R.locals) (hs : ∀ q ∈ wc, q ∈ ws)
    {T : u_T} {N ci : Nat} {fs : List Value} (q : Nat) (hq : ws[q]? = some (b, .inr (ci, fs))) (hc : vwCl[ci]? = some (C, T, N)) (hst : stk = as.reverse ++ .ref b :: st) (hW : (st.map fun v => v.category).sum ≤ 8) (hcn : c ≤ R.cells ∧ n ≤ R.slots) (K : J k ws c n (pc + 3) lv (v :: st)) : J k ws c n pc lv stk := fun H locs ls hP hL =>
  run_rd (a := (Value.ref b :: as).toArray) (va_runV (As := as) (rest := st) F.fix hM (lkV F hk hR) ⟨PreR.blind, hP.recv F hq hc, (PreR.at F hP hs).2⟩ rfl rfl (hL.1.trans F.hn) hst (lv_room hW) hd (by rw [F.hR]; exact hcn)) (K H locs ls hP hL)
theorem j_rdS (F : Fx k cc own R nL) {y : MethodName} {ccy : ByteArray} {maxL : Nat} {ret : Option FieldType} {fr lo idx : Nat} {as : List Value} {v : Value} (hM : CR (kl k) (kD k) y ccy maxL ret fr lo wc as v) (hk : LkS own idx y ccy maxL ret as.length) (hd : decode cc pc = .ok (.invokestatic idx, 3)) (hR : fr + 1 ≤ R.frames ∧ 8 + (maxL + 11) + lo ≤ R.locals) (hs : ∀ q ∈ wc, q ∈ ws)
    (hst : stk = as.reverse ++ st) (hW : (st.map fun v => v.category).sum ≤ 8) (hcn : c ≤ R.cells ∧ n ≤ R.slots) (K : J k ws c n (pc + 3) lv (v :: st)) : J k ws c n pc lv stk := fun H locs ls hP hL =>
  run_rd (a := as.toArray) (va_runS (As := as) (rest := st) F.fix hM (lkS F hk hR) (PreR.at F hP hs) rfl rfl (hL.1.trans F.hn) hst (lv_room hW) hd (by rw [F.hR]; exact hcn)) (K H locs ls hP hL)
theorem j_rdSN (F : Fx k cc own R nL) {y : MethodName} {host : String} {ccy : ByteArray} {maxL : Nat} {ret : Option FieldType} {fr lo idx : Nat} {as : List Value} {v : Value} (hM : CR (kl k) (kD k) y ccy maxL ret fr lo wc as v) (hl : va_Nw (.methodLinkNest own idx y host) (ks k)) (hi : Cond.initialized y.cls ∈ Uw) (hcd : Cond.code y ccy maxL ret ∈ Uw) (hsy : Cond.static y ∈ Uw) (hdd : y.cls ≠ "java/lang/invoke/MethodHandle" ∧ y.cls ≠ "java/lang/invoke/VarHandle" ∧ (parseMethodDescriptor y.desc).map (fun d => d.parameters.length) = some as.length) (hd : decode cc pc = .ok (.invokestatic idx, 3)) (hR : fr + 1 ≤ R.frames ∧ 8 + (maxL + 11) + lo ≤ R.locals) (hs : ∀ q ∈ wc, q ∈ ws)
    (hst : stk = as.reverse ++ st) (hW : (st.map fun v => v.category).sum ≤ 8) (hcn : c ≤ R.cells ∧ n ≤ R.slots) (K : J k ws c n (pc + 3) lv (v :: st)) : J k ws c n pc lv stk := fun H locs ls hP hL =>
  run_rd (a := as.toArray) (va_runSN (As := as) (rest := st) F.fix hM ⟨va_cnB (Ts := Uw) _ (fun _ q => F.hts q) (wU_good hcd) rfl rfl rfl hl (F.hts hi) hdd (by rw [F.hR]; exact hR), F.hts hsy, trivial⟩ (PreR.at F hP hs) rfl rfl (hL.1.trans F.hn) hst (lv_room hW) hd (by rw [F.hR]; exact hcn)) (K H locs ls hP hL)
/-- the frame: behind a call the callee's cells are its new ones, the rest is as it was -/
theorem Wd.call (F : Fx k cc own R nL) {w1 : va_W} {H H1 : Heap} {locs L : List Loc} (hw : kw k = true) (h : Wd k (wc ++ wr) H locs) (hP1 : va_P (kD k) vwCl w1 H1) (hD1 : va_D (va_A wc H.size) w1) (hz : H.size ≤ H1.size) (hkp : ∀ q : Nat, q < H.size → ¬ va_A wc H.size q → H1[q]? = H[q]?) (hL : ∀ z ∈ L, va_A wc H.size z.base) : Wd k (w1 ++ wr) H1 (locs ++ L) := by
  have hD := h.2.1 hw
  have hA : ∀ q, va_A wc H.size q → kA k q := by
    rintro q (⟨i, e, hi⟩ | hq)
    · exact hD.2 i (q, e) (by rw [List.getElem?_append_left (List.getElem?_eq_some_iff.mp hi).1]; exact hi)
    · exact F.hA hw q (Nat.le_trans h.2.2.1.1 hq)
  have hr : ∀ (i : Nat) (q : Nat × va_E), wr[i]? = some q → q.1 < H.size ∧ ¬ va_A wc H.size q.1 := by
    intro i q hq
    have hq' : (wc ++ wr)[wc.length + i]? = some q := by rw [List.getElem?_append_right (by omega), Nat.add_sub_cancel_left]; exact hq
    have hl := (h.1 _ q hq').lt
    refine ⟨hl, ?_⟩
    rintro (⟨j, e, hj⟩ | hq2)
    · have hj1 := (List.getElem?_eq_some_iff.mp hj).1
      have := hD.1 (wc.length + i) j q (q.1, e) hq' (by rw [List.getElem?_append_left hj1]; exact hj) rfl
      omega
    · omega
  refine ⟨hP1.app fun i q hq => ?_, fun _ => va_D.app (hD1.weaken fun _ q _ z => hA q.1 z) ⟨fun i j p q hp hq e => ?_, fun i q hq => ?_⟩ fun i j p q hp hq e => ?_, ⟨Nat.le_trans h.2.2.1.1 hz, fun q h1 h2 => ?_, fun z hzz => ?_⟩, fun e => by rw [hw] at e; cases e⟩
  · have hq' : (wc ++ wr)[wc.length + i]? = some q := by rw [List.getElem?_append_right (by omega), Nat.add_sub_cancel_left]; exact hq
    exact (h.1 _ q hq').kept (hkp q.1 (hr i q hq).1 (hr i q hq).2)
  · have := hD.1 (wc.length + i) (wc.length + j) p q (by rw [List.getElem?_append_right (by omega), Nat.add_sub_cancel_left]; exact hp) (by rw [List.getElem?_append_right (by omega), Nat.add_sub_cancel_left]; exact hq) e
    omega
  · exact hD.2 (wc.length + i) q (by rw [List.getElem?_append_right (by omega), Nat.add_sub_cancel_left]; exact hq)
  · exact (hr j q hq).2 (by rw [← e]; exact hD1.2 i p hp)
  · rw [hkp q (Nat.lt_of_lt_of_le h1 h.2.2.1.1) (fun z => h2 (hA q z))]
    exact h.2.2.1.2.1 q h1 h2
  · rcases List.mem_append.mp hzz with z1 | z1
    · exact h.2.2.1.2.2 z z1
    · exact hA _ (hL z z1)
theorem PreM.at (F : Fx k cc own R nL) {H : Heap} {locs : List Loc} (hw : kw k = true) (h : Wd k (wc ++ wr) H locs) {as : List Value} : PreS (ks k) H (va_Pc as (PreM (kD k) wc H.size)) as := by
  have hD := h.2.1 hw
  refine ⟨PreM.blind, fun U hU hW => ⟨rfl, by rw [hU], by rw [hU]; exact fun i q hq => h.1 i q (by rw [List.getElem?_append_left (List.getElem?_eq_some_iff.mp hq).1]; exact hq), F.hK.warm hW, ⟨fun i j p q hp hq e => hD.1 i j p q (by rw [List.getElem?_append_left (List.getElem?_eq_some_iff.mp hp).1]; exact hp) (by rw [List.getElem?_append_left (List.getElem?_eq_some_iff.mp hq).1]; exact hq) e, fun _ _ _ => trivial⟩, ?_⟩⟩
  rw [hU]
  refine ((F.hZ hw).kept h.2.2.1.2.1 |>.moved hW.alike).narrow ?_
  rintro q (⟨i, e, hi⟩ | hq)
  · exact hD.2 i (q, e) (by rw [List.getElem?_append_left (List.getElem?_eq_some_iff.mp hi).1]; exact hi)
  · exact F.hA hw q (Nat.le_trans h.2.2.1.1 hq)
theorem run_cm (F : Fx k cc own R nL) (hw : kw k = true) {H : Heap} {locs : List Loc} {ls : Array Slot} {a : Array Value} {mc ms : Nat} {P : Option Value → va_W → Prop} (h : Wd k (wc ++ wr) H locs) (hr : va_Run (kp k) (kl k) (ke k) (kR k) (ks k) (km k) (kargs k) (kbelow k) (kmeth k) (kc k) H locs c n mc ms (F0 (km k) pc ls stk) st (PostM (kD k) wc H.size P a) (va_A wc H.size))
    (K : ∀ (v : Option Value) (w1 : va_W) (H1 : Heap) (locs1 : List Loc), P v w1 → Wd k (w1 ++ wr) H1 locs1 → W (kp k) (kl k) (ke k) (kR k) (ks k) (km k) (kargs k) (kbelow k) (kmeth k) (kc k) H1 locs1 (c + mc) (n + ms) (kQ k) (F0 (km k) (pc + 3) ls (vlist v st))) : W (kp k) (kl k) (ke k) (kR k) (ks k) (km k) (kargs k) (kbelow k) (kmeth k) (kc k) H locs c n (kQ k) (F0 (km k) pc ls stk) := by
  intro T hT X
  obtain ⟨w, st₀, t, T', L, h0, X', hL, e1, e2, ⟨v, w1, hv, hp, hP1, hD1, hF⟩, hg⟩ := hr T hT X
  cases hv
  subst h0
  obtain ⟨t2, a1, b1⟩ := K w w1 t.heap (locs ++ L) hp (h.call F hw hP1 hD1 hF.1 hF.2 hL) T' e1 X'
  exact ⟨t2, hg t2 a1, b1⟩
theorem j_cmV (F : Fx k cc own R nL) (hw : kw k = true) {C : String} {y : MethodName} {ccy : ByteArray} {maxL : Nat} {ret : Option FieldType} {fr lo mc ms idx b : Nat} {as : List Value} {P : Option Value → va_W → Prop} (hM : CM (kl k) (kD k) y ccy maxL ret fr lo mc ms wc (.ref b :: as) P) (hk : LkV own idx C y ccy maxL ret as.length) (hd : decode cc pc = .ok (.invokevirtual idx, 3)) (hR : fr + 1 ≤ R.frames ∧ 8 + (maxL + 11) + lo ≤ R.locals)
    {T : u_T} {N ci : Nat} {fs : List Value} (q : Nat) (hq : (wc ++ wr)[q]? = some (b, .inr (ci, fs))) (hc : vwCl[ci]? = some (C, T, N)) (hst : stk = as.reverse ++ .ref b :: st) (hW : (st.map fun v => v.category).sum ≤ 8) (hcn : c + mc ≤ R.cells ∧ n + ms ≤ R.slots) (K : ∀ v w1, P v w1 → J k (w1 ++ wr) (c + mc) (n + ms) (pc + 3) lv (vlist v st)) : J k (wc ++ wr) c n pc lv stk := fun H locs ls hP hL =>
  run_cm F hw hP (a := (Value.ref b :: as).toArray) (va_runV (As := as) (rest := st) F.fix (hM H.size) (lkV F hk hR) ⟨PreM.blind, hP.recv F hq hc, (PreM.at F hw hP).2⟩ rfl rfl (hL.1.trans F.hn) hst (lv_room hW) hd (by rw [F.hR]; exact hcn)) (fun v w1 H1 locs1 hp h1 => K v w1 hp H1 locs1 ls h1 hL)
theorem j_cmS (F : Fx k cc own R nL) (hw : kw k = true) {y : MethodName} {ccy : ByteArray} {maxL : Nat} {ret : Option FieldType} {fr lo mc ms idx : Nat} {as : List Value} {P : Option Value → va_W → Prop} (hM : CM (kl k) (kD k) y ccy maxL ret fr lo mc ms wc as P) (hk : LkS own idx y ccy maxL ret as.length) (hd : decode cc pc = .ok (.invokestatic idx, 3)) (hR : fr + 1 ≤ R.frames ∧ 8 + (maxL + 11) + lo ≤ R.locals)
    (hst : stk = as.reverse ++ st) (hW : (st.map fun v => v.category).sum ≤ 8) (hcn : c + mc ≤ R.cells ∧ n + ms ≤ R.slots) (K : ∀ v w1, P v w1 → J k (w1 ++ wr) (c + mc) (n + ms) (pc + 3) lv (vlist v st)) : J k (wc ++ wr) c n pc lv stk := fun H locs ls hP hL =>
  run_cm F hw hP (a := as.toArray) (va_runS (As := as) (rest := st) F.fix (hM H.size) (lkS F hk hR) (PreM.at F hw hP) rfl rfl (hL.1.trans F.hn) hst (lv_room hW) hd (by rw [F.hR]; exact hcn)) (fun v w1 H1 locs1 hp h1 => K v w1 hp H1 locs1 ls h1 hL)
theorem j_cmI (F : Fx k cc own R nL) (hw : kw k = true) {y : MethodName} {ccy : ByteArray} {maxL : Nat} {fr lo mc ms idx b : Nat} {as : List Value} {P : Option Value → va_W → Prop} (hM : CM (kl k) (kD k) y ccy maxL none fr lo mc ms wc (.ref b :: as) P) (hk : LkI own idx y ccy maxL as.length) (hd : decode cc pc = .ok (.invokespecial idx, 3)) (hR : fr + 1 ≤ R.frames ∧ 8 + (maxL + 11) + lo ≤ R.locals)
    (hst : stk = as.reverse ++ .ref b :: st) (hW : (st.map fun v => v.category).sum ≤ 8) (hcn : c + mc ≤ R.cells ∧ n + ms ≤ R.slots) (K : ∀ v w1, P v w1 → J k (w1 ++ wr) (c + mc) (n + ms) (pc + 3) lv (vlist v st)) : J k (wc ++ wr) c n pc lv stk := fun H locs ls hP hL =>
  run_cm F hw hP (a := (Value.ref b :: as).toArray) (va_runI (As := as) (rest := st) F.fix (hM H.size) (lkI F hk hR) (PreM.at F hw hP) rfl rfl (hL.1.trans F.hn) hst (lv_room hW) hd (by rw [F.hR]; exact hcn)) (fun v w1 H1 locs1 hp h1 => K v w1 hp H1 locs1 ls h1 hL)
/-- Object's constructor -/
theorem j_objInit (F : Fx k cc own R nL) {idx a : Nat} (hl : Cond.methodLink own idx objectInit ∈ Uw) (hi : Cond.instanceMethod objectInit ∈ Uw) (hcd : Cond.code objectInit ⟨#[0xb1]⟩ 1 none ∈ Uw) (hd : decode cc pc = .ok (.invokespecial idx, 3)) (hR : 1 ≤ R.frames ∧ (st.map fun v => v.category).sum + 12 ≤ R.locals) (K : J k ws c n (pc + 3) lv st) : J k ws c n pc lv (.ref a :: st) := fun H locs ls hP hL =>
  W.objInit F.hx F.hb F.hown (F.hts hl) (F.hts hi) (F.hts hcd) rfl (hL.1.trans (F.hn.trans F.hml.symm)) rfl hd (by rw [F.hR]; exact hR.1) (by rw [F.hR]; show 2 * 0 + _ + 12 ≤ _; rw [Nat.mul_zero, Nat.zero_add]; exact hR.2) (K H locs ls hP hL)
theorem j_mmax (F : Fx k cc own R nL) {idx : Nat} {x y : Int32} (hl : Cond.methodLink own idx Lib.Math.max.name ∈ Uw) (hs : Cond.static Lib.Math.max.name ∈ Uw) (hi : Cond.initialized "java/lang/Math" ∈ Uw) (hcd : Cond.code Lib.Math.max.name Lib.Math.max.code 2 (some .int) ∈ Uw) (hd : decode cc pc = .ok (.invokestatic idx, 3)) (hR : 1 ≤ R.frames ∧ (st.map fun v => v.category).sum + 13 ≤ R.locals ∧ c ≤ R.cells ∧ n ≤ R.slots) (K : J k ws c n (pc + 3) lv (.int (if x < y then y else x) :: st)) : J k ws c n pc lv (.int y :: .int x :: st) := fun H locs ls hP hL =>
  va_mmax F.hx F.hb (F.hml.trans (F.hn.symm.trans hL.1.symm)) F.hown (F.hts hl) (F.hts hs) (F.hts hi) (F.hts hcd) (by rw [F.hR]; exact hR.1) (by rw [F.hR]; exact hR.2.1) (by rw [F.hR]; exact hR.2.2.1) (by rw [F.hR]; exact hR.2.2.2) hd (K H locs ls hP hL)
theorem j_mmin (F : Fx k cc own R nL) {idx : Nat} {x y : Int32} (hl : Cond.methodLink own idx Lib.Math.min.name ∈ Uw) (hs : Cond.static Lib.Math.min.name ∈ Uw) (hi : Cond.initialized "java/lang/Math" ∈ Uw) (hcd : Cond.code Lib.Math.min.name Lib.Math.min.code 2 (some .int) ∈ Uw) (hd : decode cc pc = .ok (.invokestatic idx, 3)) (hR : 1 ≤ R.frames ∧ (st.map fun v => v.category).sum + 13 ≤ R.locals ∧ c ≤ R.cells ∧ n ≤ R.slots) (K : J k ws c n (pc + 3) lv (.int (if y < x then y else x) :: st)) : J k ws c n pc lv (.int y :: .int x :: st) := fun H locs ls hP hL =>
  va_mmin F.hx F.hb (F.hml.trans (F.hn.symm.trans hL.1.symm)) F.hown (F.hts hl) (F.hts hs) (F.hts hi) (F.hts hcd) (by rw [F.hR]; exact hR.1) (by rw [F.hR]; exact hR.2.1) (by rw [F.hR]; exact hR.2.2.1) (by rw [F.hR]; exact hR.2.2.2) hd (K H locs ls hP hL)
/-- a new object -/
theorem j_new (F : Fx k cc own R nL) (hw : kw k = true) {C : String} {T : u_T} {N ci idx : Nat} {fs : List Value} (ty : Nat → FieldType) (hin : ∀ w ∈ u_ws C T N, w ∈ Uw) (hty : ∀ k, k < N → parseFieldDescriptor (T k).2.2.1 = some (ty k)) (hl : Cond.classLink own idx C ∈ Uw) (hi : Cond.instantiable C N ∈ Uw) (hini : Cond.initialized C ∈ Uw) (hc : vwCl[ci]? = some (C, T, N)) (hfs : ∀ j, j < N → defaultValue (ty j) = vp_V fs j) (hd : decode cc pc = .ok (.new idx, 3)) (hR : c + 1 ≤ R.cells ∧ n + N ≤ R.slots) (K : ∀ q, J k (ws ++ [(q, .inr (ci, fs))]) (c + 1) (n + N) (pc + 3) lv (.ref q :: st)) : J k ws c n pc lv st := fun H locs ls hP hL =>
  va_new F.hx F.hb (fun w h => F.hts h) hin ty hty F.hown (F.hts hl) (F.hts hi) (F.hts hini) F.hK.1 hP.1 (hP.2.1 hw) hP.2.2.1 (F.hA hw) hc hfs (by rw [F.hR]; exact hR.1) (by rw [F.hR]; exact hR.2) hd (fun q H1 h1 h2 h3 => K q H1 locs ls (hP.put hw h1 h2 h3) hL)
/-- a final field, in the constructor -/
theorem j_putfF (F : Fx k cc own R nL) (hw : kw k = true) (hin0 : (kmeth k).name = "<init>") {ref C : String} {T : u_T} {N ci idx a : Nat} {fs : List Value} {v : Value} {ty : FieldType} (f : Nat) (hin : ∀ w ∈ u_ws C T N, w ∈ Uw) (ty0 : Nat → FieldType) (hty : ∀ k, k < N → parseFieldDescriptor (T k).2.2.1 = some (ty0 k)) (hnm : ∀ a, a < N → ∀ b, b < N → a ≠ b → (T a).2.1 ≠ (T b).2.1) (hc : vwCl[ci]? = some (C, T, N)) (hf : f < N) (hu : Cond.fieldLink own idx ref (T f).2.1 (T f).2.2.1 ∈ Uw) (hs : ∀ x, (ks k).fieldFound? (T f).1 (T f).2.1 (T f).2.2.1 = some x → (ks k).fieldFound? ref (T f).2.1 (T f).2.2.1 = some x)
    (hfin : (T f).2.2.2 = true) (hown : (T f).1 = own) (hdt : parseFieldDescriptor (T f).2.2.1 = some ty) (hd : decode cc pc = .ok (.putfield idx, 3)) (hnr : narrow ty v = v) (hfit : fits ty v = true) (q : Nat) (hq : ws[q]? = some (a, .inr (ci, fs))) (hl : f < fs.length) (ws' : va_W) (he : ws.set q (a, .inr (ci, fs.set f v)) = ws') (K : J k ws' c n (pc + 3) lv st) : J k ws c n pc lv (v :: .ref a :: st) := fun H locs ls hP hL =>
  va_putF F.hx F.hb (fun w h => F.hts h) hin ty0 hty hnm F.hown F.hK.1 hP.1 (hP.2.1 hw) hP.2.2.1 q hq hc f hf (F.hts hu) hs hfin hin0 hown hdt hnr hfit hl hd (fun H1 locs1 h1 h2 h3 => by
    subst he
    exact K H1 locs1 ls (hP.put hw h1 h2 h3) hL)
/-! exceptions -/
theorem hat_of (F : Fx k cc own R nL) {L : List Cond} (h1 : ∀ w ∈ L.filter goodWord, w ∈ lw_tbl) (h2 : ∀ w ∈ L.filter (fun w => !goodWord w), w ∈ (cas.map fun q => Cond.castable q.1 q.2) ++ dcl.map Cond.declares) : ∀ w ∈ L, w.before (kargs k) (ks k) = true := by
  refine vx_hat (fun w hw => F.hts (List.mem_filter.mpr ⟨h1 w hw, (List.mem_filter.mp hw).2⟩)) h2 ?_
  intro w hw
  rcases List.mem_append.mp hw with h | h
  · obtain ⟨q, hq, rfl⟩ := List.mem_map.mp h
    exact va_Nw.use rfl (F.hK.2.2.2.1 q hq)
  · obtain ⟨x, hx, rfl⟩ := List.mem_map.mp h
    exact va_Nw.use rfl (F.hK.2.2.2.2.2.2.2.2.2 x hx)
/-- what 'throw new E(text)' links -/
def LkT (own : String) (ik ic : Nat) (E : String) : Prop := Cond.classLink own ik E ∈ Uw ∧ Cond.initialized E ∈ Uw ∧ Bundle.fit E = true ∧ (∀ w ∈ (vx_atS own ic E ["java/lang/RuntimeException", "java/lang/Exception"]).filter goodWord, w ∈ lw_tbl) ∧ (∀ w ∈ (vx_atS own ic E ["java/lang/RuntimeException", "java/lang/Exception"]).filter (fun w => !goodWord w), w ∈ (cas.map fun q => Cond.castable q.1 q.2) ++ dcl.map Cond.declares) ∧ ∀ w ∈ Cond.classLink own ik E :: Cond.initialized E :: vx_atS own ic E ["java/lang/RuntimeException", "java/lang/Exception"], vx_ot w = true
theorem j_throw (F : Fx k cc RX3 R nL) {mc ms : Nat} {PX : String → Prop} {ik is ic : Nat} {E text : String} (hX : XW k mc ms ws PX) (hNT : NT k) (hk : LkT RX3 ik ic E) (hs : (is, text) ∈ strs) (hE : PX E)
    (d0 : decode cc pc = .ok (.new ik, 3)) (d3 : decode cc (pc + 3) = .ok (.dup, 1)) (d4 : decode cc (pc + 4) = .ok (.ldc is, 2)) (d6 : decode cc (pc + 6) = .ok (.invokespecial ic, 3)) (d9 : decode cc (pc + 9) = .ok (.athrow, 1)) (hR : 5 < R.frames ∧ (st.map fun v => v.category).sum + 82 ≤ R.locals ∧ c + 1 ≤ R.cells ∧ n + 6 ≤ R.slots) (hc : c + 1 ≤ mc) (hn : n + 6 ≤ ms) : J k ws c n pc lv st := fun H locs ls hP hL => by
  obtain ⟨h1, h2, h3, h4, h5, h6⟩ := hk
  obtain ⟨sa, hsa⟩ := F.hK.2.2.2.2.2.2.2.2.1 (is, text) hs
  obtain ⟨hw, Qc, hQ⟩ := hX
  rw [hQ]
  exact vx_throwS F.hx F.hb F.hl F.hown h3 (by decide +kernel) (F.hts h1) (F.hts h2) hsa (hat_of F h4 h5) h6 (F.hZ hw).1 (F.hZ hw).2.1 hP.2.2.1 (hL.1.trans (F.hn.trans F.hml.symm)) d0 d3 d4 d6 d9 (fun x hx => (hNT x hx).elim) (by rw [F.hR]; exact hR.1) (by rw [F.hR]; exact hR.2.1) (by rw [F.hR]; exact hR.2.2.1) (by rw [F.hR]; exact hR.2.2.2) F.hlk
    (fun t ht hz hq => ⟨hE, fun i q hi => (hP.1 i q hi).kept (hq q.1 (hP.1 i q hi).lt), ⟨Nat.le_trans hP.2.2.1.1 hz, fun q h1 h2 => by rw [hq q (Nat.lt_of_lt_of_le h1 hP.2.2.1.1)]; exact hP.2.2.1.2.1 q h1 h2⟩⟩) hP.2.2.1.2.2 hc hn
theorem j_throwW (F : Fx k cc RX3 R nL) {mc ms : Nat} {PX : String → Prop} {ik is ic : Nat} {E text : String} (hX : XW k mc ms ws PX) (hNT : NT k) (hk : LkT RX3 ik ic E) (hs : (is, text) ∈ strs) (hE : PX E)
    (d0 : decode cc pc = .ok (.new ik, 3)) (d3 : decode cc (pc + 3) = .ok (.dup, 1)) (d4 : decode cc (pc + 4) = .ok (.ldc_w is, 3)) (d6 : decode cc (pc + 7) = .ok (.invokespecial ic, 3)) (d9 : decode cc (pc + 10) = .ok (.athrow, 1)) (hR : 5 < R.frames ∧ (st.map fun v => v.category).sum + 82 ≤ R.locals ∧ c + 1 ≤ R.cells ∧ n + 6 ≤ R.slots) (hc : c + 1 ≤ mc) (hn : n + 6 ≤ ms) : J k ws c n pc lv st := fun H locs ls hP hL => by
  obtain ⟨h1, h2, h3, h4, h5, h6⟩ := hk
  obtain ⟨sa, hsa⟩ := F.hK.2.2.2.2.2.2.2.2.1 (is, text) hs
  obtain ⟨hw, Qc, hQ⟩ := hX
  rw [hQ]
  exact vx_throwSW F.hx F.hb F.hl F.hown h3 (by decide +kernel) (F.hts h1) (F.hts h2) hsa (hat_of F h4 h5) h6 (F.hZ hw).1 (F.hZ hw).2.1 hP.2.2.1 (hL.1.trans (F.hn.trans F.hml.symm)) d0 d3 d4 d6 d9 (fun x hx => (hNT x hx).elim) (by rw [F.hR]; exact hR.1) (by rw [F.hR]; exact hR.2.1) (by rw [F.hR]; exact hR.2.2.1) (by rw [F.hR]; exact hR.2.2.2) F.hlk
    (fun t ht hz hq => ⟨hE, fun i q hi => (hP.1 i q hi).kept (hq q.1 (hP.1 i q hi).lt), ⟨Nat.le_trans hP.2.2.1.1 hz, fun q h1 h2 => by rw [hq q (Nat.lt_of_lt_of_le h1 hP.2.2.1.1)]; exact hP.2.2.1.2.1 q h1 h2⟩⟩) hP.2.2.1.2.2 hc hn
/-- an exception E is under way at pc -/
def JX (k : Kx) (ws : va_W) (c n pc : Nat) (lv : List (Option Value)) (st : List Value) (E : String) : Prop :=
  ∀ (H : Heap) (locs : List Loc) (ls : Array Slot) (q : Nat) (ce : Cell), Wd k ws H locs → lvh ls (kn k) lv → H[q]? = some ce → ce.vm = .none → (ks k).vm.findClass E = some ce.cls → vx_W (kp k) (kl k) (ke k) (kR k) (ks k) (km k) (kargs k) (kbelow k) (kmeth k) (kc k) H locs c n (kQ k) (F0 (km k) pc ls st) q
theorem run_cx (F : Fx k cc own R nL) (hw : kw k = true) {H : Heap} {locs : List Loc} {ls : Array Slot} {a : Array Value} {mc ms : Nat} {P : Option Value → va_W → Prop} {PX : String → Prop} (h : Wd k (wc ++ wr) H locs) (hL : lvh ls (kn k) lv) (hr : vx_Run (kp k) (kl k) (ke k) (kR k) (ks k) (km k) (kargs k) (kbelow k) (kmeth k) (kc k) H locs c n mc ms (F0 (km k) pc ls stk) st (PostM (kD k) wc H.size P a) (PostX (kD k) wc H.size PX) (va_A wc H.size))
    (K : ∀ (v : Option Value) (w1 : va_W), P v w1 → J k (w1 ++ wr) (c + mc) (n + ms) (pc + 3) lv (vlist v st)) (KX : ∀ E, PX E → JX k (wc ++ wr) (c + mc) (n + ms) pc lv st E) : W (kp k) (kl k) (ke k) (kR k) (ks k) (km k) (kargs k) (kbelow k) (kmeth k) (kc k) H locs c n (kQ k) (F0 (km k) pc ls stk) := by
  intro T hT X
  rcases hr T hT X with ⟨w, st₀, t, T', L, h0, X', hLL, e1, e2, ⟨v, w1, hv, hp, hP1, hD1, hF⟩, hg⟩ | ⟨q, st₀, t, T', L, E, ce, h0, X', hLL, e1, e2, ⟨hE, hP1, hF⟩, hce, hcv, hcl, hg⟩
  · cases hv
    subst h0
    obtain ⟨t2, a1, b1⟩ := K w w1 hp t.heap (locs ++ L) ls (h.call F hw hP1 hD1 hF.1 hF.2 hLL) hL T' e1 X'
    exact ⟨t2, hg t2 a1, b1⟩
  · subst h0
    have hDc : va_D (va_A wc st₀.heap.size) wc := by
      have hD := h.2.1 hw
      exact ⟨fun i j p q hp hq e => hD.1 i j p q (by rw [List.getElem?_append_left (List.getElem?_eq_some_iff.mp hp).1]; exact hp) (by rw [List.getElem?_append_left (List.getElem?_eq_some_iff.mp hq).1]; exact hq) e, fun i q hi => Or.inl ⟨i, q.2, hi⟩⟩
    obtain ⟨t2, a1, b1⟩ := KX E hE t.heap (locs ++ L) ls q ce (h.call F hw hP1 hDc hF.1 hF.2 hLL) hL hce hcv hcl T' e1 X'
    exact ⟨t2, hg.trans a1, b1⟩
theorem j_cxV (F : Fx k cc own R nL) (hw : kw k = true) {C : String} {y : MethodName} {ccy : ByteArray} {maxL : Nat} {ret : Option FieldType} {fr lo mc ms idx b : Nat} {as : List Value} {P : Option Value → va_W → Prop} {PX : String → Prop} (hM : CX (kl k) (kD k) y ccy maxL ret fr lo mc ms wc (.ref b :: as) P PX) (hk : LkV own idx C y ccy maxL ret as.length) (hd : decode cc pc = .ok (.invokevirtual idx, 3)) (hR : fr + 1 ≤ R.frames ∧ 8 + (maxL + 11) + lo ≤ R.locals)
    {T : u_T} {N ci : Nat} {fs : List Value} (q : Nat) (hq : (wc ++ wr)[q]? = some (b, .inr (ci, fs))) (hc : vwCl[ci]? = some (C, T, N)) (hst : stk = as.reverse ++ .ref b :: st) (hW : (st.map fun v => v.category).sum ≤ 8) (hcn : c + mc ≤ R.cells ∧ n + ms ≤ R.slots) (K : ∀ v w1, P v w1 → J k (w1 ++ wr) (c + mc) (n + ms) (pc + 3) lv (vlist v st)) (KX : ∀ E, PX E → JX k (wc ++ wr) (c + mc) (n + ms) pc lv st E) : J k (wc ++ wr) c n pc lv stk := fun H locs ls hP hL =>
  run_cx F hw hP hL (a := (Value.ref b :: as).toArray) (vx_runV (As := as) (rest := st) F.fix (hM H.size) (lkV F hk hR) ⟨PreM.blind, hP.recv F hq hc, (PreM.at F hw hP).2⟩ rfl rfl (hL.1.trans F.hn) hst (lv_room hW) hd (by rw [F.hR]; exact hcn)) K KX
/-- not caught: on to the caller -/
theorem jx_out {mc ms : Nat} {PX : String → Prop} {E : String} (F : Fx k cc own R nL) (hX : XW k mc ms ws PX) (hNT : NT k) (hE : PX E) (hc : c ≤ mc) (hn : n ≤ ms) : JX k ws c n pc lv st E := fun H locs ls q ce hP hL h1 h2 h3 => by
  obtain ⟨hw, Qc, hQ⟩ := hX
  rw [hQ]
  exact vx_out (fun x hx => (hNT x hx).elim) F.hlk h1 h2 h3 (fun t ht _ => ⟨hE, by rw [ht]; exact hP.1, hP.2.2.1.F ht⟩) hP.2.2.1.2.2 hc hn
end CROWS
