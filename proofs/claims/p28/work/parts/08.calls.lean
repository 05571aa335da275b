/-! HEAP ROWS AND CONTRACTS -/
section HROWS
variable {k : Kx} {cc : ByteArray} {own : String} {R : Room} {nL : Nat} {ws ws' : va_W} {c n pc : Nat} {lv lv' : List (Option Value)} {st : List Value}
theorem Wd.put {H H1 : Heap} {locs locs1 : List Loc} (hw : kw k = true) (h : Wd k ws H locs) (hP : va_P (kD k) vwCl ws' H1) (hD : va_D (kA k) ws') (hS : va_S (kA k) (ks k).heap H1 locs1) : Wd k ws' H1 locs1 := ⟨hP, fun _ => hD, hS, fun e => by rw [hw] at e; cases e⟩
/-- a field is read: 'q' the object's place in the world -/
theorem j_getf (F : Fx k cc own R nL) {ref C : String} {T : u_T} {N ci idx a : Nat} {fs : List Value} {v : Value} (f : Nat) (hin : ∀ w ∈ u_ws C T N, w ∈ Uw) (hc : vwCl[ci]? = some (C, T, N)) (hf : f < N) (hu : Cond.fieldLink own idx ref (T f).2.1 (T f).2.2.1 ∈ Uw) (hs : ∀ x, (ks k).fieldFound? (T f).1 (T f).2.1 (T f).2.2.1 = some x → (ks k).fieldFound? ref (T f).2.1 (T f).2.2.1 = some x)
    (hd : decode cc pc = .ok (.getfield idx, 3)) (q : Nat) (hq : ws[q]? = some (a, .inr (ci, fs))) (hv : fs[f]? = some v) (K : J k ws c n (pc + 3) lv (v :: st)) : J k ws c n pc lv (.ref a :: st) := fun H locs ls hP hL =>
  va_get F.hx F.hb (fun w h => F.hts h) hin F.hown F.hK.1 hP.1 q hq hc f hf (F.hts hu) hs hv hd (K H locs ls hP hL)
theorem j_putf (F : Fx k cc own R nL) (hw : kw k = true) {ref C : String} {T : u_T} {N ci idx a : Nat} {fs : List Value} {v : Value} {ty : FieldType} (f : Nat) (hin : ∀ w ∈ u_ws C T N, w ∈ Uw) (ty0 : Nat → FieldType) (hty : ∀ k, k < N → parseFieldDescriptor (T k).2.2.1 = some (ty0 k)) (hnm : ∀ a, a < N → ∀ b, b < N → a ≠ b → (T a).2.1 ≠ (T b).2.1) (hc : vwCl[ci]? = some (C, T, N)) (hf : f < N) (hu : Cond.fieldLink own idx ref (T f).2.1 (T f).2.2.1 ∈ Uw) (hs : ∀ x, (ks k).fieldFound? (T f).1 (T f).2.1 (T f).2.2.1 = some x → (ks k).fieldFound? ref (T f).2.1 (T f).2.2.1 = some x)
    (hfin : (T f).2.2.2 = false) (hdt : parseFieldDescriptor (T f).2.2.1 = some ty) (hd : decode cc pc = .ok (.putfield idx, 3)) (hnr : narrow ty v = v) (hfit : fits ty v = true) (q : Nat) (hq : ws[q]? = some (a, .inr (ci, fs))) (hl : f < fs.length) (ws' : va_W) (he : ws.set q (a, .inr (ci, fs.set f v)) = ws') (K : J k ws' c n (pc + 3) lv st) : J k ws c n pc lv (v :: .ref a :: st) := fun H locs ls hP hL =>
  va_put F.hx F.hb (fun w h => F.hts h) hin ty0 hty hnm F.hown F.hK.1 hP.1 (hP.2.1 hw) hP.2.2.1 q hq hc f hf (F.hts hu) hs hfin hdt hnr hfit hl hd (fun H1 locs1 h1 h2 h3 => by
    subst he
    exact K H1 locs1 ls (hP.put hw h1 h2 h3) hL)
theorem j_iald (F : Fx k cc own R nL) {a N : Nat} {f : Nat → Int32} {i : Int32} (hd : decode cc pc = .ok (.iaload, 1)) (q : Nat) (hq : ws[q]? = some (a, .inl ((kD k).1 100, N, .inl f))) (hin : vp_in i N) (K : J k ws c n (pc + 1) lv (.int (f i.toNatClampNeg) :: st)) : J k ws c n pc lv (.int i :: .ref a :: st) := fun H locs ls hP hL =>
  va_iald F.hx F.hb F.hK.1 hP.1 q 0 hq rfl hin hd (K H locs ls hP hL)
theorem j_iast (F : Fx k cc own R nL) (hw : kw k = true) {a N : Nat} {f : Nat → Int32} {i x : Int32} (hd : decode cc pc = .ok (.iastore, 1)) (q : Nat) (hq : ws[q]? = some (a, .inl ((kD k).1 100, N, .inl f))) (hin : vp_in i N) (ws' : va_W) (he : ws.set q (a, .inl ((kD k).1 100, N, .inl (upd f i.toNatClampNeg x))) = ws') (K : J k ws' c n (pc + 1) lv st) : J k ws c n pc lv (.int x :: .int i :: .ref a :: st) := fun H locs ls hP hL =>
  va_iast F.hx F.hb F.hK.1 hP.1 (hP.2.1 hw) hP.2.2.1 q 0 hq rfl hin hd (fun H1 locs1 h1 h2 h3 => by
    subst he
    exact K H1 locs1 ls (hP.put hw h1 h2 h3) hL)
theorem j_aald (F : Fx k cc own R nL) {a N : Nat} {f : Nat → Option Nat} {i : Int32} (hd : decode cc pc = .ok (.aaload, 1)) (q : Nat) (hq : ws[q]? = some (a, .inl ((kD k).1 101, N, .inr (.inr (.inr (.inr f)))))) (hin : vp_in i N) (K : J k ws c n (pc + 1) lv (va_rf (f i.toNatClampNeg) :: st)) : J k ws c n pc lv (.int i :: .ref a :: st) := fun H locs ls hP hL =>
  va_aldq F.hx F.hb F.hK.1 hP.1 q 1 hq rfl hin hd (K H locs ls hP hL)
/-- the length of an array of the world -/
theorem j_alen (F : Fx k cc own R nL) {a t0 : Nat} {cA : ClassId} {x : vp_A} {ty : FieldType} {v : Int32} (hd : decode cc pc = .ok (.arraylength, 1)) (q : Nat) (hq : ws[q]? = some (a, .inl (cA, x))) (ht : (tysD (kD k))[t0]? = some (cA, ty)) (hv : Int32.ofNat x.1 = v) (K : J k ws c n (pc + 1) lv (.int v :: st)) : J k ws c n pc lv (.ref a :: st) := fun H locs ls hP hL =>
  va_alen F.hx F.hb F.hK.1 hP.1 q t0 hq ht hv hd (K H locs ls hP hL)
/-- the place of a thing in a world's permutation -/
theorem va_P.perm {D : va_G} {cl : List vw_C} {a b : va_W} {H : Heap} (h : a.Perm b) (hP : va_P D cl a H) : va_P D cl b H := fun i q hq => by
  obtain ⟨j, hj⟩ := List.getElem?_of_mem (h.mem_iff.mpr (List.mem_of_getElem? hq))
  exact hP j q hj
theorem va_D.iff {A : Nat → Prop} {a : va_W} : va_D A a ↔ (a.map (·.1)).Nodup ∧ ∀ q ∈ a, A q.1 := by
  constructor
  · intro h
    refine ⟨List.nodup_iff_pairwise_ne.mpr (List.pairwise_iff_getElem.mpr fun i j hi hj hij => ?_), fun q hq => ?_⟩
    · intro e
      have hi' : i < a.length := by simpa using hi
      have hj' : j < a.length := by simpa using hj
      have := h.1 i j a[i] a[j] (List.getElem?_eq_getElem hi') (List.getElem?_eq_getElem hj') (by simpa using e)
      omega
    · obtain ⟨j, hj⟩ := List.getElem?_of_mem hq
      exact h.2 j q hj
  · rintro ⟨h1, h2⟩
    refine ⟨fun i j p q hp hq e => ?_, fun i q hq => h2 q (List.mem_of_getElem? hq)⟩
    have hi : i < a.length := (List.getElem?_eq_some_iff.mp hp).1
    have hj : j < a.length := (List.getElem?_eq_some_iff.mp hq).1
    have e1 : a[i] = p := (List.getElem?_eq_some_iff.mp hp).2
    have e2 : a[j] = q := (List.getElem?_eq_some_iff.mp hq).2
    rcases Nat.lt_trichotomy i j with hl | hl | hl
    · exact absurd (by rw [List.getElem_map, List.getElem_map, e1, e2]; exact e) (List.pairwise_iff_getElem.mp (List.nodup_iff_pairwise_ne.mp h1) i j (by simpa using hi) (by simpa using hj) hl)
    · exact hl
    · exact absurd (by rw [List.getElem_map, List.getElem_map, e1, e2]; exact e.symm) (List.pairwise_iff_getElem.mp (List.nodup_iff_pairwise_ne.mp h1) j i (by simpa using hj) (by simpa using hi) hl)
theorem va_D.perm {A : Nat → Prop} {a b : va_W} (h : a.Perm b) (hD : va_D A a) : va_D A b := by
  rw [va_D.iff] at hD ⊢
  exact ⟨(h.map _).nodup_iff.mp hD.1, fun q hq => hD.2 q (h.mem_iff.mpr hq)⟩
theorem Wd.perm {H : Heap} {locs : List Loc} (h : ws.Perm ws') (hP : Wd k ws H locs) : Wd k ws' H locs := ⟨hP.1.perm h, fun hw => (hP.2.1 hw).perm h, hP.2.2⟩
theorem j_perm (ws' : va_W) (h : ws.Perm ws') (K : J k ws' c n pc lv st) : J k ws c n pc lv st := fun H locs ls hP hL => K H locs ls (hP.perm h) hL
end HROWS

/-! CONTRACTS: CR a reader (the heap stays), CM a writer (its world becomes one of P), CX a writer that may throw (then its world is as before) -/
abbrev vlist (v : Option Value) (st : List Value) : List Value := v.toList ++ st
def CR (l : Launch) (D : va_G) (y : MethodName) (cc : ByteArray) (maxL : Nat) (ret : Option FieldType) (fr lo : Nat) (ws : va_W) (as : List Value) (v : Value) : Prop :=
  Met l y (wU y cc maxL ret) (rm4 fr 0 0 lo) (va_Pc as (fun U => va_P D vwCl ws U.heap ∧ KK D U)) (fun _ st oc t => oc = .returned (some v) ∧ t.heap = st.heap) 0 0 (fun _ => False)
def PreM (D : va_G) (ws : va_W) (sz : Nat) (U : State) : Prop := U.heap.size = sz ∧ va_P D vwCl ws U.heap ∧ KK D U ∧ va_D (fun _ => True) ws ∧ ZZ D (va_A ws sz) U U.heap
def PostM (D : va_G) (ws : va_W) (sz : Nat) (P : Option Value → va_W → Prop) : Array Value → State → Outcome → State → Prop := fun _ st oc t => ∃ v ws', oc = .returned v ∧ P v ws' ∧ va_P D vwCl ws' t.heap ∧ va_D (va_A ws sz) ws' ∧ va_F (va_A ws sz) st t
def CM (l : Launch) (D : va_G) (y : MethodName) (cc : ByteArray) (maxL : Nat) (ret : Option FieldType) (fr lo mc ms : Nat) (ws : va_W) (as : List Value) (P : Option Value → va_W → Prop) : Prop :=
  ∀ sz, Met l y (wU y cc maxL ret) (rm4 fr mc ms lo) (va_Pc as (PreM D ws sz)) (PostM D ws sz P) mc ms (va_A ws sz)
def PostX (D : va_G) (ws : va_W) (sz : Nat) (PX : String → Prop) : String → State → State → Prop := fun E st t => PX E ∧ va_P D vwCl ws t.heap ∧ va_F (va_A ws sz) st t
def CX (l : Launch) (D : va_G) (y : MethodName) (cc : ByteArray) (maxL : Nat) (ret : Option FieldType) (fr lo mc ms : Nat) (ws : va_W) (as : List Value) (P : Option Value → va_W → Prop) (PX : String → Prop) : Prop :=
  ∀ sz, vx_Met l y (wU y cc maxL ret) (rm4 fr mc ms lo) (va_Pc as (PreM D ws sz)) (PostM D ws sz P) (PostX D ws sz PX) mc ms (va_A ws sz)
theorem PreM.blind {D : va_G} {ws : va_W} {sz : Nat} {as : List Value} : FrameBlind (va_Pc as (PreM D ws sz)) := fun a U g mk q => by
  obtain ⟨h0, h1, h2, h3, h4, h5⟩ := q
  exact ⟨h0, h1, h2, h3.calling, h4, h5.moved (u := U) (U := U.calling g mk a) (Vm.Alike.refl U.vm)⟩
theorem PreR.blind {D : va_G} {ws : va_W} {as : List Value} : FrameBlind (va_Pc as (fun U => va_P D vwCl ws U.heap ∧ KK D U)) := fun a U g mk q => by
  obtain ⟨h0, h1, h2⟩ := q
  exact ⟨h0, h1, h2.calling⟩
/-- where a body may end: a reader's, a writer's, one that throws -/
def RR (k : Kx) (ret : Option FieldType) (v : Value) : Prop := kw k = false ∧ (kmeth k).sig.returnType = ret ∧ kQ k = MQ (kbelow k) (fun _ st oc t => oc = .returned (some v) ∧ t.heap = st.heap) (kargs k) (ks k) 0 0 (fun _ => False)
def PostK (k : Kx) (P : Option Value → va_W → Prop) : Array Value → State → Outcome → State → Prop := fun _ st oc t => ∃ v ws', oc = .returned v ∧ P v ws' ∧ va_P (kD k) vwCl ws' t.heap ∧ va_D (kA k) ws' ∧ va_F (kA k) st t
def RW (k : Kx) (ret : Option FieldType) (mc ms : Nat) (P : Option Value → va_W → Prop) : Prop := kw k = true ∧ (kmeth k).sig.returnType = ret ∧ ∀ (H : Heap) (locs : List Loc) (c n : Nat) (g : JFrame), W (kp k) (kl k) (ke k) (kR k) (ks k) (km k) (kargs k) (kbelow k) (kmeth k) (kc k) H locs c n (MQ (kbelow k) (PostK k P) (kargs k) (ks k) mc ms (kA k)) g → W (kp k) (kl k) (ke k) (kR k) (ks k) (km k) (kargs k) (kbelow k) (kmeth k) (kc k) H locs c n (kQ k) g
def XW (k : Kx) (mc ms : Nat) (ws0 : va_W) (PX : String → Prop) : Prop := kw k = true ∧ ∃ Qc : Array Value → State → Outcome → State → Prop, kQ k = vx_MQ (kbelow k) Qc (fun E st t => PX E ∧ va_P (kD k) vwCl ws0 t.heap ∧ va_F (kA k) st t) (kargs k) (ks k) mc ms (kA k)
def NT (k : Kx) : Prop := ∀ x ∈ (kc k).exceptionTable.toList, False
theorem entry_eqL {m : MethodId} {as : List Value} {n : Nat} {lv : List (Option Value)} (hlv : lv_args 0 as = prs 0 lv) (hlen : (lg_sl as).length ≤ n) : ∃ ls : Array Slot, entryFrame m as.toArray n = F0 m 0 ls [] ∧ lvh ls n lv := by
  refine ⟨_, lg_entry_eq m as n, ?_⟩
  unfold lvh
  rw [← hlv]
  exact lv_entry as hlen
theorem CR_of {l : Launch} {D : va_G} {y : MethodName} {cc : ByteArray} {maxL : Nat} {ret : Option FieldType} {fr lo : Nat} {ws : va_W} {as : List Value} {v : Value} (lv : List (Option Value)) (hst : l.stackTraces = false) (hy : plainName y.cls = true) (hlv : lv_args 0 as = prs 0 lv) (hlen : (lg_sl as).length ≤ maxL)
    (body : ∀ k : Kx, Fx k cc y.cls (rm4 fr 0 0 lo) maxL → kl k = l → kD k = D → RR k ret v → J k ws 0 0 0 lv []) : CR l D y cc maxL ret fr lo ws as v := by
  refine Met.ofW (cc := cc) (maxL := maxL) (ret := ret) hy rfl ?_
  intro p e s m args below meth c s₁ B hml hv
  obtain ⟨rfl, hP, hK⟩ := hv
  have hts := atoms_spec (ws := wU y cc maxL ret) B.pre
  obtain ⟨ls, e1, e2⟩ := entry_eqL (m := m) hlv hlen
  rw [e1]
  exact body (mkK p l e (rm4 fr 0 0 lo) s m as.toArray below meth c (MQ below (fun _ st oc t => oc = .returned (some v) ∧ t.heap = st.heap) as.toArray s 0 0 (fun _ => False)) D (fun _ => False) false maxL)
    ⟨B.exec, B.bytes, hml, rfl, rfl, findClass_of_methodNamed B.named, fun w h => hts w (List.mem_cons_of_mem _ h), hK, fun _ _ h => (by cases h), fun h => (by cases h), hst, B.notSynchronized⟩ rfl rfl ⟨rfl, B.returns, rfl⟩ s.heap [] ls ⟨hP, fun h => (by cases h), va_S.rf, fun _ => ⟨rfl, rfl⟩⟩ e2
theorem CM_of {l : Launch} {D : va_G} {y : MethodName} {cc : ByteArray} {maxL : Nat} {ret : Option FieldType} {fr lo mc ms : Nat} {ws : va_W} {as : List Value} {P : Option Value → va_W → Prop} (lv : List (Option Value)) (hst : l.stackTraces = false) (hy : plainName y.cls = true) (hlv : lv_args 0 as = prs 0 lv) (hlen : (lg_sl as).length ≤ maxL)
    (body : ∀ k : Kx, Fx k cc y.cls (rm4 fr mc ms lo) maxL → kl k = l → kD k = D → (y.name = "<init>" → (kmeth k).name = "<init>") → RW k ret mc ms P → J k ws 0 0 0 lv []) : CM l D y cc maxL ret fr lo mc ms ws as P := by
  intro sz
  refine Met.ofW (cc := cc) (maxL := maxL) (ret := ret) hy rfl ?_
  intro p e s m args below meth c s₁ B hml hv
  obtain ⟨rfl, rfl, hP, hK, hD, hZ⟩ := hv
  have hts := atoms_spec (ws := wU y cc maxL ret) B.pre
  obtain ⟨ls, e1, e2⟩ := entry_eqL (m := m) hlv hlen
  rw [e1]
  exact body (mkK p l e (rm4 fr mc ms lo) s m as.toArray below meth c (MQ below (PostM D ws s.heap.size P) as.toArray s mc ms (va_A ws s.heap.size)) D (va_A ws s.heap.size) true maxL)
    ⟨B.exec, B.bytes, hml, rfl, rfl, findClass_of_methodNamed B.named, fun w h => hts w (List.mem_cons_of_mem _ h), hK, fun _ h _ => Or.inr h, fun _ => hZ, hst, B.notSynchronized⟩ rfl rfl (fun h => (name_of_methodNamed B.named B.method).1.trans h) ⟨rfl, B.returns, fun _ _ _ _ _ w => w⟩ s.heap [] ls ⟨hP, fun _ => hD.self, va_S.rf, fun h => (by cases h)⟩ e2
theorem CX_of {l : Launch} {D : va_G} {y : MethodName} {cc : ByteArray} {maxL : Nat} {ret : Option FieldType} {fr lo mc ms : Nat} {ws : va_W} {as : List Value} {P : Option Value → va_W → Prop} {PX : String → Prop} (lv : List (Option Value)) (hst : l.stackTraces = false) (hy : plainName y.cls = true) (hlv : lv_args 0 as = prs 0 lv) (hlen : (lg_sl as).length ≤ maxL)
    (body : ∀ k : Kx, Fx k cc y.cls (rm4 fr mc ms lo) maxL → kl k = l → kD k = D → RW k ret mc ms P → XW k mc ms ws PX → NT k → J k ws 0 0 0 lv []) : CX l D y cc maxL ret fr lo mc ms ws as P PX := by
  intro sz
  refine vx_ofW (cc := cc) (maxL := maxL) (ret := ret) hy rfl ?_
  intro p e s m args below meth c s₁ B hml hnt hv
  obtain ⟨rfl, rfl, hP, hK, hD, hZ⟩ := hv
  have hts := atoms_spec (ws := wU y cc maxL ret) B.pre
  obtain ⟨ls, e1, e2⟩ := entry_eqL (m := m) hlv hlen
  rw [e1]
  exact body (mkK p l e (rm4 fr mc ms lo) s m as.toArray below meth c (vx_MQ below (PostM D ws s.heap.size P) (PostX D ws s.heap.size PX) as.toArray s mc ms (va_A ws s.heap.size)) D (va_A ws s.heap.size) true maxL)
    ⟨B.exec, B.bytes, hml, rfl, rfl, findClass_of_methodNamed B.named, fun w h => hts w (List.mem_cons_of_mem _ h), hK, fun _ h _ => Or.inr h, fun _ => hZ, hst, B.notSynchronized⟩ rfl rfl ⟨rfl, B.returns, fun _ _ _ _ _ w => vx_ret w⟩ ⟨rfl, _, rfl⟩ hnt s.heap [] ls ⟨hP, fun _ => hD.self, va_S.rf, fun h => (by cases h)⟩ e2
def b1 (b : Bool) : Int32 := if b = true then 1 else 0
theorem b1_nar (b : Bool) : narrow .boolean (.int (b1 b)) = .int (b1 b) := by cases b <;> rfl
theorem b1_0 {b : Bool} : b1 b = 0 ↔ b = false := by cases b <;> decide
theorem b1_1 {b : Bool} : ¬ b1 b = 0 ↔ b = true := by cases b <;> decide
section ENDS
variable {k : Kx} {cc : ByteArray} {own : String} {R : Room} {nL : Nat} {ws ws' ws0 : va_W} {c n pc : Nat} {lv lv' : List (Option Value)} {st : List Value} {ret : Option FieldType} {v : Value} {mc ms : Nat} {P : Option Value → va_W → Prop} {PX : String → Prop}
theorem RR.end (hR : RR k ret v) {H : Heap} {locs : List Loc} (hP : Wd k ws H locs) : (∀ t : State, t.heap = H → (ks k).WarmedH t.vm → (Outcome.returned (some v) = .returned (some v) ∧ t.heap = (ks k).heap)) ∧ ∀ q ∈ locs, (fun _ : Addr => False) q.base := by
  obtain ⟨e1, e2⟩ := hP.2.2.2 hR.1
  exact ⟨fun t ht _ => ⟨rfl, ht.trans e1⟩, fun q hq => by rw [e2] at hq; cases hq⟩
theorem j_iretR (F : Fx k cc own R nL) {x : Int32} (hR : RR k (some .int) v) (hd : decode cc pc = .ok (.ireturn, 1)) (hv : v = .int x) : J k ws 0 0 pc lv [.int x] := fun H locs ls hP hL => by
  subst hv
  rw [hR.2.2]
  exact W.iret F.hx F.hb hR.2.1 (hR.end hP).1 (hR.end hP).2 hd F.hlk
theorem j_zretR (F : Fx k cc own R nL) {x : Int32} {b : Bool} (hR : RR k (some .boolean) v) (hd : decode cc pc = .ok (.ireturn, 1)) (hb : x = b1 b) (hv : v = .int (b1 b)) : J k ws 0 0 pc lv [.int x] := fun H locs ls hP hL => by
  subst hb hv
  rw [hR.2.2]
  exact W.zret F.hx F.hb hR.2.1 (b1_nar b) (hR.end hP).1 (hR.end hP).2 hd F.hlk
theorem j_lretR (F : Fx k cc own R nL) {x : Int64} (hR : RR k (some .long) v) (hd : decode cc pc = .ok (.lreturn, 1)) (hv : v = .long x) : J k ws 0 0 pc lv [.long x] := fun H locs ls hP hL => by
  subst hv
  rw [hR.2.2]
  exact W.lret F.hx F.hb hR.2.1 (hR.end hP).1 (hR.end hP).2 hd F.hlk
theorem j_dretR (F : Fx k cc own R nL) {x : UInt64} (hR : RR k (some .double) v) (hd : decode cc pc = .ok (.dreturn, 1)) (hv : v = .double x) : J k ws 0 0 pc lv [.double x] := fun H locs ls hP hL => by
  subst hv
  rw [hR.2.2]
  exact W.dret F.hx F.hb hR.2.1 (hR.end hP).1 (hR.end hP).2 hd F.hlk
theorem j_aretR (F : Fx k cc own R nL) {nm : String} {x : Option Nat} (hR : RR k (some (.object nm)) v) (hd : decode cc pc = .ok (.areturn, 1)) (hv : v = va_rf x) : J k ws 0 0 pc lv [va_rf x] := fun H locs ls hP hL => by
  subst hv
  rw [hR.2.2]
  exact W.aret F.hx F.hb hR.2.1 (Or.inl ⟨_, rfl⟩) (by cases x <;> simp [va_rf]) (hR.end hP).1 (hR.end hP).2 hd F.hlk
theorem RW.end {v : Option Value} (hq : P v ws) {H : Heap} {locs : List Loc} (hR : RW k ret mc ms P) (hP : Wd k ws H locs) : (∀ t : State, t.heap = H → (ks k).WarmedH t.vm → PostK k P (kargs k) (ks k) (.returned v) t) ∧ ∀ q ∈ locs, kA k q.base :=
  ⟨fun t ht _ => ⟨v, ws, rfl, hq, by rw [ht]; exact hP.1, hP.2.1 hR.1, hP.2.2.1.F ht⟩, hP.2.2.1.2.2⟩
theorem j_vret (F : Fx k cc own R nL) (hR : RW k none mc ms P) (hd : decode cc pc = .ok (.return_, 1)) (h1 : c ≤ mc) (h2 : n ≤ ms) (hq : P none ws) : J k ws c n pc lv [] := fun H locs ls hP hL =>
  hR.2.2 _ _ _ _ _ (W.widen h1 h2 (W.vret F.hx F.hb hR.2.1 (RW.end hq hR hP).1 (RW.end hq hR hP).2 hd F.hlk))
theorem j_iret (F : Fx k cc own R nL) {x : Int32} (hR : RW k (some .int) mc ms P) (hd : decode cc pc = .ok (.ireturn, 1)) (h1 : c ≤ mc) (h2 : n ≤ ms) (hq : P (some (.int x)) ws) : J k ws c n pc lv [.int x] := fun H locs ls hP hL =>
  hR.2.2 _ _ _ _ _ (W.widen h1 h2 (W.iret F.hx F.hb hR.2.1 (RW.end hq hR hP).1 (RW.end hq hR hP).2 hd F.hlk))
theorem j_zret (F : Fx k cc own R nL) {x : Int32} {b : Bool} (hR : RW k (some .boolean) mc ms P) (hd : decode cc pc = .ok (.ireturn, 1)) (h1 : c ≤ mc) (h2 : n ≤ ms) (hb : x = b1 b) (hq : P (some (.int (b1 b))) ws) : J k ws c n pc lv [.int x] := fun H locs ls hP hL => by
  subst hb
  exact hR.2.2 _ _ _ _ _ (W.widen h1 h2 (W.zret F.hx F.hb hR.2.1 (b1_nar b) (RW.end hq hR hP).1 (RW.end hq hR hP).2 hd F.hlk))
theorem j_lret (F : Fx k cc own R nL) {x : Int64} (hR : RW k (some .long) mc ms P) (hd : decode cc pc = .ok (.lreturn, 1)) (h1 : c ≤ mc) (h2 : n ≤ ms) (hq : P (some (.long x)) ws) : J k ws c n pc lv [.long x] := fun H locs ls hP hL =>
  hR.2.2 _ _ _ _ _ (W.widen h1 h2 (W.lret F.hx F.hb hR.2.1 (RW.end hq hR hP).1 (RW.end hq hR hP).2 hd F.hlk))
theorem j_dret (F : Fx k cc own R nL) {x : UInt64} (hR : RW k (some .double) mc ms P) (hd : decode cc pc = .ok (.dreturn, 1)) (h1 : c ≤ mc) (h2 : n ≤ ms) (hq : P (some (.double x)) ws) : J k ws c n pc lv [.double x] := fun H locs ls hP hL =>
  hR.2.2 _ _ _ _ _ (W.widen h1 h2 (W.dret F.hx F.hb hR.2.1 (RW.end hq hR hP).1 (RW.end hq hR hP).2 hd F.hlk))
theorem j_aret (F : Fx k cc own R nL) {rt : FieldType} {x : Option Nat} (hR : RW k (some rt) mc ms P) (hrt : (∃ n, rt = .object n) ∨ ∃ t, rt = .array t) (hd : decode cc pc = .ok (.areturn, 1)) (h1 : c ≤ mc) (h2 : n ≤ ms) (hq : P (some (va_rf x)) ws) : J k ws c n pc lv [va_rf x] := fun H locs ls hP hL =>
  hR.2.2 _ _ _ _ _ (W.widen h1 h2 (W.aret F.hx F.hb hR.2.1 hrt (by cases x <;> simp [va_rf]) (RW.end hq hR hP).1 (RW.end hq hR hP).2 hd F.hlk))
end ENDS
