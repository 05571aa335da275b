/-! THE BASE. J: the judgement of a body over a world 'ws' (a list of cells), locals 'lv' by their slots, stack 'st'; what stays the same in a body is in k : Kx. -/
def Kx : Type := Program × Launch × Env × Room × State × MethodId × Array Value × List Frame × Method × Code × (State → Prop) × va_G × (Nat → Prop) × Bool × Nat
def kp (k : Kx) : Program := k.1
def kl (k : Kx) : Launch := k.2.1
def ke (k : Kx) : Env := k.2.2.1
def kR (k : Kx) : Room := k.2.2.2.1
def ks (k : Kx) : State := k.2.2.2.2.1
def km (k : Kx) : MethodId := k.2.2.2.2.2.1
def kargs (k : Kx) : Array Value := k.2.2.2.2.2.2.1
def kbelow (k : Kx) : List Frame := k.2.2.2.2.2.2.2.1
def kmeth (k : Kx) : Method := k.2.2.2.2.2.2.2.2.1
def kc (k : Kx) : Code := k.2.2.2.2.2.2.2.2.2.1
def kQ (k : Kx) : State → Prop := k.2.2.2.2.2.2.2.2.2.2.1
def kD (k : Kx) : va_G := k.2.2.2.2.2.2.2.2.2.2.2.1
def kA (k : Kx) : Nat → Prop := k.2.2.2.2.2.2.2.2.2.2.2.2.1
def kw (k : Kx) : Bool := k.2.2.2.2.2.2.2.2.2.2.2.2.2.1
def kn (k : Kx) : Nat := k.2.2.2.2.2.2.2.2.2.2.2.2.2.2
def mkK (p : Program) (l : Launch) (e : Env) (R : Room) (s : State) (m : MethodId) (args : Array Value) (below : List Frame) (meth : Method) (c : Code) (Q : State → Prop) (D : va_G) (A : Nat → Prop) (w : Bool) (n : Nat) : Kx := (p, l, e, R, s, m, args, below, meth, c, Q, D, A, w, n)
/-- the array classes: ints, references to anything, longs; the address of ArrayList's shared empty array -/
abbrev tysD (D : va_G) : List (ClassId × FieldType) := [(D.1 100, .int), (D.1 101, .object "java/lang/Object")]
abbrev dE (D : va_G) : Nat := D.2 1000 0
/-- the class object of Object[] -/
abbrev dM (D : va_G) : Nat := D.2 1000 1
/-- the tables' words that go over a call -/
def Uw : List Cond := lw_tbl.filter goodWord
theorem Uw_of {w : Cond} {i : Nat} (h : lw_tbl[i]? = some w) (g : goodWord w = true) : w ∈ Uw := List.mem_filter.mpr ⟨List.mem_of_getElem? h, g⟩
abbrev wU (y : MethodName) (cc : ByteArray) (maxL : Nat) (ret : Option FieldType) : List Cond := Cond.code y cc maxL ret :: Uw
theorem Uw_good {w : Cond} (h : w ∈ Uw) : goodWord w = true := (List.mem_filter.mp h).2
theorem Uw_in {w : Cond} (h : w ∈ Uw) : GoodIn Uw [w] := fun v hv => by
  rw [List.mem_singleton.mp hv]
  exact ⟨h, good_of_word (Uw_good h)⟩
theorem wU_good {y : MethodName} {cc : ByteArray} {maxL : Nat} {ret : Option FieldType} (h : Cond.code y cc maxL ret ∈ Uw) : GoodIn Uw (wU y cc maxL ret) := fun w hw => by
  rcases List.mem_cons.mp hw with e | e
  · rw [e]
    exact ⟨h, good_of_word (Uw_good h)⟩
  · exact ⟨e, good_of_word (Uw_good e)⟩
/-- what the tables say besides: links of nest mates, casts, the class of Object arrays, the Strings -/
abbrev eA : String := "java/lang/IllegalArgumentException"
abbrev eS : String := "java/lang/IllegalStateException"
abbrev eI : String := "java/lang/IndexOutOfBoundsException"
def strs : List (Nat × String) := [(66, "no such span of minutes"), (307, "no such agent"), (123, "no such thing is told of an agent"), (309, "no such ticket"), (155, "the ticket is neither waiting nor worked at"), (169, "the ticket is not paused"), (171, "a ticket is not merged into itself"), (177, "one of the tickets is not open"), (196, "no such greater effort"), (201, "the ticket is not solved, or was so long ago"), (206, "no such thing is told of a ticket"), (222, "no such number of minutes"), (224, "it would be later than the last minute"), (229, "no such state"), (43, "no such hours"), (60, "no such priority"), (63, "no such targets"), (75, "no such agent can be added"), (83, "there are as many agents as there may be"), (137, "no such ticket can be opened"), (139, "there are as many tickets as there may be")]
def ncs : List (String × String) := []
def dcl : List MethodName := [⟨"java/lang/RuntimeException", "<init>", "(Ljava/lang/String;)V"⟩, ⟨"java/lang/Exception", "<init>", "(Ljava/lang/String;)V"⟩, ⟨"java/lang/Throwable", "<init>", "(Ljava/lang/String;)V"⟩]
def cas : List (String × String) := [(RX0, "java/lang/Object"), (RX2, "java/lang/Object"), (eA, eA), (eS, eS), (eI, eI)]
def KK (D : va_G) (U : State) : Prop := va_K D vwCl (tysD D) U ∧ va_Nw (.methodLinkNest RX0 27 yX3_dayOfWeek RX3) U ∧ va_Nw (.methodLinkNest RX1 18 yX3_dayOfWeek RX3) U ∧ (∀ q ∈ cas, va_Nw (.castable q.1 q.2) U) ∧ va_AO "java/lang/Object" U ∧ va_Mi "[Ljava/lang/Object;" (dM D) U ∧ va_Dc U ∧ (∀ q ∈ ncs, va_Nc q.1 q.2 U) ∧ (∀ q ∈ strs, ∃ a, vk_R RX3 q.1 q.2 a U) ∧ ∀ x ∈ dcl, va_Nw (.declares x) U
theorem KK.warm {D : va_G} {s U : State} (hW : s.WarmedH U.vm) (h : KK D s) : KK D U := by
  obtain ⟨h1, h2, h3, h4, h5, h6, h7, h8, h9, h10⟩ := h
  exact ⟨va_K.moved hW.alike h1, va_Nw.warmM hW h2, va_Nw.warmM hW h3, fun q hq => va_Nw.warmC hW (h4 q hq), va_AO.moved hW.alike h5, va_Mi.moved hW.alike h6, va_Dc.moved hW.alike h7, fun q hq => va_Nc.moved hW.alike (h8 q hq), fun q hq => ⟨_, vk_R.warm hW (h9 q hq).choose_spec⟩, fun x hx => va_Nw.warmD hW (h10 x hx)⟩
theorem KK.calling {D : va_G} {U : State} {g : JFrame} {mk : MethodId} {a : Array Value} (h : KK D U) : KK D (U.calling g mk a) := KK.warm (U := U.calling g mk a) (State.WarmedH.refl U) h
/-- the statics: Throwable's two, ArrayList's shared empty array -/
def ZZ (D : va_G) (A : Nat → Prop) (U : State) (H : Heap) : Prop := vx_Zq Bundle.tN "UNASSIGNED_STACK" Bundle.steD A U H ∧ vx_Zq Bundle.tN "SUPPRESSED_SENTINEL" Bundle.listD A U H ∧ va_Z "java/util/ArrayList" "DEFAULTCAPACITY_EMPTY_ELEMENTDATA" "[Ljava/lang/Object;" (.ref (dE D)) A U H ∧ va_T (.object "java/lang/Object") (dE D) 0 (fun _ => .null) A U H
theorem ZZ.moved {D : va_G} {A : Nat → Prop} {u U : State} {H : Heap} (hvm : u.vm.Alike U.vm) (h : ZZ D A u H) : ZZ D A U H := ⟨h.1.moved hvm, h.2.1.moved hvm, h.2.2.1.moved hvm, h.2.2.2.moved hvm⟩
theorem ZZ.kept {D : va_G} {A : Nat → Prop} {U : State} {H H1 : Heap} (h : ZZ D A U H) (hq : ∀ a : Nat, a < H.size → ¬ A a → H1[a]? = H[a]?) : ZZ D A U H1 := ⟨h.1.kept hq, h.2.1.kept hq, h.2.2.1.kept hq, h.2.2.2.kept hq⟩
theorem ZZ.narrow {D : va_G} {A B : Nat → Prop} {U : State} {H : Heap} (h : ZZ D A U H) (hAB : ∀ q, B q → A q) : ZZ D B U H := ⟨h.1.narrow hAB, h.2.1.narrow hAB, h.2.2.1.narrow hAB, h.2.2.2.narrow hAB⟩
abbrev rm4 (fr c n lo : Nat) : Room := { frames := fr, cells := c, slots := n, locals := lo }
/-- what stays in a body -/
def Fx (k : Kx) (cc : ByteArray) (own : String) (R : Room) (nL : Nat) : Prop :=
  (kp k).tables.exec = Jvm.exec ∧ (kc k).code = cc ∧ (kc k).maxLocals = nL ∧ kn k = nL ∧ kR k = R ∧ (ks k).vm.findClass own = some (km k).cls ∧ (∀ w ∈ Uw, w.before (kargs k) (ks k) = true) ∧ KK (kD k) (ks k) ∧ (∀ q, (ks k).heap.size ≤ q → kw k = true → kA k q) ∧ (kw k = true → ZZ (kD k) (kA k) (ks k) (ks k).heap) ∧ (kl k).stackTraces = false ∧ (kmeth k).locks = false
section FX
variable {k : Kx} {cc : ByteArray} {own : String} {R : Room} {nL : Nat}
theorem Fx.hx (F : Fx k cc own R nL) : (kp k).tables.exec = Jvm.exec := F.1
theorem Fx.hb (F : Fx k cc own R nL) : (kc k).code = cc := F.2.1
theorem Fx.hml (F : Fx k cc own R nL) : (kc k).maxLocals = nL := F.2.2.1
theorem Fx.hn (F : Fx k cc own R nL) : kn k = nL := F.2.2.2.1
theorem Fx.hR (F : Fx k cc own R nL) : kR k = R := F.2.2.2.2.1
theorem Fx.hown (F : Fx k cc own R nL) : (ks k).vm.findClass own = some (km k).cls := F.2.2.2.2.2.1
theorem Fx.hts (F : Fx k cc own R nL) {w : Cond} (h : w ∈ Uw) : w.before (kargs k) (ks k) = true := F.2.2.2.2.2.2.1 w h
theorem Fx.hK (F : Fx k cc own R nL) : KK (kD k) (ks k) := F.2.2.2.2.2.2.2.1
theorem Fx.hA (F : Fx k cc own R nL) (hw : kw k = true) : ∀ q, (ks k).heap.size ≤ q → kA k q := fun q h => F.2.2.2.2.2.2.2.2.1 q h hw
theorem Fx.hZ (F : Fx k cc own R nL) (hw : kw k = true) : ZZ (kD k) (kA k) (ks k) (ks k).heap := F.2.2.2.2.2.2.2.2.2.1 hw
theorem Fx.hl (F : Fx k cc own R nL) : (kl k).stackTraces = false := F.2.2.2.2.2.2.2.2.2.2.1
theorem Fx.hlk (F : Fx k cc own R nL) : (kmeth k).locks = false := F.2.2.2.2.2.2.2.2.2.2.2
theorem Fx.fix (F : Fx k cc own R nL) : CallFix (kp k) (km k) (kc k) cc nL (ks k) (kargs k) Uw own := ⟨F.hx, F.hb, F.hml, F.hown, fun _ h => F.hts h⟩
end FX
/-- the heap holds the world -/
def Wd (k : Kx) (ws : va_W) (H : Heap) (locs : List Loc) : Prop := va_P (kD k) vwCl ws H ∧ (kw k = true → va_D (kA k) ws) ∧ va_S (kA k) (ks k).heap H locs ∧ (kw k = false → H = (ks k).heap ∧ locs = [])
/-- the locals, by their slots -/
def prs : Nat → List (Option Value) → List (Nat × Value)
  | _, [] => []
  | i, none :: t => prs (i + 1) t
  | i, some v :: t => (i, v) :: prs (i + 1) t
theorem prs_iff : ∀ (l : List (Option Value)) (i j : Nat) (v : Value), (j, v) ∈ prs i l ↔ ∃ n, j = i + n ∧ l[n]? = some (some v)
  | [], i, j, v => by simp [prs]
  | none :: t, i, j, v => by
    rw [prs, prs_iff t (i + 1) j v]
    constructor
    · rintro ⟨n, h1, h2⟩
      exact ⟨n + 1, by omega, by simpa using h2⟩
    · rintro ⟨n, h1, h2⟩
      cases n with
      | zero => simp at h2
      | succ n => exact ⟨n, by omega, by simpa using h2⟩
  | some w :: t, i, j, v => by
    rw [prs, List.mem_cons, prs_iff t (i + 1) j v]
    constructor
    · rintro (h | ⟨n, h1, h2⟩)
      · cases h
        exact ⟨0, rfl, rfl⟩
      · exact ⟨n + 1, by omega, by simpa using h2⟩
    · rintro ⟨n, h1, h2⟩
      cases n with
      | zero =>
        simp at h2
        exact Or.inl (by rw [h1, h2]; rfl)
      | succ n => exact Or.inr ⟨n, by omega, by simpa using h2⟩
def lvh (ls : Array Slot) (n : Nat) (lv : List (Option Value)) : Prop := lv_has ls n (prs 0 lv)
theorem lvh.at {ls : Array Slot} {n : Nat} {lv : List (Option Value)} (h : lvh ls n lv) {i : Nat} {v : Value} (hv : lv[i]? = some (some v)) : ls[i]? = some (.val v) := h.2.2 (i, v) ((prs_iff lv 0 i v).mpr ⟨i, by omega, hv⟩)
/-- a slot's store spoils no long in front of it -/
def okst : List (Option Value) → Nat → Bool
  | _, 0 => true
  | [], _ => true
  | [_], _ => true
  | some v :: _ :: _, 1 => v.category == 1
  | none :: _ :: _, 1 => true
  | _ :: t, i + 1 => okst t i
theorem okst_spec : ∀ (l : List (Option Value)) (i : Nat) (v : Value), okst l (i + 1) = true → i + 1 < l.length → l[i]? = some (some v) → v.category = 1
  | [], _, _, _, h, _ => by simp at h
  | [_], _, _, _, h, _ => by simp at h
  | some w :: b :: t, 0, v, h, _, e => by
    simp [okst] at h e
    rw [← e]; exact h
  | none :: b :: t, 0, v, h, _, e => by simp at e
  | a :: b :: t, i + 1, v, h, hl, e => by
    have h' : okst (b :: t) (i + 1) = true := by
      cases a <;> simpa [okst] using h
    exact okst_spec (b :: t) i v h' (by simpa using hl) (by simpa using e)
theorem lvh.put {ls' : Array Slot} {n : Nat} {lv lv' : List (Option Value)} {i : Nat} {v : Value} (ho : (Nat.blt i lv.length && okst lv i) = true) (e : lv.set i (some v) = lv')
    (h : lv_has ls' n ((i, v) :: (prs 0 lv).filter (fun q => !(q.1 == i) && !(q.1 + 1 == i && q.2.category == 2)))) : lvh ls' n lv' := by
  subst e
  simp only [Bool.and_eq_true, Nat.blt_eq] at ho
  refine ⟨h.1, h.2.1, fun q hq => h.2.2 q ?_⟩
  obtain ⟨j, w⟩ := q
  obtain ⟨m, e1, e2⟩ := (prs_iff _ 0 j w).mp hq
  rw [Nat.zero_add] at e1
  subst e1
  by_cases hj : j = i
  · subst hj
    rw [List.getElem?_set_self ho.1] at e2
    cases e2
    exact List.mem_cons_self
  · rw [List.getElem?_set_ne (fun z => hj z.symm)] at e2
    refine List.mem_cons_of_mem _ (List.mem_filter.mpr ⟨(prs_iff lv 0 j w).mpr ⟨j, by omega, e2⟩, ?_⟩)
    simp only [Bool.and_eq_true, Bool.not_eq_true', beq_eq_false_iff_ne, Bool.and_eq_false_imp, beq_iff_eq]
    refine ⟨hj, fun hji => ?_⟩
    subst hji
    have := okst_spec lv j w ho.2 ho.1 e2
    show ¬ w.category = 2
    omega
theorem lvh.put2 {ls' : Array Slot} {n : Nat} {lv lv' : List (Option Value)} {i : Nat} {v : Value} (ho : (Nat.blt (i + 1) lv.length && okst lv i) = true) (e : (lv.set i (some v)).set (i + 1) none = lv')
    (h : lv_has ls' n ((i, v) :: (prs 0 lv).filter (fun q => !(q.1 == i) && (!(q.1 == i + 1) && !(q.1 + 1 == i && q.2.category == 2))))) : lvh ls' n lv' := by
  subst e
  simp only [Bool.and_eq_true, Nat.blt_eq] at ho
  refine ⟨h.1, h.2.1, fun q hq => h.2.2 q ?_⟩
  obtain ⟨j, w⟩ := q
  obtain ⟨m, e1, e2⟩ := (prs_iff _ 0 j w).mp hq
  rw [Nat.zero_add] at e1
  subst e1
  by_cases hj1 : j = i + 1
  · subst hj1
    rw [List.getElem?_set_self (by rw [List.length_set]; exact ho.1)] at e2
    cases e2
  rw [List.getElem?_set_ne (fun z => hj1 z.symm)] at e2
  by_cases hj : j = i
  · subst hj
    rw [List.getElem?_set_self (by omega)] at e2
    cases e2
    exact List.mem_cons_self
  · rw [List.getElem?_set_ne (fun z => hj z.symm)] at e2
    refine List.mem_cons_of_mem _ (List.mem_filter.mpr ⟨(prs_iff lv 0 j w).mpr ⟨j, by omega, e2⟩, ?_⟩)
    simp only [Bool.and_eq_true, Bool.not_eq_true', beq_eq_false_iff_ne, Bool.and_eq_false_imp, beq_iff_eq]
    refine ⟨hj, hj1, fun hji => ?_⟩
    subst hji
    have := okst_spec lv j w ho.2 (by omega) e2
    show ¬ w.category = 2
    omega
def J (k : Kx) (ws : va_W) (c n pc : Nat) (lv : List (Option Value)) (st : List Value) : Prop :=
  ∀ (H : Heap) (locs : List Loc) (ls : Array Slot), Wd k ws H locs → lvh ls (kn k) lv → W (kp k) (kl k) (ke k) (kR k) (ks k) (km k) (kargs k) (kbelow k) (kmeth k) (kc k) H locs c n (kQ k) (F0 (km k) pc ls st)
section ROWS
variable {k : Kx} {cc : ByteArray} {own : String} {R : Room} {nL : Nat} {ws : va_W} {c n pc : Nat} {lv lv' : List (Option Value)} {st : List Value}
theorem j_iconst (F : Fx k cc own R nL) {q : Int} {v : Int32} (hd : decode cc pc = .ok (.iconst q, 1)) (hv : Int32.ofInt q = v) (K : J k ws c n (pc + 1) lv (.int v :: st)) : J k ws c n pc lv (st) := fun H locs ls hP hL => lv_iconst F.hx F.hb hd hv (K H locs ls hP hL)
theorem j_bipush (F : Fx k cc own R nL) {q : Int} {v : Int32} (hd : decode cc pc = .ok (.bipush q, 2)) (hv : (Int8.ofInt q).toInt32 = v) (K : J k ws c n (pc + 2) lv (.int v :: st)) : J k ws c n pc lv (st) := fun H locs ls hP hL => lv_bipush F.hx F.hb hd hv (K H locs ls hP hL)
theorem j_sipush (F : Fx k cc own R nL) {q : Int} {v : Int32} (hd : decode cc pc = .ok (.sipush q, 3)) (hv : (Int16.ofInt q).toInt32 = v) (K : J k ws c n (pc + 3) lv (.int v :: st)) : J k ws c n pc lv (st) := fun H locs ls hP hL => lv_sipush F.hx F.hb hd hv (K H locs ls hP hL)
theorem j_lconst (F : Fx k cc own R nL) {q : Fin 2} {v : Int64} (hd : decode cc pc = .ok (.lconst q, 1)) (hv : Int64.ofNat (q : Nat) = v) (K : J k ws c n (pc + 1) lv (.long v :: st)) : J k ws c n pc lv (st) := fun H locs ls hP hL => lv_lconst F.hx F.hb hd hv (K H locs ls hP hL)
theorem j_iloadn (F : Fx k cc own R nL) {i : Fin 4} {x : Int32} (hd : decode cc pc = .ok (.iload_n i, 1)) (hl : lv[i.val]? = some (some (.int x))) (K : J k ws c n (pc + 1) lv (.int x :: st)) : J k ws c n pc lv (st) := fun H locs ls hP hL => lv_iload_n F.hx F.hb hd rfl (hL.at hl) (K H locs ls hP hL)
theorem j_iload (F : Fx k cc own R nL) {i : Nat} {x : Int32} (hd : decode cc pc = .ok (.iload i, 2)) (hl : lv[i]? = some (some (.int x))) (K : J k ws c n (pc + 2) lv (.int x :: st)) : J k ws c n pc lv (st) := fun H locs ls hP hL => lv_iload F.hx F.hb hd (hL.at hl) (K H locs ls hP hL)
theorem j_lloadn (F : Fx k cc own R nL) {i : Fin 4} {x : Int64} (hd : decode cc pc = .ok (.lload_n i, 1)) (hl : lv[i.val]? = some (some (.long x))) (K : J k ws c n (pc + 1) lv (.long x :: st)) : J k ws c n pc lv (st) := fun H locs ls hP hL => lv_lload_n F.hx F.hb hd rfl (hL.at hl) (K H locs ls hP hL)
theorem j_lload (F : Fx k cc own R nL) {i : Nat} {x : Int64} (hd : decode cc pc = .ok (.lload i, 2)) (hl : lv[i]? = some (some (.long x))) (K : J k ws c n (pc + 2) lv (.long x :: st)) : J k ws c n pc lv (st) := fun H locs ls hP hL => lv_lload F.hx F.hb hd (hL.at hl) (K H locs ls hP hL)
theorem j_dload (F : Fx k cc own R nL) {i : Nat} {x : UInt64} (hd : decode cc pc = .ok (.dload i, 2)) (hl : lv[i]? = some (some (.double x))) (K : J k ws c n (pc + 2) lv (.double x :: st)) : J k ws c n pc lv (st) := fun H locs ls hP hL => lv_dload F.hx F.hb hd (hL.at hl) (K H locs ls hP hL)
theorem j_aloadn (F : Fx k cc own R nL) {i : Fin 4} {x : Nat} (hd : decode cc pc = .ok (.aload_n i, 1)) (hl : lv[i.val]? = some (some (.ref x))) (K : J k ws c n (pc + 1) lv (.ref x :: st)) : J k ws c n pc lv (st) := fun H locs ls hP hL => lv_aload_n F.hx F.hb hd rfl (hL.at hl) (K H locs ls hP hL)
theorem j_aload (F : Fx k cc own R nL) {i : Nat} {x : Nat} (hd : decode cc pc = .ok (.aload i, 2)) (hl : lv[i]? = some (some (.ref x))) (K : J k ws c n (pc + 2) lv (.ref x :: st)) : J k ws c n pc lv (st) := fun H locs ls hP hL => lv_aload F.hx F.hb hd (hL.at hl) (K H locs ls hP hL)
theorem j_aloadnq (F : Fx k cc own R nL) {i : Fin 4} {x : Option Nat} (hd : decode cc pc = .ok (.aload_n i, 1)) (hl : lv[i.val]? = some (some (va_rf x))) (K : J k ws c n (pc + 1) lv (va_rf x :: st)) : J k ws c n pc lv st := by
  cases x with
  | none => exact fun H locs ls hP hL => lv_aload_nN F.hx F.hb hd rfl (hL.at hl) (K H locs ls hP hL)
  | some a => exact j_aloadn F hd hl K
theorem j_aloadq (F : Fx k cc own R nL) {i : Nat} {x : Option Nat} (hd : decode cc pc = .ok (.aload i, 2)) (hl : lv[i]? = some (some (va_rf x))) (K : J k ws c n (pc + 2) lv (va_rf x :: st)) : J k ws c n pc lv st := by
  cases x with
  | none => exact fun H locs ls hP hL => lv_aloadN F.hx F.hb hd (hL.at hl) (K H locs ls hP hL)
  | some a => exact j_aload F hd hl K
theorem j_istoren (F : Fx k cc own R nL) {i : Fin 4} {x : Int32} (lv' : List (Option Value)) (hd : decode cc pc = .ok (.istore_n i, 1)) (ho : (Nat.blt i.val lv.length && okst lv i.val) = true) (hn : Nat.blt i.val nL = true) (he : lv.set i.val (some (.int x)) = lv') (K : J k ws c n (pc + 1) lv' st) : J k ws c n pc lv (.int x :: st) := fun H locs ls hP hL => lv_istore_n F.hx F.hb hd rfl hL (by rw [F.hn]; simpa using hn) rfl fun ls' h => K H locs ls' hP (lvh.put ho he h)
theorem j_istore (F : Fx k cc own R nL) {i : Nat} {x : Int32} (lv' : List (Option Value)) (hd : decode cc pc = .ok (.istore i, 2)) (ho : (Nat.blt i lv.length && okst lv i) = true) (hn : Nat.blt i nL = true) (he : lv.set i (some (.int x)) = lv') (K : J k ws c n (pc + 2) lv' st) : J k ws c n pc lv (.int x :: st) := fun H locs ls hP hL => lv_istore F.hx F.hb hd hL (by rw [F.hn]; simpa using hn) rfl fun ls' h => K H locs ls' hP (lvh.put ho he h)
theorem j_astoren (F : Fx k cc own R nL) {i : Fin 4} {x : Nat} (lv' : List (Option Value)) (hd : decode cc pc = .ok (.astore_n i, 1)) (ho : (Nat.blt i.val lv.length && okst lv i.val) = true) (hn : Nat.blt i.val nL = true) (he : lv.set i.val (some (.ref x)) = lv') (K : J k ws c n (pc + 1) lv' st) : J k ws c n pc lv (.ref x :: st) := fun H locs ls hP hL => lv_astore_n F.hx F.hb hd rfl hL (by rw [F.hn]; simpa using hn) rfl fun ls' h => K H locs ls' hP (lvh.put ho he h)
theorem j_astore (F : Fx k cc own R nL) {i : Nat} {x : Nat} (lv' : List (Option Value)) (hd : decode cc pc = .ok (.astore i, 2)) (ho : (Nat.blt i lv.length && okst lv i) = true) (hn : Nat.blt i nL = true) (he : lv.set i (some (.ref x)) = lv') (K : J k ws c n (pc + 2) lv' st) : J k ws c n pc lv (.ref x :: st) := fun H locs ls hP hL => lv_astore F.hx F.hb hd hL (by rw [F.hn]; simpa using hn) rfl fun ls' h => K H locs ls' hP (lvh.put ho he h)
theorem j_lstoren (F : Fx k cc own R nL) {i : Fin 4} {x : Int64} (lv' : List (Option Value)) (hd : decode cc pc = .ok (.lstore_n i, 1)) (ho : (Nat.blt (i.val + 1) lv.length && okst lv i.val) = true) (hn : Nat.blt (i.val + 1) nL = true) (he : (lv.set i.val (some (.long x))).set (i.val + 1) none = lv') (K : J k ws c n (pc + 1) lv' st) : J k ws c n pc lv (.long x :: st) := fun H locs ls hP hL => lv_lstore_n F.hx F.hb hd rfl hL (by rw [F.hn]; simpa using hn) rfl fun ls' h => K H locs ls' hP (lvh.put2 ho he h)
theorem j_lstore (F : Fx k cc own R nL) {i : Nat} {x : Int64} (lv' : List (Option Value)) (hd : decode cc pc = .ok (.lstore i, 2)) (ho : (Nat.blt (i + 1) lv.length && okst lv i) = true) (hn : Nat.blt (i + 1) nL = true) (he : (lv.set i (some (.long x))).set (i + 1) none = lv') (K : J k ws c n (pc + 2) lv' st) : J k ws c n pc lv (.long x :: st) := fun H locs ls hP hL => lv_lstore F.hx F.hb hd hL (by rw [F.hn]; simpa using hn) rfl fun ls' h => K H locs ls' hP (lvh.put2 ho he h)
theorem j_dstore (F : Fx k cc own R nL) {i : Nat} {x : UInt64} (lv' : List (Option Value)) (hd : decode cc pc = .ok (.dstore i, 2)) (ho : (Nat.blt (i + 1) lv.length && okst lv i) = true) (hn : Nat.blt (i + 1) nL = true) (he : (lv.set i (some (.double x))).set (i + 1) none = lv') (K : J k ws c n (pc + 2) lv' st) : J k ws c n pc lv (.double x :: st) := fun H locs ls hP hL => lv_dstore F.hx F.hb hd hL (by rw [F.hn]; simpa using hn) rfl fun ls' h => K H locs ls' hP (lvh.put2 ho he h)
theorem j_astorenN (F : Fx k cc own R nL) {i : Fin 4}  (lv' : List (Option Value)) (hd : decode cc pc = .ok (.astore_n i, 1)) (ho : (Nat.blt i.val lv.length && okst lv i.val) = true) (hn : Nat.blt i.val nL = true) (he : lv.set i.val (some (.null)) = lv') (K : J k ws c n (pc + 1) lv' st) : J k ws c n pc lv (.null :: st) := fun H locs ls hP hL => lv_astore_nN F.hx F.hb hd rfl hL (by rw [F.hn]; simpa using hn) rfl fun ls' h => K H locs ls' hP (lvh.put ho he h)
theorem j_astoreN (F : Fx k cc own R nL) {i : Nat}  (lv' : List (Option Value)) (hd : decode cc pc = .ok (.astore i, 2)) (ho : (Nat.blt i lv.length && okst lv i) = true) (hn : Nat.blt i nL = true) (he : lv.set i (some (.null)) = lv') (K : J k ws c n (pc + 2) lv' st) : J k ws c n pc lv (.null :: st) := fun H locs ls hP hL => lv_astoreN F.hx F.hb hd hL (by rw [F.hn]; simpa using hn) rfl fun ls' h => K H locs ls' hP (lvh.put ho he h)
theorem j_astorenq (F : Fx k cc own R nL) {i : Fin 4} {x : Option Nat} (lv' : List (Option Value)) (hd : decode cc pc = .ok (.astore_n i, 1)) (ho : (Nat.blt i.val lv.length && okst lv i.val) = true) (hn : Nat.blt i.val nL = true) (he : lv.set i.val (some (va_rf x)) = lv') (K : J k ws c n (pc + 1) lv' st) : J k ws c n pc lv (va_rf x :: st) := by
  cases x with
  | none => exact j_astorenN F lv' hd ho hn he K
  | some a => exact j_astoren F lv' hd ho hn he K
theorem j_astoreq (F : Fx k cc own R nL) {i : Nat} {x : Option Nat} (lv' : List (Option Value)) (hd : decode cc pc = .ok (.astore i, 2)) (ho : (Nat.blt i lv.length && okst lv i) = true) (hn : Nat.blt i nL = true) (he : lv.set i (some (va_rf x)) = lv') (K : J k ws c n (pc + 2) lv' st) : J k ws c n pc lv (va_rf x :: st) := by
  cases x with
  | none => exact j_astoreN F lv' hd ho hn he K
  | some a => exact j_astore F lv' hd ho hn he K
theorem j_iinc (F : Fx k cc own R nL) {i : Nat} {d : Int} {x v : Int32} (lv' : List (Option Value)) (hd : decode cc pc = .ok (.iinc i d, 3)) (hl : lv[i]? = some (some (.int x))) (hv : x + Int32.ofInt d = v) (ho : (Nat.blt i lv.length && okst lv i) = true) (hn : Nat.blt i nL = true) (he : lv.set i (some (.int v)) = lv') (K : J k ws c n (pc + 3) lv' st) : J k ws c n pc lv st := fun H locs ls hP hL => by
  obtain ⟨j, hj⟩ := List.getElem?_of_mem ((prs_iff lv 0 i (.int x)).mpr ⟨i, by omega, hl⟩)
  exact lv_iinc F.hx F.hb hd hL hj hv (by rw [F.hn]; simpa using hn) rfl fun ls' h => K H locs ls' hP (lvh.put ho he h)
theorem j_iadd (F : Fx k cc own R nL) {x y : Int32} (hd : decode cc pc = .ok (.iadd, 1)) (K : J k ws c n (pc + 1) lv (.int (x + y) :: st)) : J k ws c n pc lv (.int y :: .int x :: st) := fun H locs ls hP hL => lv_iadd F.hx F.hb hd (K H locs ls hP hL)
theorem j_isub (F : Fx k cc own R nL) {x y : Int32} (hd : decode cc pc = .ok (.isub, 1)) (K : J k ws c n (pc + 1) lv (.int (x - y) :: st)) : J k ws c n pc lv (.int y :: .int x :: st) := fun H locs ls hP hL => lv_isub F.hx F.hb hd (K H locs ls hP hL)
theorem j_imul (F : Fx k cc own R nL) {x y : Int32} (hd : decode cc pc = .ok (.imul, 1)) (K : J k ws c n (pc + 1) lv (.int (x * y) :: st)) : J k ws c n pc lv (.int y :: .int x :: st) := fun H locs ls hP hL => lv_imul F.hx F.hb hd (K H locs ls hP hL)
theorem j_iand (F : Fx k cc own R nL) {x y : Int32} (hd : decode cc pc = .ok (.iand, 1)) (K : J k ws c n (pc + 1) lv (.int (x &&& y) :: st)) : J k ws c n pc lv (.int y :: .int x :: st) := fun H locs ls hP hL => lv_iand F.hx F.hb hd (K H locs ls hP hL)
theorem j_ior (F : Fx k cc own R nL) {x y : Int32} (hd : decode cc pc = .ok (.ior, 1)) (K : J k ws c n (pc + 1) lv (.int (x ||| y) :: st)) : J k ws c n pc lv (.int y :: .int x :: st) := fun H locs ls hP hL => lv_ior F.hx F.hb hd (K H locs ls hP hL)
theorem j_ixor (F : Fx k cc own R nL) {x y : Int32} (hd : decode cc pc = .ok (.ixor, 1)) (K : J k ws c n (pc + 1) lv (.int (x ^^^ y) :: st)) : J k ws c n pc lv (.int y :: .int x :: st) := fun H locs ls hP hL => lv_ixor F.hx F.hb hd (K H locs ls hP hL)
theorem j_ishl (F : Fx k cc own R nL) {x y : Int32} (hd : decode cc pc = .ok (.ishl, 1)) (K : J k ws c n (pc + 1) lv (.int (x <<< (y &&& 31)) :: st)) : J k ws c n pc lv (.int y :: .int x :: st) := fun H locs ls hP hL => lv_ishl F.hx F.hb hd (K H locs ls hP hL)
theorem j_ishr (F : Fx k cc own R nL) {x y : Int32} (hd : decode cc pc = .ok (.ishr, 1)) (K : J k ws c n (pc + 1) lv (.int (x >>> (y &&& 31)) :: st)) : J k ws c n pc lv (.int y :: .int x :: st) := fun H locs ls hP hL => lv_ishr F.hx F.hb hd (K H locs ls hP hL)
theorem j_idiv (F : Fx k cc own R nL) {x y : Int32} (hd : decode cc pc = .ok (.idiv, 1)) (h0 : ¬ y = 0) (K : J k ws c n (pc + 1) lv (.int (x / y) :: st)) : J k ws c n pc lv (.int y :: .int x :: st) := fun H locs ls hP hL => lv_idiv F.hx F.hb hd h0 (K H locs ls hP hL)
theorem j_irem (F : Fx k cc own R nL) {x y : Int32} (hd : decode cc pc = .ok (.irem, 1)) (h0 : ¬ y = 0) (K : J k ws c n (pc + 1) lv (.int (x - x / y * y) :: st)) : J k ws c n pc lv (.int y :: .int x :: st) := fun H locs ls hP hL => lv_irem F.hx F.hb hd h0 (K H locs ls hP hL)
theorem j_ladd (F : Fx k cc own R nL) {x y : Int64} (hd : decode cc pc = .ok (.ladd, 1)) (K : J k ws c n (pc + 1) lv (.long (x + y) :: st)) : J k ws c n pc lv (.long y :: .long x :: st) := fun H locs ls hP hL => lv_ladd F.hx F.hb hd (K H locs ls hP hL)
theorem j_lmul (F : Fx k cc own R nL) {x y : Int64} (hd : decode cc pc = .ok (.lmul, 1)) (K : J k ws c n (pc + 1) lv (.long (x * y) :: st)) : J k ws c n pc lv (.long y :: .long x :: st) := fun H locs ls hP hL => lv_lmul F.hx F.hb hd (K H locs ls hP hL)
theorem j_i2l (F : Fx k cc own R nL) {x : Int32} (hd : decode cc pc = .ok (.i2l, 1)) (K : J k ws c n (pc + 1) lv (.long x.toInt64 :: st)) : J k ws c n pc lv (.int x :: st) := fun H locs ls hP hL => lv_i2l F.hx F.hb hd rfl (K H locs ls hP hL)
theorem j_lcmp (F : Fx k cc own R nL) {x y : Int64} (hd : decode cc pc = .ok (.lcmp, 1)) (K : J k ws c n (pc + 1) lv (.int (lg_cmp x y) :: st)) : J k ws c n pc lv (.long y :: .long x :: st) := fun H locs ls hP hL => W.lcmp F.hx F.hb hd (K H locs ls hP hL)
theorem j_i2d (F : Fx k cc own R nL) {x : Int32} (hd : decode cc pc = .ok (.i2d, 1)) (K : J k ws c n (pc + 1) lv (.double (FP.i2d x) :: st)) : J k ws c n pc lv (.int x :: st) := fun H locs ls hP hL => lv_i2d F.hx F.hb hd (K H locs ls hP hL)
theorem j_ddiv (F : Fx k cc own R nL) {x y : UInt64} (hd : decode cc pc = .ok (.ddiv, 1)) (hne : vf_n64 (FP.ddiv x y)) (K : J k ws c n (pc + 1) lv (.double (FP.ddiv x y) :: st)) : J k ws c n pc lv (.double y :: .double x :: st) := fun H locs ls hP hL => lv_ddiv F.hx F.hb hd hne (K H locs ls hP hL)
theorem j_dcmp (F : Fx k cc own R nL) {x y : UInt64} {op : CmpOp} (hd : decode cc pc = .ok (.dcmp op, 1)) (K : J k ws c n (pc + 1) lv (.int (Op.cmpValue (FP.dcmp x y) op) :: st)) : J k ws c n pc lv (.double y :: .double x :: st) := fun H locs ls hP hL => lv_dcmp F.hx F.hb hd (K H locs ls hP hL)
theorem j_dconst1 (F : Fx k cc own R nL) (hd : decode cc pc = .ok (.dconst 1, 1)) (K : J k ws c n (pc + 1) lv (.double FP.dconst1 :: st)) : J k ws c n pc lv (st) := fun H locs ls hP hL => lv_dconst1 F.hx F.hb hd (K H locs ls hP hL)
theorem j_null (F : Fx k cc own R nL) (hd : decode cc pc = .ok (.aconst_null, 1)) (K : J k ws c n (pc + 1) lv (.null :: st)) : J k ws c n pc lv (st) := fun H locs ls hP hL => lv_null F.hx F.hb hd (K H locs ls hP hL)
theorem j_dup (F : Fx k cc own R nL) {v : Value} (hd : decode cc pc = .ok (.dup, 1)) (hv : v.category = 1) (K : J k ws c n (pc + 1) lv (v :: v :: st)) : J k ws c n pc lv (v :: st) := fun H locs ls hP hL => lv_dup F.hx F.hb hd hv (K H locs ls hP hL)
theorem j_pop (F : Fx k cc own R nL) {v : Value} (hd : decode cc pc = .ok (.pop, 1)) (hv : v.category = 1) (K : J k ws c n (pc + 1) lv (st)) : J k ws c n pc lv (v :: st) := fun H locs ls hP hL => lv_pop F.hx F.hb hd hv (K H locs ls hP hL)
theorem j_dup2 (F : Fx k cc own R nL) {v w : Value} (hd : decode cc pc = .ok (.dup2, 1)) (hv : v.category = 1) (hw : w.category = 1) (K : J k ws c n (pc + 1) lv (v :: w :: v :: w :: st)) : J k ws c n pc lv (v :: w :: st) := fun H locs ls hP hL => lv_dup2_11 F.hx F.hb hd hv hw (K H locs ls hP hL)
theorem j_dupx1 (F : Fx k cc own R nL) {v w : Value} (hd : decode cc pc = .ok (.dup_x1, 1)) (hv : v.category = 1) (hw : w.category = 1) (K : J k ws c n (pc + 1) lv (v :: w :: v :: st)) : J k ws c n pc lv (v :: w :: st) := fun H locs ls hP hL => lv_dup_x1 F.hx F.hb hd hv hw (K H locs ls hP hL)
theorem j_goto (F : Fx k cc own R nL) {off : Int} {tgt : Nat} (hd : decode cc pc = .ok (.goto off, 3)) (ht : (pc : Int) + off = (tgt : Int)) (K : J k ws c n (tgt) lv (st)) : J k ws c n pc lv (st) := fun H locs ls hP hL => lv_goto F.hx F.hb hd ht (K H locs ls hP hL)
theorem j_ifnonnull (F : Fx k cc own R nL) {x : Nat} {off : Int} {tgt : Nat} (hd : decode cc pc = .ok (.ifnonnull off, 3)) (ht : (pc : Int) + off = (tgt : Int)) (K : J k ws c n (tgt) lv (st)) : J k ws c n pc lv (.ref x :: st) := fun H locs ls hP hL => lv_ifnonnull F.hx F.hb hd ht (K H locs ls hP hL)
theorem j_ifnonnullN (F : Fx k cc own R nL) {off : Int} (hd : decode cc pc = .ok (.ifnonnull off, 3)) (K : J k ws c n (pc + 3) lv (st)) : J k ws c n pc lv (.null :: st) := fun H locs ls hP hL => lv_ifnonnullN F.hx F.hb hd (K H locs ls hP hL)
theorem j_ifnull (F : Fx k cc own R nL) {x : Nat} {off : Int} (hd : decode cc pc = .ok (.ifnull off, 3)) (K : J k ws c n (pc + 3) lv (st)) : J k ws c n pc lv (.ref x :: st) := fun H locs ls hP hL => lv_ifnull F.hx F.hb hd (K H locs ls hP hL)
theorem j_ifnullN (F : Fx k cc own R nL) {off : Int} {tgt : Nat} (hd : decode cc pc = .ok (.ifnull off, 3)) (ht : (pc : Int) + off = (tgt : Int)) (K : J k ws c n (tgt) lv (st)) : J k ws c n pc lv (.null :: st) := fun H locs ls hP hL => lv_ifnullN F.hx F.hb hd ht (K H locs ls hP hL)
theorem j_ifnullq (F : Fx k cc own R nL) {x : Option Nat} {off : Int} {tgt : Nat} (hd : decode cc pc = .ok (.ifnull off, 3)) (ht : (pc : Int) + off = (tgt : Int)) (K1 : x = none → J k ws c n tgt lv st) (K2 : ∀ a, x = some a → J k ws c n (pc + 3) lv st) : J k ws c n pc lv (va_rf x :: st) := by
  cases x with
  | none => exact j_ifnullN F hd ht (K1 rfl)
  | some a => exact j_ifnull F hd (K2 a rfl)
theorem j_ifnonnullq (F : Fx k cc own R nL) {x : Option Nat} {off : Int} {tgt : Nat} (hd : decode cc pc = .ok (.ifnonnull off, 3)) (ht : (pc : Int) + off = (tgt : Int)) (K1 : ∀ a, x = some a → J k ws c n tgt lv st) (K2 : x = none → J k ws c n (pc + 3) lv st) : J k ws c n pc lv (va_rf x :: st) := by
  cases x with
  | none => exact j_ifnonnullN F hd (K2 rfl)
  | some a => exact j_ifnonnull F hd ht (K1 a rfl)
theorem j_ifeq (F : Fx k cc own R nL) {x : Int32} {off : Int} {tgt : Nat} (hd : decode cc pc = .ok (.ifCond .eq off, 3)) (ht : (pc : Int) + off = (tgt : Int)) (K1 : x = 0 → J k ws c n tgt lv st) (K2 : ¬ x = 0 → J k ws c n (pc + 3) lv st) : J k ws c n pc lv (.int x :: st) := fun H locs ls hP hL => lv_if_eq F.hx F.hb hd ht (fun h => K1 h H locs ls hP hL) (fun h => K2 h H locs ls hP hL)
theorem j_ifne (F : Fx k cc own R nL) {x : Int32} {off : Int} {tgt : Nat} (hd : decode cc pc = .ok (.ifCond .ne off, 3)) (ht : (pc : Int) + off = (tgt : Int)) (K1 : ¬ x = 0 → J k ws c n tgt lv st) (K2 : x = 0 → J k ws c n (pc + 3) lv st) : J k ws c n pc lv (.int x :: st) := fun H locs ls hP hL => lv_if_ne F.hx F.hb hd ht (fun h => K1 h H locs ls hP hL) (fun h => K2 h H locs ls hP hL)
theorem j_iflt (F : Fx k cc own R nL) {x : Int32} {off : Int} {tgt : Nat} (hd : decode cc pc = .ok (.ifCond .lt off, 3)) (ht : (pc : Int) + off = (tgt : Int)) (K1 : x < 0 → J k ws c n tgt lv st) (K2 : ¬ x < 0 → J k ws c n (pc + 3) lv st) : J k ws c n pc lv (.int x :: st) := fun H locs ls hP hL => lv_if_lt F.hx F.hb hd ht (fun h => K1 h H locs ls hP hL) (fun h => K2 h H locs ls hP hL)
theorem j_ifge (F : Fx k cc own R nL) {x : Int32} {off : Int} {tgt : Nat} (hd : decode cc pc = .ok (.ifCond .ge off, 3)) (ht : (pc : Int) + off = (tgt : Int)) (K1 : 0 ≤ x → J k ws c n tgt lv st) (K2 : ¬ 0 ≤ x → J k ws c n (pc + 3) lv st) : J k ws c n pc lv (.int x :: st) := fun H locs ls hP hL => lv_if_ge F.hx F.hb hd ht (fun h => K1 h H locs ls hP hL) (fun h => K2 h H locs ls hP hL)
theorem j_ifgt (F : Fx k cc own R nL) {x : Int32} {off : Int} {tgt : Nat} (hd : decode cc pc = .ok (.ifCond .gt off, 3)) (ht : (pc : Int) + off = (tgt : Int)) (K1 : 0 < x → J k ws c n tgt lv st) (K2 : ¬ 0 < x → J k ws c n (pc + 3) lv st) : J k ws c n pc lv (.int x :: st) := fun H locs ls hP hL => lv_if_gt F.hx F.hb hd ht (fun h => K1 h H locs ls hP hL) (fun h => K2 h H locs ls hP hL)
theorem j_ifle (F : Fx k cc own R nL) {x : Int32} {off : Int} {tgt : Nat} (hd : decode cc pc = .ok (.ifCond .le off, 3)) (ht : (pc : Int) + off = (tgt : Int)) (K1 : x ≤ 0 → J k ws c n tgt lv st) (K2 : ¬ x ≤ 0 → J k ws c n (pc + 3) lv st) : J k ws c n pc lv (.int x :: st) := fun H locs ls hP hL => lv_if_le F.hx F.hb hd ht (fun h => K1 h H locs ls hP hL) (fun h => K2 h H locs ls hP hL)
theorem j_iceq (F : Fx k cc own R nL) {x y : Int32} {off : Int} {tgt : Nat} (hd : decode cc pc = .ok (.if_icmp .eq off, 3)) (ht : (pc : Int) + off = (tgt : Int)) (K1 : x = y → J k ws c n tgt lv st) (K2 : ¬ x = y → J k ws c n (pc + 3) lv st) : J k ws c n pc lv (.int y :: .int x :: st) := fun H locs ls hP hL => lv_icmp_eq F.hx F.hb hd ht (fun h => K1 h H locs ls hP hL) (fun h => K2 h H locs ls hP hL)
theorem j_icne (F : Fx k cc own R nL) {x y : Int32} {off : Int} {tgt : Nat} (hd : decode cc pc = .ok (.if_icmp .ne off, 3)) (ht : (pc : Int) + off = (tgt : Int)) (K1 : ¬ x = y → J k ws c n tgt lv st) (K2 : x = y → J k ws c n (pc + 3) lv st) : J k ws c n pc lv (.int y :: .int x :: st) := fun H locs ls hP hL => lv_icmp_ne F.hx F.hb hd ht (fun h => K1 h H locs ls hP hL) (fun h => K2 h H locs ls hP hL)
theorem j_iclt (F : Fx k cc own R nL) {x y : Int32} {off : Int} {tgt : Nat} (hd : decode cc pc = .ok (.if_icmp .lt off, 3)) (ht : (pc : Int) + off = (tgt : Int)) (K1 : x < y → J k ws c n tgt lv st) (K2 : ¬ x < y → J k ws c n (pc + 3) lv st) : J k ws c n pc lv (.int y :: .int x :: st) := fun H locs ls hP hL => lv_icmp_lt F.hx F.hb hd ht (fun h => K1 h H locs ls hP hL) (fun h => K2 h H locs ls hP hL)
theorem j_icge (F : Fx k cc own R nL) {x y : Int32} {off : Int} {tgt : Nat} (hd : decode cc pc = .ok (.if_icmp .ge off, 3)) (ht : (pc : Int) + off = (tgt : Int)) (K1 : y ≤ x → J k ws c n tgt lv st) (K2 : ¬ y ≤ x → J k ws c n (pc + 3) lv st) : J k ws c n pc lv (.int y :: .int x :: st) := fun H locs ls hP hL => lv_icmp_ge F.hx F.hb hd ht (fun h => K1 h H locs ls hP hL) (fun h => K2 h H locs ls hP hL)
theorem j_icgt (F : Fx k cc own R nL) {x y : Int32} {off : Int} {tgt : Nat} (hd : decode cc pc = .ok (.if_icmp .gt off, 3)) (ht : (pc : Int) + off = (tgt : Int)) (K1 : y < x → J k ws c n tgt lv st) (K2 : ¬ y < x → J k ws c n (pc + 3) lv st) : J k ws c n pc lv (.int y :: .int x :: st) := fun H locs ls hP hL => lv_icmp_gt F.hx F.hb hd ht (fun h => K1 h H locs ls hP hL) (fun h => K2 h H locs ls hP hL)
theorem j_icle (F : Fx k cc own R nL) {x y : Int32} {off : Int} {tgt : Nat} (hd : decode cc pc = .ok (.if_icmp .le off, 3)) (ht : (pc : Int) + off = (tgt : Int)) (K1 : x ≤ y → J k ws c n tgt lv st) (K2 : ¬ x ≤ y → J k ws c n (pc + 3) lv st) : J k ws c n pc lv (.int y :: .int x :: st) := fun H locs ls hP hL => lv_icmp_le F.hx F.hb hd ht (fun h => K1 h H locs ls hP hL) (fun h => K2 h H locs ls hP hL)
theorem j_acne (F : Fx k cc own R nL) {x y : Option Nat} {off : Int} {tgt : Nat} (hd : decode cc pc = .ok (.if_acmp .ne off, 3)) (ht : (pc : Int) + off = (tgt : Int)) (K1 : ¬ x = y → J k ws c n tgt lv st) (K2 : x = y → J k ws c n (pc + 3) lv st) : J k ws c n pc lv (va_rf y :: va_rf x :: st) := fun H locs ls hP hL => lv_acmp_ne F.hx F.hb hd ht (fun h => K1 h H locs ls hP hL) (fun h => K2 h H locs ls hP hL)
theorem j_aceq (F : Fx k cc own R nL) {x y : Option Nat} {off : Int} {tgt : Nat} (hd : decode cc pc = .ok (.if_acmp .eq off, 3)) (ht : (pc : Int) + off = (tgt : Int)) (K1 : x = y → J k ws c n tgt lv st) (K2 : ¬ x = y → J k ws c n (pc + 3) lv st) : J k ws c n pc lv (va_rf y :: va_rf x :: st) := fun H locs ls hP hL => lv_acmp_eq F.hx F.hb hd ht (fun h => K1 h H locs ls hP hL) (fun h => K2 h H locs ls hP hL)
theorem j_ldc (F : Fx k cc own R nL) {i : Nat} {v : Int32} (hu : Cond.constant own i v ∈ Uw) (hd : decode cc pc = .ok (.ldc i, 2)) (K : J k ws c n (pc + 2) lv (.int v :: st)) : J k ws c n pc lv st := fun H locs ls hP hL => lv_ldc F.hx F.hb F.hown (F.hts hu) hd (K H locs ls hP hL)
theorem j_ldc2 (F : Fx k cc own R nL) {i : Nat} {v : Int64} (hu : Cond.constantLong own i v ∈ Uw) (hd : decode cc pc = .ok (.ldc2_w i, 3)) (K : J k ws c n (pc + 3) lv (.long v :: st)) : J k ws c n pc lv st := fun H locs ls hP hL => lv_ldc2 F.hx F.hb F.hown (F.hts hu) hd (K H locs ls hP hL)
theorem j_tabout (F : Fx k cc own R nL) {dflt lo hi : Int} {offs : Array Int} {len : Nat} {x : Int32} {tgt : Nat} (hd : decode cc pc = .ok (.tableswitch dflt lo hi offs, len)) (h : x.toInt < lo ∨ hi < x.toInt) (ht : (pc : Int) + dflt = (tgt : Int)) (K : J k ws c n tgt lv st) : J k ws c n pc lv (.int x :: st) := fun H locs ls hP hL => lv_tableOut F.hx F.hb hd h ht (K H locs ls hP hL)
theorem j_tabin (F : Fx k cc own R nL) {dflt lo hi : Int} {offs : Array Int} {len : Nat} {x : Int32} {off : Int} {tgt : Nat} (hd : decode cc pc = .ok (.tableswitch dflt lo hi offs, len)) (h1 : ¬ x.toInt < lo) (h2 : ¬ hi < x.toInt) (ho : offs[(x.toInt - lo).toNat]? = some off) (ht : (pc : Int) + off = (tgt : Int)) (K : J k ws c n tgt lv st) : J k ws c n pc lv (.int x :: st) := fun H locs ls hP hL => lv_tableIn F.hx F.hb hd h1 h2 ho ht (K H locs ls hP hL)
/-- the same, written otherwise -/
theorem j_lv (lv' : List (Option Value)) (h : ∀ (i : Nat) (v : Value), lv'[i]? = some (some v) → lv[i]? = some (some v)) (K : J k ws c n pc lv' st) : J k ws c n pc lv st := fun H locs ls hP hL => K H locs ls hP ⟨hL.1, hL.2.1, fun q hq => by
  obtain ⟨j, v⟩ := q
  obtain ⟨m, e1, e2⟩ := (prs_iff lv' 0 j v).mp hq
  rw [Nat.zero_add] at e1
  subst e1
  exact hL.at (h _ _ e2)⟩
theorem j_ws (ws' : va_W) (h : ws = ws') (K : J k ws' c n pc lv st) : J k ws c n pc lv st := h ▸ K
theorem j_st (st' : List Value) (h : st = st') (K : J k ws c n pc lv st') : J k ws c n pc lv st := h ▸ K
theorem j_widen (c' n' : Nat) (h1 : c ≤ c') (h2 : n ≤ n') (K : J k ws c' n' pc lv st) : J k ws c n pc lv st := fun H locs ls hP hL => W.widen h1 h2 (K H locs ls hP hL)
end ROWS
