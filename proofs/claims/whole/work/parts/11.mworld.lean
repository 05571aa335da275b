/-! THE REFERENCE'S WORLD: one object (place 0), its arrays; s j i: place i of array field j; s 0 f: number field f -/
def u2 (s : Nat → Nat → Int32) (j i : Nat) (x : Int32) : Nat → Nat → Int32 := fun a => if a = j then upd (s a) i x else s a
abbrev ix (x : Int32) : Nat := x.toNatClampNeg
def MF (d : Nat → Nat) (s : Nat → Nat → Int32) : List Value := [.int (s 0 0), .int (s 0 1), .int (s 0 2), .int (s 0 3), .ref (d 4), .ref (d 5), .int (s 0 6), .ref (d 7), .ref (d 8), .ref (d 9), .ref (d 10), .ref (d 11), .ref (d 12), .ref (d 13), .int (s 0 14), .ref (d 15), .ref (d 16), .ref (d 17), .ref (d 18), .ref (d 19), .ref (d 20), .ref (d 21), .ref (d 22), .ref (d 23), .ref (d 24), .ref (d 25)]
def MA (D : va_G) (d : Nat → Nat) (s : Nat → Nat → Int32) (f n : Nat) : Nat × va_E := (d f, .inl (D.1 100, n, .inl (s f)))
def MW (D : va_G) (d : Nat → Nat) (s : Nat → Nat → Int32) : va_W := [(d 0, .inr (5, MF d s)), MA D d s 4 4, MA D d s 5 4, MA D d s 7 6, MA D d s 8 6, MA D d s 9 6, MA D d s 10 6, MA D d s 11 6, MA D d s 12 6, MA D d s 13 6, MA D d s 15 20, MA D d s 16 20, MA D d s 17 20, MA D d s 18 20, MA D d s 19 20, MA D d s 20 20, MA D d s 21 20, MA D d s 22 20, MA D d s 23 20, MA D d s 24 20, MA D d s 25 20]
def dP (v0 : Option Value) (w0 : va_W) : Option Value → va_W → Prop := fun v w => v = v0 ∧ w = w0
def lvle : List (Option Value) → List (Option Value) → Prop
  | none :: a, _ :: b => lvle a b
  | some v :: a, w :: b => w = some v ∧ lvle a b
  | [], _ => True
  | _ :: _, [] => False
theorem lvle_at : ∀ (a b : List (Option Value)), lvle a b → ∀ (i : Nat) (v : Value), a[i]? = some (some v) → b[i]? = some (some v)
  | [], _, _, i, v, h => by simp at h
  | _ :: _, [], h0, _, _, _ => by cases ‹Option Value› <;> exact absurd h0 (by simp [lvle])
  | none :: a, w :: b, h0, 0, v, h => by simp at h
  | none :: a, w :: b, h0, i + 1, v, h => by
    have h0' : lvle a b := h0
    simpa using lvle_at a b h0' i v (by simpa using h)
  | some u :: a, w :: b, h0, 0, v, h => by
    have e : u = v := by simpa using h
    rw [h0.1, e]; rfl
  | some u :: a, w :: b, h0, i + 1, v, h => by simpa using lvle_at a b h0.2 i v (by simpa using h)
section DROWS
variable {k : Kx} {cc : ByteArray} {own : String} {R : Room} {nL : Nat} {ws ws' wc wr : va_W} {c n pc : Nat} {lv lv' : List (Option Value)} {st stk : List Value}
theorem j_ialdN (F : Fx k cc own R nL) {a N i : Nat} {f : Nat → Int32} (hd : decode cc pc = .ok (.iaload, 1)) (q : Nat) (hq : ws[q]? = some (a, .inl ((kD k).1 100, N, .inl f))) (hin : i < N ∧ N < 2 ^ 31) (K : J k ws c n (pc + 1) lv (.int (f i) :: st)) : J k ws c n pc lv (.int (nI i) :: .ref a :: st) :=
  j_iald F hd q hq (vp_in_nI hin.1 hin.2) (by rw [nI_clamp (Nat.lt_trans hin.1 hin.2)]; exact K)
theorem j_iastN (F : Fx k cc own R nL) (hw : kw k = true) {a N i : Nat} {f : Nat → Int32} {x : Int32} (hd : decode cc pc = .ok (.iastore, 1)) (q : Nat) (hq : ws[q]? = some (a, .inl ((kD k).1 100, N, .inl f))) (hin : i < N ∧ N < 2 ^ 31) (ws' : va_W) (he : ws.set q (a, .inl ((kD k).1 100, N, .inl (upd f i x))) = ws') (K : J k ws' c n (pc + 1) lv st) : J k ws c n pc lv (.int x :: .int (nI i) :: .ref a :: st) :=
  j_iast F hw hd q hq (vp_in_nI hin.1 hin.2) ws' (by rw [nI_clamp (Nat.lt_trans hin.1 hin.2)]; exact he) K
theorem j_ifbeq (F : Fx k cc own R nL) {b : Bool} {off : Int} {tgt : Nat} (hd : decode cc pc = .ok (.ifCond .eq off, 3)) (ht : (pc : Int) + off = (tgt : Int)) (K1 : ¬ b = true → J k ws c n tgt lv st) (K2 : b = true → J k ws c n (pc + 3) lv st) : J k ws c n pc lv (.int (b1 b) :: st) := j_ifeq F hd ht (fun h => K1 (by rw [b1_0.mp h]; decide)) (fun h => K2 (b1_1.mp h))
theorem j_ifbne (F : Fx k cc own R nL) {b : Bool} {off : Int} {tgt : Nat} (hd : decode cc pc = .ok (.ifCond .ne off, 3)) (ht : (pc : Int) + off = (tgt : Int)) (K1 : b = true → J k ws c n tgt lv st) (K2 : ¬ b = true → J k ws c n (pc + 3) lv st) : J k ws c n pc lv (.int (b1 b) :: st) := j_ifne F hd ht (fun h => K1 (b1_1.mp h)) (fun h => K2 (by rw [b1_0.mp h]; decide))
/-- Nat counters against Nat bounds -/
theorem j_icgeN (F : Fx k cc own R nL) {x y : Nat} {off : Int} {tgt : Nat} (hd : decode cc pc = .ok (.if_icmp .ge off, 3)) (ht : (pc : Int) + off = (tgt : Int)) (hx : x < 2 ^ 31 ∧ y < 2 ^ 31) (K1 : y ≤ x → J k ws c n tgt lv st) (K2 : x < y → J k ws c n (pc + 3) lv st) : J k ws c n pc lv (.int (nI y) :: .int (nI x) :: st) := j_icge F hd ht (fun h => K1 ((nI_leI hx.2 hx.1).mp h)) (fun h => K2 (Nat.lt_of_not_le fun z => h (nI_le z hx.1)))
theorem j_iincN (F : Fx k cc own R nL) {i x : Nat} (lv' : List (Option Value)) (hd : decode cc pc = .ok (.iinc i 1, 3)) (hl : lv[i]? = some (some (.int (nI x)))) (ho : (Nat.blt i lv.length && okst lv i) = true) (hn : Nat.blt i nL = true) (he : lv.set i (some (.int (nI (x + 1)))) = lv') (K : J k ws c n (pc + 3) lv' st) : J k ws c n pc lv st := j_iinc F lv' hd hl (by rw [← nI_1]; rfl) ho hn he K
/-- a writer's call, its world the whole one, its end known -/
theorem j_dmV (F : Fx k cc own R nL) (hw : kw k = true) {C : String} {y : MethodName} {ccy : ByteArray} {maxL : Nat} {ret : Option FieldType} {fr lo mc ms idx b : Nat} {as : List Value} {v0 : Option Value} {w0 : va_W} (hM : CM (kl k) (kD k) y ccy maxL ret fr lo mc ms ws (.ref b :: as) (dP v0 w0)) (hk : LkV own idx C y ccy maxL ret as.length) (hd : decode cc pc = .ok (.invokevirtual idx, 3)) (hR : fr + 1 ≤ R.frames ∧ 8 + (maxL + 11) + lo ≤ R.locals)
    {T : u_T} {N ci : Nat} {fs : List Value} (q : Nat) (hq : ws[q]? = some (b, .inr (ci, fs))) (hc : vwCl[ci]? = some (C, T, N)) (hst : stk = as.reverse ++ .ref b :: st) (hW : (st.map fun v => v.category).sum ≤ 8) (hcn : c + mc ≤ R.cells ∧ n + ms ≤ R.slots) {st' : List Value} (hs : vlist v0 st = st') (K : J k w0 (c + mc) (n + ms) (pc + 3) lv st') : J k ws c n pc lv stk := by
  rw [← List.append_nil ws]
  refine j_cmV F hw hM hk hd hR q (by rw [List.append_nil]; exact hq) hc hst hW hcn (fun v w1 h => ?_)
  obtain ⟨rfl, rfl⟩ := h
  rw [List.append_nil, hs]
  exact K
theorem j_dmS (F : Fx k cc own R nL) (hw : kw k = true) {y : MethodName} {ccy : ByteArray} {maxL : Nat} {ret : Option FieldType} {fr lo mc ms idx : Nat} {as : List Value} {v0 : Option Value} {w0 : va_W} (hM : CM (kl k) (kD k) y ccy maxL ret fr lo mc ms ws as (dP v0 w0)) (hk : LkS own idx y ccy maxL ret as.length) (hd : decode cc pc = .ok (.invokestatic idx, 3)) (hR : fr + 1 ≤ R.frames ∧ 8 + (maxL + 11) + lo ≤ R.locals)
    (hst : stk = as.reverse ++ st) (hW : (st.map fun v => v.category).sum ≤ 8) (hcn : c + mc ≤ R.cells ∧ n + ms ≤ R.slots) {st' : List Value} (hs : vlist v0 st = st') (K : J k w0 (c + mc) (n + ms) (pc + 3) lv st') : J k ws c n pc lv stk := by
  rw [← List.append_nil ws]
  refine j_cmS F hw hM hk hd hR hst hW hcn (fun v w1 h => ?_)
  obtain ⟨rfl, rfl⟩ := h
  rw [List.append_nil, hs]
  exact K
theorem j_lvw (lv' : List (Option Value)) (h : lvle lv' lv) (K : J k ws c n pc lv' st) : J k ws c n pc lv st := j_lv lv' (lvle_at _ _ h) K
end DROWS
theorem va_rf_nar {nm : String} (x : Option Nat) : narrow (.object nm) (va_rf x) = va_rf x := by cases x <;> rfl
theorem va_rf_fit {nm : String} (x : Option Nat) : fits (.object nm) (va_rf x) = true := by cases x <;> rfl
theorem mu_4 (D : va_G) (d : Nat → Nat) (s : Nat → Nat → Int32) (i : Nat) (x : Int32) : (MW D d s).set 1 (d 4, .inl (D.1 100, 4, .inl (upd (s 4) i x))) = MW D d (u2 s 4 i x) := rfl
theorem mu_5 (D : va_G) (d : Nat → Nat) (s : Nat → Nat → Int32) (i : Nat) (x : Int32) : (MW D d s).set 2 (d 5, .inl (D.1 100, 4, .inl (upd (s 5) i x))) = MW D d (u2 s 5 i x) := rfl
theorem mu_7 (D : va_G) (d : Nat → Nat) (s : Nat → Nat → Int32) (i : Nat) (x : Int32) : (MW D d s).set 3 (d 7, .inl (D.1 100, 6, .inl (upd (s 7) i x))) = MW D d (u2 s 7 i x) := rfl
theorem mu_8 (D : va_G) (d : Nat → Nat) (s : Nat → Nat → Int32) (i : Nat) (x : Int32) : (MW D d s).set 4 (d 8, .inl (D.1 100, 6, .inl (upd (s 8) i x))) = MW D d (u2 s 8 i x) := rfl
theorem mu_9 (D : va_G) (d : Nat → Nat) (s : Nat → Nat → Int32) (i : Nat) (x : Int32) : (MW D d s).set 5 (d 9, .inl (D.1 100, 6, .inl (upd (s 9) i x))) = MW D d (u2 s 9 i x) := rfl
theorem mu_10 (D : va_G) (d : Nat → Nat) (s : Nat → Nat → Int32) (i : Nat) (x : Int32) : (MW D d s).set 6 (d 10, .inl (D.1 100, 6, .inl (upd (s 10) i x))) = MW D d (u2 s 10 i x) := rfl
theorem mu_11 (D : va_G) (d : Nat → Nat) (s : Nat → Nat → Int32) (i : Nat) (x : Int32) : (MW D d s).set 7 (d 11, .inl (D.1 100, 6, .inl (upd (s 11) i x))) = MW D d (u2 s 11 i x) := rfl
theorem mu_12 (D : va_G) (d : Nat → Nat) (s : Nat → Nat → Int32) (i : Nat) (x : Int32) : (MW D d s).set 8 (d 12, .inl (D.1 100, 6, .inl (upd (s 12) i x))) = MW D d (u2 s 12 i x) := rfl
theorem mu_13 (D : va_G) (d : Nat → Nat) (s : Nat → Nat → Int32) (i : Nat) (x : Int32) : (MW D d s).set 9 (d 13, .inl (D.1 100, 6, .inl (upd (s 13) i x))) = MW D d (u2 s 13 i x) := rfl
theorem mu_15 (D : va_G) (d : Nat → Nat) (s : Nat → Nat → Int32) (i : Nat) (x : Int32) : (MW D d s).set 10 (d 15, .inl (D.1 100, 20, .inl (upd (s 15) i x))) = MW D d (u2 s 15 i x) := rfl
theorem mu_16 (D : va_G) (d : Nat → Nat) (s : Nat → Nat → Int32) (i : Nat) (x : Int32) : (MW D d s).set 11 (d 16, .inl (D.1 100, 20, .inl (upd (s 16) i x))) = MW D d (u2 s 16 i x) := rfl
theorem mu_17 (D : va_G) (d : Nat → Nat) (s : Nat → Nat → Int32) (i : Nat) (x : Int32) : (MW D d s).set 12 (d 17, .inl (D.1 100, 20, .inl (upd (s 17) i x))) = MW D d (u2 s 17 i x) := rfl
theorem mu_18 (D : va_G) (d : Nat → Nat) (s : Nat → Nat → Int32) (i : Nat) (x : Int32) : (MW D d s).set 13 (d 18, .inl (D.1 100, 20, .inl (upd (s 18) i x))) = MW D d (u2 s 18 i x) := rfl
theorem mu_19 (D : va_G) (d : Nat → Nat) (s : Nat → Nat → Int32) (i : Nat) (x : Int32) : (MW D d s).set 14 (d 19, .inl (D.1 100, 20, .inl (upd (s 19) i x))) = MW D d (u2 s 19 i x) := rfl
theorem mu_20 (D : va_G) (d : Nat → Nat) (s : Nat → Nat → Int32) (i : Nat) (x : Int32) : (MW D d s).set 15 (d 20, .inl (D.1 100, 20, .inl (upd (s 20) i x))) = MW D d (u2 s 20 i x) := rfl
theorem mu_21 (D : va_G) (d : Nat → Nat) (s : Nat → Nat → Int32) (i : Nat) (x : Int32) : (MW D d s).set 16 (d 21, .inl (D.1 100, 20, .inl (upd (s 21) i x))) = MW D d (u2 s 21 i x) := rfl
theorem mu_22 (D : va_G) (d : Nat → Nat) (s : Nat → Nat → Int32) (i : Nat) (x : Int32) : (MW D d s).set 17 (d 22, .inl (D.1 100, 20, .inl (upd (s 22) i x))) = MW D d (u2 s 22 i x) := rfl
theorem mu_23 (D : va_G) (d : Nat → Nat) (s : Nat → Nat → Int32) (i : Nat) (x : Int32) : (MW D d s).set 18 (d 23, .inl (D.1 100, 20, .inl (upd (s 23) i x))) = MW D d (u2 s 23 i x) := rfl
theorem mu_24 (D : va_G) (d : Nat → Nat) (s : Nat → Nat → Int32) (i : Nat) (x : Int32) : (MW D d s).set 19 (d 24, .inl (D.1 100, 20, .inl (upd (s 24) i x))) = MW D d (u2 s 24 i x) := rfl
theorem mu_25 (D : va_G) (d : Nat → Nat) (s : Nat → Nat → Int32) (i : Nat) (x : Int32) : (MW D d s).set 20 (d 25, .inl (D.1 100, 20, .inl (upd (s 25) i x))) = MW D d (u2 s 25 i x) := rfl
theorem mp_0 (D : va_G) (d : Nat → Nat) (s : Nat → Nat → Int32) (x : Int32) : (MW D d s).set 0 (d 0, .inr (5, (MF d s).set 0 (.int x))) = MW D d (u2 s 0 0 x) := rfl
theorem mp_1 (D : va_G) (d : Nat → Nat) (s : Nat → Nat → Int32) (x : Int32) : (MW D d s).set 0 (d 0, .inr (5, (MF d s).set 1 (.int x))) = MW D d (u2 s 0 1 x) := rfl
theorem mp_2 (D : va_G) (d : Nat → Nat) (s : Nat → Nat → Int32) (x : Int32) : (MW D d s).set 0 (d 0, .inr (5, (MF d s).set 2 (.int x))) = MW D d (u2 s 0 2 x) := rfl
theorem mp_3 (D : va_G) (d : Nat → Nat) (s : Nat → Nat → Int32) (x : Int32) : (MW D d s).set 0 (d 0, .inr (5, (MF d s).set 3 (.int x))) = MW D d (u2 s 0 3 x) := rfl
theorem mp_6 (D : va_G) (d : Nat → Nat) (s : Nat → Nat → Int32) (x : Int32) : (MW D d s).set 0 (d 0, .inr (5, (MF d s).set 6 (.int x))) = MW D d (u2 s 0 6 x) := rfl
theorem mp_14 (D : va_G) (d : Nat → Nat) (s : Nat → Nat → Int32) (x : Int32) : (MW D d s).set 0 (d 0, .inr (5, (MF d s).set 14 (.int x))) = MW D d (u2 s 0 14 x) := rfl
theorem mgq_4 {D : va_G} {d : Nat → Nat} {s : Nat → Nat → Int32} {g : Nat → Int32} (h : s 4 = g) : (MW D d s)[1]? = some (d 4, .inl (D.1 100, 4, .inl g)) := h ▸ rfl
theorem mgq_5 {D : va_G} {d : Nat → Nat} {s : Nat → Nat → Int32} {g : Nat → Int32} (h : s 5 = g) : (MW D d s)[2]? = some (d 5, .inl (D.1 100, 4, .inl g)) := h ▸ rfl
theorem mgq_7 {D : va_G} {d : Nat → Nat} {s : Nat → Nat → Int32} {g : Nat → Int32} (h : s 7 = g) : (MW D d s)[3]? = some (d 7, .inl (D.1 100, 6, .inl g)) := h ▸ rfl
theorem mgq_8 {D : va_G} {d : Nat → Nat} {s : Nat → Nat → Int32} {g : Nat → Int32} (h : s 8 = g) : (MW D d s)[4]? = some (d 8, .inl (D.1 100, 6, .inl g)) := h ▸ rfl
theorem mgq_9 {D : va_G} {d : Nat → Nat} {s : Nat → Nat → Int32} {g : Nat → Int32} (h : s 9 = g) : (MW D d s)[5]? = some (d 9, .inl (D.1 100, 6, .inl g)) := h ▸ rfl
theorem mgq_10 {D : va_G} {d : Nat → Nat} {s : Nat → Nat → Int32} {g : Nat → Int32} (h : s 10 = g) : (MW D d s)[6]? = some (d 10, .inl (D.1 100, 6, .inl g)) := h ▸ rfl
theorem mgq_11 {D : va_G} {d : Nat → Nat} {s : Nat → Nat → Int32} {g : Nat → Int32} (h : s 11 = g) : (MW D d s)[7]? = some (d 11, .inl (D.1 100, 6, .inl g)) := h ▸ rfl
theorem mgq_12 {D : va_G} {d : Nat → Nat} {s : Nat → Nat → Int32} {g : Nat → Int32} (h : s 12 = g) : (MW D d s)[8]? = some (d 12, .inl (D.1 100, 6, .inl g)) := h ▸ rfl
theorem mgq_13 {D : va_G} {d : Nat → Nat} {s : Nat → Nat → Int32} {g : Nat → Int32} (h : s 13 = g) : (MW D d s)[9]? = some (d 13, .inl (D.1 100, 6, .inl g)) := h ▸ rfl
theorem mgq_15 {D : va_G} {d : Nat → Nat} {s : Nat → Nat → Int32} {g : Nat → Int32} (h : s 15 = g) : (MW D d s)[10]? = some (d 15, .inl (D.1 100, 20, .inl g)) := h ▸ rfl
theorem mgq_16 {D : va_G} {d : Nat → Nat} {s : Nat → Nat → Int32} {g : Nat → Int32} (h : s 16 = g) : (MW D d s)[11]? = some (d 16, .inl (D.1 100, 20, .inl g)) := h ▸ rfl
theorem mgq_17 {D : va_G} {d : Nat → Nat} {s : Nat → Nat → Int32} {g : Nat → Int32} (h : s 17 = g) : (MW D d s)[12]? = some (d 17, .inl (D.1 100, 20, .inl g)) := h ▸ rfl
theorem mgq_18 {D : va_G} {d : Nat → Nat} {s : Nat → Nat → Int32} {g : Nat → Int32} (h : s 18 = g) : (MW D d s)[13]? = some (d 18, .inl (D.1 100, 20, .inl g)) := h ▸ rfl
theorem mgq_19 {D : va_G} {d : Nat → Nat} {s : Nat → Nat → Int32} {g : Nat → Int32} (h : s 19 = g) : (MW D d s)[14]? = some (d 19, .inl (D.1 100, 20, .inl g)) := h ▸ rfl
theorem mgq_20 {D : va_G} {d : Nat → Nat} {s : Nat → Nat → Int32} {g : Nat → Int32} (h : s 20 = g) : (MW D d s)[15]? = some (d 20, .inl (D.1 100, 20, .inl g)) := h ▸ rfl
theorem mgq_21 {D : va_G} {d : Nat → Nat} {s : Nat → Nat → Int32} {g : Nat → Int32} (h : s 21 = g) : (MW D d s)[16]? = some (d 21, .inl (D.1 100, 20, .inl g)) := h ▸ rfl
theorem mgq_22 {D : va_G} {d : Nat → Nat} {s : Nat → Nat → Int32} {g : Nat → Int32} (h : s 22 = g) : (MW D d s)[17]? = some (d 22, .inl (D.1 100, 20, .inl g)) := h ▸ rfl
theorem mgq_23 {D : va_G} {d : Nat → Nat} {s : Nat → Nat → Int32} {g : Nat → Int32} (h : s 23 = g) : (MW D d s)[18]? = some (d 23, .inl (D.1 100, 20, .inl g)) := h ▸ rfl
theorem mgq_24 {D : va_G} {d : Nat → Nat} {s : Nat → Nat → Int32} {g : Nat → Int32} (h : s 24 = g) : (MW D d s)[19]? = some (d 24, .inl (D.1 100, 20, .inl g)) := h ▸ rfl
theorem mgq_25 {D : va_G} {d : Nat → Nat} {s : Nat → Nat → Int32} {g : Nat → Int32} (h : s 25 = g) : (MW D d s)[20]? = some (d 25, .inl (D.1 100, 20, .inl g)) := h ▸ rfl
theorem mfi_0 {d : Nat → Nat} {s : Nat → Nat → Int32} {x : Int32} (h : s 0 0 = x) : (MF d s)[0]? = some (.int x) := congrArg (fun z => some (Value.int z)) h
theorem mfi_1 {d : Nat → Nat} {s : Nat → Nat → Int32} {x : Int32} (h : s 0 1 = x) : (MF d s)[1]? = some (.int x) := congrArg (fun z => some (Value.int z)) h
theorem mfi_2 {d : Nat → Nat} {s : Nat → Nat → Int32} {x : Int32} (h : s 0 2 = x) : (MF d s)[2]? = some (.int x) := congrArg (fun z => some (Value.int z)) h
theorem mfi_3 {d : Nat → Nat} {s : Nat → Nat → Int32} {x : Int32} (h : s 0 3 = x) : (MF d s)[3]? = some (.int x) := congrArg (fun z => some (Value.int z)) h
theorem mfi_6 {d : Nat → Nat} {s : Nat → Nat → Int32} {x : Int32} (h : s 0 6 = x) : (MF d s)[6]? = some (.int x) := congrArg (fun z => some (Value.int z)) h
theorem mfi_14 {d : Nat → Nat} {s : Nat → Nat → Int32} {x : Int32} (h : s 0 14 = x) : (MF d s)[14]? = some (.int x) := congrArg (fun z => some (Value.int z)) h
theorem u2_at (s : Nat → Nat → Int32) (j i : Nat) (x : Int32) (a b : Nat) : u2 s j i x a b = if a = j ∧ b = i then x else s a b := by
  unfold u2 upd
  by_cases h : a = j
  · subst h
    by_cases h2 : b = i <;> simp [h2]
  · simp [h]
theorem u2_same (s : Nat → Nat → Int32) (j i : Nat) (x : Int32) : u2 s j i x j i = x := by rw [u2_at, if_pos ⟨rfl, rfl⟩]
theorem u2_ne {s : Nat → Nat → Int32} {j i : Nat} {x : Int32} {a b : Nat} (h : ¬ (a = j ∧ b = i)) : u2 s j i x a b = s a b := by rw [u2_at, if_neg h]
theorem u2_ne1 {s : Nat → Nat → Int32} {j i : Nat} {x : Int32} {a : Nat} (h : ¬ a = j) : u2 s j i x a = s a := by unfold u2; rw [if_neg h]
