/-! THE REFERENCE'S WORLD: one object (place 0), its arrays; s j i: place i of array field j; s 0 f: number field f -/
def u2 (s : Nat → Nat → Int32) (j i : Nat) (x : Int32) : Nat → Nat → Int32 := fun a => if a = j then upd (s a) i x else s a
abbrev ix (x : Int32) : Nat := x.toNatClampNeg
def dP (v0 : Option Value) (w0 : va_W) : Option Value → va_W → Prop := fun v w => v = v0 ∧ w = w0
def lvle : List (Option Value) → List (Option Value) → Prop
  | none :: a, _ :: b => lvle a b
  | some v :: a, w :: b => w = some v ∧ lvle a b
  | [], _ => True
  | _ :: _, [] => False
theorem lvle_at : ∀ (a b : List (Option Value)), lvle a b → ∀ (i : Nat) (v : Value), a[i]? = some (some v) → b[i]? = some (some v)
  | [], _, _, i, v, h => by simp at h
  | _ :: _, [], h0, _, _, _ => by cases ‹Option Value› <;> exact absurd h0 (by simp [lvle])
  | none :: a, w :: b, h0, 0, v, h => by simp at h
  | none :: a, w :: b, h0, i + 1, v, h => by
    have h0' : lvle a b := h0
    simpa using lvle_at a b h0' i v (by simpa using h)
  | some u :: a, w :: b, h0, 0, v, h => by
    have e : u = v := by simpa using h
    rw [h0.1, e]; rfl
  | some u :: a, w :: b, h0, i + 1, v, h => by simpa using lvle_at a b h0.2 i v (by simpa using h)
section DROWS
variable {k : Kx} {cc : ByteArray} {own : String} {R : Room} {nL : Nat} {ws ws' wc wr : va_W} {c n pc : Nat} {lv lv' : List (Option Value)} {st stk : List Value}
theorem j_ialdN (F : Fx k cc own R nL) {a N i : Nat} {f : Nat → Int32} (hd : decode cc pc = .ok (.iaload, 1)) (q : Nat) (hq : ws[q]? = some (a, .inl ((kD k).1 100, N, .inl f))) (hin : i < N ∧ N < 2 ^ 31) (K : J k ws c n (pc + 1) lv (.int (f i) :: st)) : J k ws c n pc lv (.int (nI i) :: .ref a :: st) :=
  j_iald F hd q hq (vp_in_nI hin.1 hin.2) (by rw [nI_clamp (Nat.lt_trans hin.1 hin.2)]; exact K)
theorem j_iastN (F : Fx k cc own R nL) (hw : kw k = true) {a N i : Nat} {f : Nat → Int32} {x : Int32} (hd : decode cc pc = .ok (.iastore, 1)) (q : Nat) (hq : ws[q]? = some (a, .inl ((kD k).1 100, N, .inl f))) (hin : i < N ∧ N < 2 ^ 31) (ws' : va_W) (he : ws.set q (a, .inl ((kD k).1 100, N, .inl (upd f i x))) = ws') (K : J k ws' c n (pc + 1) lv st) : J k ws c n pc lv (.int x :: .int (nI i) :: .ref a :: st) :=
  j_iast F hw hd q hq (vp_in_nI hin.1 hin.2) ws' (by rw [nI_clamp (Nat.lt_trans hin.1 hin.2)]; exact he) K
theorem j_ifbeq (F : Fx k cc own R nL) {b : Bool} {off : Int} {tgt : Nat} (hd : decode cc pc = .ok (.ifCond .eq off, 3)) (ht : (pc : Int) + off = (tgt : Int)) (K1 : ¬ b = true → J k ws c n tgt lv st) (K2 : b = true → J k ws c n (pc + 3) lv st) : J k ws c n pc lv (.int (b1 b) :: st) := j_ifeq F hd ht (fun h => K1 (by rw [b1_0.mp h]; decide)) (fun h => K2 (b1_1.mp h))
theorem j_ifbne (F : Fx k cc own R nL) {b : Bool} {off : Int} {tgt : Nat} (hd : decode cc pc = .ok (.ifCond .ne off, 3)) (ht : (pc : Int) + off = (tgt : Int)) (K1 : b = true → J k ws c n tgt lv st) (K2 : ¬ b = true → J k ws c n (pc + 3) lv st) : J k ws c n pc lv (.int (b1 b) :: st) := j_ifne F hd ht (fun h => K1 (b1_1.mp h)) (fun h => K2 (by rw [b1_0.mp h]; decide))
/-- Nat counters against Nat bounds -/
theorem j_icgeN (F : Fx k cc own R nL) {x y : Nat} {off : Int} {tgt : Nat} (hd : decode cc pc = .ok (.if_icmp .ge off, 3)) (ht : (pc : Int) + off = (tgt : Int)) (hx : x < 2 ^ 31 ∧ y < 2 ^ 31) (K1 : y ≤ x → J k ws c n tgt lv st) (K2 : x < y → J k ws c n (pc + 3) lv st) : J k ws c n pc lv (.int (nI y) :: .int (nI x) :: st) := j_icge F hd ht (fun h => K1 ((nI_leI hx.2 hx.1).mp h)) (fun h => K2 (Nat.lt_of_not_le fun z => h (nI_le z hx.1)))
theorem j_iincN (F : Fx k cc own R nL) {i x : Nat} (lv' : List (Option Value)) (hd : decode cc pc = .ok (.iinc i 1, 3)) (hl : lv[i]? = some (some (.int (nI x)))) (ho : (Nat.blt i lv.length && okst lv i) = true) (hn : Nat.blt i nL = true) (he : lv.set i (some (.int (nI (x + 1)))) = lv') (K : J k ws c n (pc + 3) lv' st) : J k ws c n pc lv st := j_iinc F lv' hd hl (by rw [← nI_1]; rfl) ho hn he K
/-- a writer's call, its world the whole one, its end known -/
theorem j_dmV (F : Fx k cc own R nL) (hw : kw k = true) {C : String} {y : MethodName} {ccy : ByteArray} {maxL : Nat} {ret : Option FieldType} {fr lo mc ms idx b : Nat} {as : List Value} {v0 : Option Value} {w0 : va_W} (hM : CM (kl k) (kD k) y ccy maxL ret fr lo mc ms ws (.ref b :: as) (dP v0 w0)) (hk : LkV own idx C y ccy maxL ret as.length) (hd : decode cc pc = .ok (.invokevirtual idx, 3)) (hR : fr + 1 ≤ R.frames ∧ 8 + (maxL + 11) + lo ≤ R.locals)
    {T : u_T} {N ci : Nat} {fs : List Value} (q : Nat) (hq : ws[q]? = some (b, .inr (ci, fs))) (hc : vwCl[ci]? = some (C, T, N)) (hst : stk = as.reverse ++ .ref b :: st) (hW : (st.map fun v => v.category).sum ≤ 8) (hcn : c + mc ≤ R.cells ∧ n + ms ≤ R.slots) {st' : List Value} (hs : vlist v0 st = st') (K : J k w0 (c + mc) (n + ms) (pc + 3) lv st') : J k ws c n pc lv stk := by
  rw [← List.append_nil ws]
  refine j_cmV F hw hM hk hd hR q (by rw [List.append_nil]; exact hq) hc hst hW hcn (fun v w1 h => ?_)
  obtain ⟨rfl, rfl⟩ := h
  rw [List.append_nil, hs]
  exact K
theorem j_dmS (F : Fx k cc own R nL) (hw : kw k = true) {y : MethodName} {ccy : ByteArray} {maxL : Nat} {ret : Option FieldType} {fr lo mc ms idx : Nat} {as : List Value} {v0 : Option Value} {w0 : va_W} (hM : CM (kl k) (kD k) y ccy maxL ret fr lo mc ms ws as (dP v0 w0)) (hk : LkS own idx y ccy maxL ret as.length) (hd : decode cc pc = .ok (.invokestatic idx, 3)) (hR : fr + 1 ≤ R.frames ∧ 8 + (maxL + 11) + lo ≤ R.locals)
    (hst : stk = as.reverse ++ st) (hW : (st.map fun v => v.category).sum ≤ 8) (hcn : c + mc ≤ R.cells ∧ n + ms ≤ R.slots) {st' : List Value} (hs : vlist v0 st = st') (K : J k w0 (c + mc) (n + ms) (pc + 3) lv st') : J k ws c n pc lv stk := by
  rw [← List.append_nil ws]
  refine j_cmS F hw hM hk hd hR hst hW hcn (fun v w1 h => ?_)
  obtain ⟨rfl, rfl⟩ := h
  rw [List.append_nil, hs]
  exact K
theorem j_lvw (lv' : List (Option Value)) (h : lvle lv' lv) (K : J k ws c n pc lv' st) : J k ws c n pc lv st := j_lv lv' (lvle_at _ _ h) K
end DROWS
theorem va_rf_nar {nm : String} (x : Option Nat) : narrow (.object nm) (va_rf x) = va_rf x := by cases x <;> rfl
theorem va_rf_fit {nm : String} (x : Option Nat) : fits (.object nm) (va_rf x) = true := by cases x <;> rfl
theorem u2_at (s : Nat → Nat → Int32) (j i : Nat) (x : Int32) (a b : Nat) : u2 s j i x a b = if a = j ∧ b = i then x else s a b := by
  unfold u2 upd
  by_cases h : a = j
  · subst h
    by_cases h2 : b = i <;> simp [h2]
  · simp [h]
theorem u2_same (s : Nat → Nat → Int32) (j i : Nat) (x : Int32) : u2 s j i x j i = x := by rw [u2_at, if_pos ⟨rfl, rfl⟩]
theorem u2_ne {s : Nat → Nat → Int32} {j i : Nat} {x : Int32} {a b : Nat} (h : ¬ (a = j ∧ b = i)) : u2 s j i x a b = s a b := by rw [u2_at, if_neg h]
theorem u2_ne1 {s : Nat → Nat → Int32} {j i : Nat} {x : Int32} {a : Nat} (h : ¬ a = j) : u2 s j i x a = s a := by unfold u2; rw [if_neg h]

abbrev S2 : Type := Nat → Nat → Int32
theorem vp_lt {x : Int32} {n : Nat} (h : vp_in x n) : ix x < n := Nat.not_le.mp fun q => h (Or.inr q)
theorem tab_out7 {x : Int32} (h0 : ¬ x = 0) (h1 : ¬ x = 1) (h2 : ¬ x = 2) (h3 : ¬ x = 3) (h4 : ¬ x = 4) (h5 : ¬ x = 5) (h6 : ¬ x = 6) : x.toInt < 0 ∨ 6 < x.toInt := by
  simp only [← Int32.toInt_inj] at h0 h1 h2 h3 h4 h5 h6
  simp at h0 h1 h2 h3 h4 h5 h6
  omega
theorem tab_out3 {x : Int32} (h0 : ¬ x = 0) (h1 : ¬ x = 1) (h2 : ¬ x = 2) : x.toInt < 0 ∨ 2 < x.toInt := by
  simp only [← Int32.toInt_inj] at h0 h1 h2
  simp at h0 h1 h2
  omega
theorem ix_nI {n : Nat} (h : n < 2 ^ 31) : ix (nI n) = n := nI_clamp h
theorem nI_ne_m1 {n : Nat} (h : n < 2 ^ 31) : ¬ nI n = -1 := fun e => by
  have := congrArg Int32.toInt e
  rw [nI_toInt h] at this
  have e1 : (-1 : Int32).toInt = -1 := by decide
  rw [e1] at this
  omega
theorem minPrio {x y : Int32} (h1 : vp_in x 4) (h2 : vp_in y 4) : vp_in (if x < y then x else y) 4 := by
  split
  · exact h1
  · exact h2
theorem j_iaddN {k : Kx} {cc : ByteArray} {own : String} {R : Room} {nL : Nat} {ws : va_W} {c n pc : Nat} {lv : List (Option Value)} {st : List Value} (F : Fx k cc own R nL) {a b : Nat} (hd : decode cc pc = .ok (.iadd, 1)) (K : J k ws c n (pc + 1) lv (.int (nI (a + b)) :: st)) : J k ws c n pc lv (.int (nI b) :: .int (nI a) :: st) := j_iadd F hd (by rw [nI_add]; exact K)
section XROWS
variable {k : Kx} {cc : ByteArray} {own : String} {R : Room} {nL : Nat} {ws : va_W} {c n pc : Nat} {lv : List (Option Value)} {st : List Value}
theorem j_icgeE (F : Fx k cc own R nL) {x : Nat} {z : Int32} {y : Nat} (hz : z = nI y) {off : Int} {tgt : Nat} (hd : decode cc pc = .ok (.if_icmp .ge off, 3)) (ht : (pc : Int) + off = (tgt : Int)) (hx : x < 2 ^ 31 ∧ y < 2 ^ 31) (K1 : y ≤ x → J k ws c n tgt lv st) (K2 : x < y → J k ws c n (pc + 3) lv st) : J k ws c n pc lv (.int z :: .int (nI x) :: st) := by
  subst hz
  exact j_icgeN F hd ht hx K1 K2
end XROWS
