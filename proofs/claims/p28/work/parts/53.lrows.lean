/-! THE LAW'S ROWS: the script (read alone), the array d, the calls of the class -/
section LR
variable {k : Kx} {cc : ByteArray} {own : String} {R : Room} {nL : Nat} {ws wc wr : va_W} {c n pc : Nat} {lv : List (Option Value)} {st stk : List Value} {b Ls : Nat} {xs : Nat → Int32}
theorem j_sld (F : Fx k cc own R nL) {i : Nat} (hX : va_X b Ls xs (ks k) (ks k).heap) (hbl : b < (ks k).heap.size) (hbA : ¬ kA k b) (hd : decode cc pc = .ok (.iaload, 1)) (hi : i < Ls) (hL : Ls < 2 ^ 31) (K : J k ws c n (pc + 1) lv (.int (xs i) :: st)) : J k ws c n pc lv (.int (nI i) :: .ref b :: st) := fun H locs ls hP hL2 =>
  va_sld F.hx F.hb hX hbl hbA hP.2.2.1 (vp_in_nI hi hL) hd (by rw [nI_clamp (Nat.lt_trans hi hL)]; exact K H locs ls hP hL2)
theorem j_slen (F : Fx k cc own R nL) (hX : va_X b Ls xs (ks k) (ks k).heap) (hbl : b < (ks k).heap.size) (hbA : ¬ kA k b) (hd : decode cc pc = .ok (.arraylength, 1)) (K : J k ws c n (pc + 1) lv (.int (nI Ls) :: st)) : J k ws c n pc lv (.ref b :: st) := fun H locs ls hP hL2 =>
  va_slen F.hx F.hb hX hbl hbA hP.2.2.1 hd (K H locs ls hP hL2)
def PX_ (D : va_G) (b Ls : Nat) (xs : Nat → Int32) (U : State) : Prop := va_X b Ls xs U U.heap ∧ b < U.heap.size ∧ KK D U
def CRX (l : Launch) (D : va_G) (y : MethodName) (cc : ByteArray) (maxL : Nat) (ret : Option FieldType) (fr lo : Nat) (b Ls : Nat) (xs : Nat → Int32) (as : List Value) (v : Value) : Prop :=
  Met l y (wU y cc maxL ret) (rm4 fr 0 0 lo) (va_Pc as (PX_ D b Ls xs)) (fun _ st oc t => oc = .returned (some v) ∧ t.heap = st.heap) 0 0 (fun _ => False)
theorem PX_.blind {D : va_G} {as : List Value} : FrameBlind (va_Pc as (PX_ D b Ls xs)) := fun a U g mk q => by
  obtain ⟨h0, h1, h2, h3⟩ := q
  exact ⟨h0, h1.moved (u := U) (U := U.calling g mk a) (Vm.Alike.refl U.vm), h2, h3.calling⟩
theorem CRX_of {l : Launch} {D : va_G} {y : MethodName} {cc : ByteArray} {maxL : Nat} {ret : Option FieldType} {fr lo : Nat} {as : List Value} {v : Value} (lv : List (Option Value)) (hst : l.stackTraces = false) (hy : plainName y.cls = true) (hlv : lv_args 0 as = prs 0 lv) (hlen : (lg_sl as).length ≤ maxL)
    (body : ∀ k : Kx, Fx k cc y.cls (rm4 fr 0 0 lo) maxL → kl k = l → kD k = D → RR k ret v → va_X b Ls xs (ks k) (ks k).heap → b < (ks k).heap.size → ¬ kA k b → J k [] 0 0 0 lv []) : CRX l D y cc maxL ret fr lo b Ls xs as v := by
  refine Met.ofW (cc := cc) (maxL := maxL) (ret := ret) hy rfl ?_
  intro p e s m args below meth c s₁ B hml hv
  obtain ⟨rfl, hX, hbl, hK⟩ := hv
  have hts := atoms_spec (ws := wU y cc maxL ret) B.pre
  obtain ⟨ls, e1, e2⟩ := entry_eqL (m := m) hlv hlen
  rw [e1]
  exact body (mkK p l e (rm4 fr 0 0 lo) s m as.toArray below meth c (MQ below (fun _ st oc t => oc = .returned (some v) ∧ t.heap = st.heap) as.toArray s 0 0 (fun _ => False)) D (fun _ => False) false maxL)
    ⟨B.exec, B.bytes, hml, rfl, rfl, findClass_of_methodNamed B.named, fun w h => hts w (List.mem_cons_of_mem _ h), hK, fun _ _ h => (by cases h), fun h => (by cases h), hst, B.notSynchronized⟩ rfl rfl ⟨rfl, B.returns, rfl⟩ hX hbl (fun z => z) s.heap [] ls ⟨fun i q hq => (by simp at hq), fun h => (by cases h), va_S.rf, fun _ => ⟨rfl, rfl⟩⟩ e2
theorem PX_.at (F : Fx k cc own R nL) {H : Heap} {locs : List Loc} (hX : va_X b Ls xs (ks k) (ks k).heap) (hbl : b < (ks k).heap.size) (hbA : ¬ kA k b) (hP : Wd k ws H locs) {as : List Value} : PreS (ks k) H (va_Pc as (PX_ (kD k) b Ls xs)) as :=
  ⟨PX_.blind, fun U hU hW => ⟨rfl, by rw [hU]; exact (hX.kept (hP.2.2.1.2.1 b hbl hbA)).moved hW.alike, by rw [hU]; exact Nat.lt_of_lt_of_le hbl hP.2.2.1.1, F.hK.warm hW⟩⟩
theorem j_rdX (F : Fx k cc own R nL) (hX : va_X b Ls xs (ks k) (ks k).heap) (hbl : b < (ks k).heap.size) (hbA : ¬ kA k b) {y : MethodName} {ccy : ByteArray} {maxL : Nat} {ret : Option FieldType} {fr lo idx : Nat} {as : List Value} {v : Value} (hM : CRX (kl k) (kD k) y ccy maxL ret fr lo b Ls xs as v) (hk : LkS own idx y ccy maxL ret as.length) (hd : decode cc pc = .ok (.invokestatic idx, 3)) (hR : fr + 1 ≤ R.frames ∧ 8 + (maxL + 11) + lo ≤ R.locals)
    (hst : stk = as.reverse ++ st) (hW : (st.map fun v => v.category).sum ≤ 8) (hcn : c ≤ R.cells ∧ n ≤ R.slots) (K : J k ws c n (pc + 3) lv (v :: st)) : J k ws c n pc lv stk := fun H locs ls hP hL =>
  run_rd (a := as.toArray) (va_runS (As := as) (rest := st) F.fix hM (lkS F hk hR) (PX_.at F hX hbl hbA hP) rfl rfl (hL.1.trans F.hn) hst (lv_room hW) hd (by rw [F.hR]; exact hcn)) (K H locs ls hP hL)
/-- a writer that reads the script besides -/
def PMX (D : va_G) (ws : va_W) (sz b Ls : Nat) (xs : Nat → Int32) (U : State) : Prop := PreM D ws sz U ∧ va_X b Ls xs U U.heap ∧ b < U.heap.size ∧ ¬ va_A ws sz b
def CMX (l : Launch) (D : va_G) (y : MethodName) (cc : ByteArray) (maxL : Nat) (ret : Option FieldType) (fr lo mc ms b Ls : Nat) (xs : Nat → Int32) (ws : va_W) (as : List Value) (P : Option Value → va_W → Prop) : Prop :=
  ∀ sz, Met l y (wU y cc maxL ret) (rm4 fr mc ms lo) (va_Pc as (PMX D ws sz b Ls xs)) (PostM D ws sz P) mc ms (va_A ws sz)
theorem PMX.blind {D : va_G} {sz : Nat} {as : List Value} : FrameBlind (va_Pc as (PMX D ws sz b Ls xs)) := fun a U g mk q => by
  obtain ⟨h0, h1, h2, h3, h4⟩ := q
  exact ⟨h0, (PreM.blind (as := as) a U g mk ⟨h0, h1⟩).2, h2.moved (u := U) (U := U.calling g mk a) (Vm.Alike.refl U.vm), h3, h4⟩
theorem CMX_of {l : Launch} {D : va_G} {y : MethodName} {cc : ByteArray} {maxL : Nat} {ret : Option FieldType} {fr lo mc ms : Nat} {as : List Value} {P : Option Value → va_W → Prop} (lv : List (Option Value)) (hst : l.stackTraces = false) (hy : plainName y.cls = true) (hlv : lv_args 0 as = prs 0 lv) (hlen : (lg_sl as).length ≤ maxL)
    (body : ∀ k : Kx, Fx k cc y.cls (rm4 fr mc ms lo) maxL → kl k = l → kD k = D → RW k ret mc ms P → va_X b Ls xs (ks k) (ks k).heap → b < (ks k).heap.size → ¬ kA k b → J k ws 0 0 0 lv []) : CMX l D y cc maxL ret fr lo mc ms b Ls xs ws as P := by
  intro sz
  refine Met.ofW (cc := cc) (maxL := maxL) (ret := ret) hy rfl ?_
  intro p e s m args below meth c s₁ B hml hv
  obtain ⟨rfl, ⟨rfl, hP, hK, hD, hZ⟩, hX, hbl, hbA⟩ := hv
  have hts := atoms_spec (ws := wU y cc maxL ret) B.pre
  obtain ⟨ls, e1, e2⟩ := entry_eqL (m := m) hlv hlen
  rw [e1]
  exact body (mkK p l e (rm4 fr mc ms lo) s m as.toArray below meth c (MQ below (PostM D ws s.heap.size P) as.toArray s mc ms (va_A ws s.heap.size)) D (va_A ws s.heap.size) true maxL)
    ⟨B.exec, B.bytes, hml, rfl, rfl, findClass_of_methodNamed B.named, fun w h => hts w (List.mem_cons_of_mem _ h), hK, fun _ h _ => Or.inr h, fun _ => hZ, hst, B.notSynchronized⟩ rfl rfl ⟨rfl, B.returns, fun _ _ _ _ _ w => w⟩ hX hbl hbA s.heap [] ls ⟨hP, fun _ => hD.self, va_S.rf, fun h => (by cases h)⟩ e2
theorem PMX.at (F : Fx k cc own R nL) {H : Heap} {locs : List Loc} (hw : kw k = true) (hX : va_X b Ls xs (ks k) (ks k).heap) (hbl : b < (ks k).heap.size) (hbA : ¬ kA k b) (hP : Wd k (wc ++ wr) H locs) {as : List Value} : PreS (ks k) H (va_Pc as (PMX (kD k) wc H.size b Ls xs)) as :=
  ⟨PMX.blind, fun U hU hW => by
    obtain ⟨e, hp⟩ := (PreM.at F hw hP (as := as)).2 U hU hW
    refine ⟨e, hp, by rw [hU]; exact (hX.kept (hP.2.2.1.2.1 b hbl hbA)).moved hW.alike, by rw [hU]; exact Nat.lt_of_lt_of_le hbl hP.2.2.1.1, ?_⟩
    rintro (⟨i, q, hi⟩ | hq)
    · exact hbA ((hP.2.1 hw).2 i (b, q) (by rw [List.getElem?_append_left (List.getElem?_eq_some_iff.mp hi).1]; exact hi))
    · exact absurd (Nat.lt_of_lt_of_le hbl hP.2.2.1.1) (Nat.not_lt.mpr hq)⟩
theorem j_cmX (F : Fx k cc own R nL) (hw : kw k = true) (hX : va_X b Ls xs (ks k) (ks k).heap) (hbl : b < (ks k).heap.size) (hbA : ¬ kA k b) {y : MethodName} {ccy : ByteArray} {maxL : Nat} {ret : Option FieldType} {fr lo mc ms idx : Nat} {as : List Value} {P : Option Value → va_W → Prop} (hM : CMX (kl k) (kD k) y ccy maxL ret fr lo mc ms b Ls xs wc as P) (hk : LkS own idx y ccy maxL ret as.length) (hd : decode cc pc = .ok (.invokestatic idx, 3)) (hR : fr + 1 ≤ R.frames ∧ 8 + (maxL + 11) + lo ≤ R.locals)
    (hst : stk = as.reverse ++ st) (hW : (st.map fun v => v.category).sum ≤ 8) (hcn : c + mc ≤ R.cells ∧ n + ms ≤ R.slots) (K : ∀ v w1, P v w1 → J k (w1 ++ wr) (c + mc) (n + ms) (pc + 3) lv (vlist v st)) : J k (wc ++ wr) c n pc lv stk := fun H locs ls hP hL =>
  run_cm F hw hP (a := as.toArray) (va_runS (As := as) (rest := st) F.fix (hM H.size) (lkS F hk hR) (PMX.at F hw hX hbl hbA hP) rfl rfl (hL.1.trans F.hn) hst (lv_room hW) hd (by rw [F.hR]; exact hcn)) (fun v w1 H1 locs1 hp h1 => K v w1 hp H1 locs1 ls h1 hL)
/-! numbers of the law -/
theorem j_imulN (F : Fx k cc own R nL) {a e : Nat} (hd : decode cc pc = .ok (.imul, 1)) (K : J k ws c n (pc + 1) lv (.int (nI (a * e)) :: st)) : J k ws c n pc lv (.int (nI e) :: .int (nI a) :: st) := j_imul F hd (by rw [nI_mul]; exact K)
theorem j_isubN (F : Fx k cc own R nL) {a e : Nat} (hd : decode cc pc = .ok (.isub, 1)) (h : e ≤ a) (K : J k ws c n (pc + 1) lv (.int (nI (a - e)) :: st)) : J k ws c n pc lv (.int (nI e) :: .int (nI a) :: st) := j_isub F hd (by rw [nI_sub h]; exact K)
theorem j_idivN (F : Fx k cc own R nL) {a e : Nat} (hd : decode cc pc = .ok (.idiv, 1)) (ha : a < 2 ^ 31) (he : 0 < e ∧ e < 2 ^ 31) (K : J k ws c n (pc + 1) lv (.int (nI (a / e)) :: st)) : J k ws c n pc lv (.int (nI e) :: .int (nI a) :: st) := j_idiv F hd (fun z => nI_ne0 he.1 he.2 z) (by rw [nI_div ha he.2 he.1]; exact K)
theorem nI_rem {a e : Nat} (ha : a < 2 ^ 31) (he : 0 < e ∧ e < 2 ^ 31) : nI a - nI a / nI e * nI e = nI (a % e) := by
  rw [nI_div ha he.2 he.1, nI_mul, nI_sub (Nat.div_mul_le_self _ _)]
  congr 1
  have := Nat.div_add_mod a e
  rw [Nat.mul_comm] at this
  omega
theorem j_iremN (F : Fx k cc own R nL) {a e : Nat} (hd : decode cc pc = .ok (.irem, 1)) (ha : a < 2 ^ 31) (he : 0 < e ∧ e < 2 ^ 31) (K : J k ws c n (pc + 1) lv (.int (nI (a % e)) :: st)) : J k ws c n pc lv (.int (nI e) :: .int (nI a) :: st) := j_irem F hd (fun z => nI_ne0 he.1 he.2 z) (by rw [nI_rem ha he]; exact K)
/-- the array d -/
theorem j_dld (F : Fx k cc own R nL) {dd i : Nat} {g : Nat → Int32} {z : Int32} (hd : decode cc pc = .ok (.iaload, 1)) (hi : i < 350) (hz : g i = z) (K : J k (ain (kD k) dd 350 g :: wr) c n (pc + 1) lv (.int z :: st)) : J k (ain (kD k) dd 350 g :: wr) c n pc lv (.int (nI i) :: .ref dd :: st) := j_ialdN F hd 0 rfl ⟨hi, by decide⟩ (by rw [hz]; exact K)
theorem j_dst (F : Fx k cc own R nL) (hw : kw k = true) {dd i : Nat} {g : Nat → Int32} {x : Int32} (hd : decode cc pc = .ok (.iastore, 1)) (hi : i < 350) (K : ∀ g', g' = upd g i x → J k (ain (kD k) dd 350 g' :: wr) c n (pc + 1) lv st) : J k (ain (kD k) dd 350 g :: wr) c n pc lv (.int x :: .int (nI i) :: .ref dd :: st) := j_iastN F hw hd 0 rfl ⟨hi, by decide⟩ _ rfl (K _ rfl)
/-- a call of the class -/
theorem j_lcx (F : Fx k cc own R nL) (hw : kw k = true) {G : CG} {v : S2} {r : R2} {x0 : Nat × va_E} {y : MethodName} {ccy : ByteArray} {maxL : Nat} {ret : Option FieldType} {fr lo mc ms idx : Nat} {as : List Value} {P : Option Value → va_W → Prop} {PX : String → Prop} (hM : CX (kl k) (kD k) y ccy maxL ret fr lo mc ms (CW (kD k) G v r) (.ref (G.1 0 0) :: as) P PX) (hk : LkV own idx RX3 y ccy maxL ret as.length) (hd : decode cc pc = .ok (.invokevirtual idx, 3)) (hR : fr + 1 ≤ R.frames ∧ 8 + (maxL + 11) + lo ≤ R.locals) (hst : stk = as.reverse ++ .ref (G.1 0 0) :: st) (hW : (st.map fun v => v.category).sum ≤ 8) (hcn : c + mc ≤ R.cells ∧ n + ms ≤ R.slots) (hno : ∀ E, ¬ PX E) (K : ∀ u w, P u w → J k (x0 :: w) (c + mc) (n + ms) (pc + 3) lv (vlist u st)) : J k (x0 :: CW (kD k) G v r) c n pc lv stk := by
  refine j_perm (CW (kD k) G v r ++ [x0]) (List.perm_append_comm (l₁ := [x0])) ?_
  exact j_cxV F hw hM hk hd hR 0 rfl rfl hst hW hcn (fun u w h => j_perm _ (List.perm_append_comm (l₂ := [x0])) (K u w h)) (fun E h => absurd h (hno E))
theorem j_lc (F : Fx k cc own R nL) (hw : kw k = true) {G : CG} {v v' : S2} {r r' : R2} {z : Int32} {x0 : Nat × va_E} {y : MethodName} {ccy : ByteArray} {maxL : Nat} {ret : Option FieldType} {fr lo mc ms idx : Nat} {as : List Value} {C : Nat × Int32 × S2 × R2} (hM : CX (kl k) (kD k) y ccy maxL ret fr lo mc ms (CW (kD k) G v r) (.ref (G.1 0 0) :: as) (fun u w => C.1 = 0 ∧ u = some (.int C.2.1) ∧ w = CW (kD k) G C.2.2.1 C.2.2.2) (fun E => C.1 ≠ 0 ∧ E = xE C.1)) (hk : LkV own idx RX3 y ccy maxL ret as.length) (hd : decode cc pc = .ok (.invokevirtual idx, 3)) (hR : fr + 1 ≤ R.frames ∧ 8 + (maxL + 11) + lo ≤ R.locals) (hst : stk = as.reverse ++ .ref (G.1 0 0) :: st) (hW : (st.map fun v => v.category).sum ≤ 8) (hcn : c + mc ≤ R.cells ∧ n + ms ≤ R.slots) (hE : C = (0, z, v', r')) (K : J k (x0 :: CW (kD k) G v' r') (c + mc) (n + ms) (pc + 3) lv (.int z :: st)) : J k (x0 :: CW (kD k) G v r) c n pc lv stk := by
  refine j_lcx F hw hM hk hd hR hst hW hcn (fun E h => h.1 (by rw [hE])) (fun u w h => ?_)
  obtain ⟨_, rfl, rfl⟩ := h
  rw [hE]
  exact K
theorem j_lcr (F : Fx k cc own R nL) {G : CG} {v : S2} {r : R2} {z : Value} {x0 : Nat × va_E} {y : MethodName} {ccy : ByteArray} {maxL : Nat} {ret : Option FieldType} {fr lo idx : Nat} {as : List Value} (hM : CR (kl k) (kD k) y ccy maxL ret fr lo (CW (kD k) G v r) (.ref (G.1 0 0) :: as) z) (hk : LkV own idx RX3 y ccy maxL ret as.length) (hd : decode cc pc = .ok (.invokevirtual idx, 3)) (hR : fr + 1 ≤ R.frames ∧ 8 + (maxL + 11) + lo ≤ R.locals) (hst : stk = as.reverse ++ .ref (G.1 0 0) :: st) (hW : (st.map fun v => v.category).sum ≤ 8) (hcn : c ≤ R.cells ∧ n ≤ R.slots) (K : J k (x0 :: CW (kD k) G v r) c n (pc + 3) lv (z :: st)) : J k (x0 :: CW (kD k) G v r) c n pc lv stk :=
  j_rdV F hM hk hd hR (fun q h => List.mem_cons_of_mem _ h) 1 rfl rfl hst hW hcn K
end LR
def bel (x y : Int32) : Int32 := (x &&& 2147483647) - (x &&& 2147483647) / y * y
theorem msk (x : Int32) : ∃ j : Nat, j < 2 ^ 31 ∧ x &&& 2147483647 = nI j := by
  refine nI_of (fun z => ?_)
  rw [Int32.lt_iff_toInt_lt, show (0 : Int32).toInt = 0 from by decide] at z
  have hm : (x &&& 2147483647).toBitVec.msb = false := by
    show (x.toBitVec &&& 2147483647#32).msb = false
    rw [BitVec.msb_and, show (2147483647#32).msb = false from by decide, Bool.and_false]
  have e : (x &&& 2147483647).toInt = ((x &&& 2147483647).toBitVec.toNat : Int) := BitVec.toInt_eq_toNat_of_msb hm
  omega
theorem bel_nI (x : Int32) {N : Nat} (hN : 0 < N ∧ N < 2 ^ 31) : ∃ j, j < N ∧ bel x (nI N) = nI j := by
  obtain ⟨j, hj, e⟩ := msk x
  unfold bel
  rw [e, nI_rem hj hN]
  exact ⟨_, Nat.mod_lt _ hN.1, rfl⟩
theorem qL_below (l : Launch) (hst : l.stackTraces = false) (D : va_G) (p0 p1 : Int32) (h : ¬ p1 = 0) : CR l D yL_below cL_below 2 (some .int) 0 0 [] [.int p0, .int p1] (.int (bel p0 p1)) := by
  refine CR_of [some (.int p0), some (.int p1)] hst (by decide +kernel) rfl (Nat.le_of_ble_eq_true rfl) (fun k F hl hD hR => ?_)
  subst hl hD
  refine j_iloadn F dL_below_0 rfl ?_
  refine j_ldc F uc_L_7 dL_below_1 ?_
  refine j_iand F dL_below_3 ?_
  refine j_iloadn F dL_below_4 rfl ?_
  refine j_irem F dL_below_5 h ?_
  exact j_iretR F hR dL_below_6 rfl
def celV (Ls : Nat) (xs : Nat → Int32) (i : Nat) : Int32 := if i < Ls then xs i else 790386105 * nI (i + 3)
theorem qL_cell (l : Launch) (hst : l.stackTraces = false) (D : va_G) (b Ls : Nat) (xs : Nat → Int32) (i : Nat) (hL : Ls ≤ 260) (hi : i ≤ 1000) : CRX l D yL_cell cL_cell 2 (some .int) 0 0 b Ls xs [.ref b, .int (nI i)] (.int (celV Ls xs i)) := by
  refine CRX_of [some (.ref b), some (.int (nI i))] hst (by decide +kernel) rfl (Nat.le_of_ble_eq_true rfl) (fun k F hl hD hR hX hbl hbA => ?_)
  subst hl hD
  refine j_iloadn F dL_cell_0 rfl ?_
  refine j_aloadn F dL_cell_1 rfl ?_
  refine j_slen F hX hbl hbA dL_cell_2 ?_
  refine j_icgeN F (x := i) (y := Ls) (tgt := 12) dL_cell_3 (by decide) ⟨by omega, by omega⟩ (fun h => ?_) (fun h => ?_)
  · refine j_ldc F uc_L_8 dL_cell_12 ?_
    refine j_iloadn F dL_cell_14 rfl ?_
    refine j_iconst F (v := 3) dL_cell_15 (by decide) ?_
    refine j_iaddN F (a := i) (b := 3) dL_cell_16 ?_
    refine j_imul F dL_cell_17 ?_
    exact j_iretR F hR dL_cell_18 (congrArg Value.int (if_neg (Nat.not_lt.mpr h)))
  · refine j_aloadn F dL_cell_6 rfl ?_
    refine j_iloadn F dL_cell_7 rfl ?_
    refine j_sld F hX hbl hbA dL_cell_8 h (by omega) ?_
    refine j_goto F (tgt := 18) dL_cell_9 (by decide) ?_
    exact j_iretR F hR dL_cell_18 (congrArg Value.int (if_pos h))
section LR2
variable {k : Kx} {cc : ByteArray} {R : Room} {nL : Nat} {ws : va_W} {c n pc : Nat} {lv : List (Option Value)} {st : List Value} {b Ls : Nat} {xs : Nat → Int32}
theorem j_bel (F : Fx k cc RL R nL) (hst : (kl k).stackTraces = false) {x : Int32} {N : Nat} (hN : 0 < N ∧ N < 2 ^ 31) (hd : decode cc pc = .ok (.invokestatic 15, 3)) (hR : 1 ≤ R.frames ∧ 21 ≤ R.locals) (hW : (st.map fun v => v.category).sum ≤ 8) (hcn : c ≤ R.cells ∧ n ≤ R.slots) (K : ∀ j, j < N → J k ws c n (pc + 3) lv (.int (nI j) :: st)) : J k ws c n pc lv (.int (nI N) :: .int x :: st) := by
  obtain ⟨j, hj, e⟩ := bel_nI x hN
  refine j_rdS F (qL_below (kl k) hst (kD k) x (nI N) (fun z => nI_ne0 hN.1 hN.2 z)) lk_L_15 hd hR (fun _ h => nomatch h) rfl hW hcn ?_
  rw [e]
  exact K j hj
theorem j_cel (F : Fx k cc RL R nL) (hst : (kl k).stackTraces = false) (hX : va_X b Ls xs (ks k) (ks k).heap) (hbl : b < (ks k).heap.size) (hbA : ¬ kA k b) (hL : Ls ≤ 260) {i : Nat} (hi : i ≤ 1000) (hd : decode cc pc = .ok (.invokestatic 9, 3)) (hR : 1 ≤ R.frames ∧ 21 ≤ R.locals) (hW : (st.map fun v => v.category).sum ≤ 8) (hcn : c ≤ R.cells ∧ n ≤ R.slots) (K : ∀ x, J k ws c n (pc + 3) lv (.int x :: st)) : J k ws c n pc lv (.int (nI i) :: .ref b :: st) :=
  j_rdX F hX hbl hbA (qL_cell (kl k) hst (kD k) b Ls xs i hL hi) lk_L_9 hd hR rfl hW hcn (K _)
end LR2
