/-! ARRAYLIST'S READS -/
section LREADS
variable {k : Kx} {cc : ByteArray} {own : String} {R : Room} {nL : Nat} {ws : va_W} {c n pc : Nat} {lv : List (Option Value)} {st : List Value}
theorem j_cast (F : Fx k cc own R nL) {idx ci N a : Nat} {nm : String} {T : u_T} {fs : List Value} (hu : Cond.classLink own idx nm ∈ Uw) (hd : decode cc pc = .ok (.checkcast idx, 3)) (q : Nat) (hq : ws[q]? = some (a, .inr (ci, fs))) (hc : vwCl[ci]? = some (nm, T, N)) (K : J k ws c n (pc + 3) lv (.ref a :: st)) : J k ws c n pc lv (.ref a :: st) := fun H locs ls hP hL =>
  va_castS F.hx F.hb F.hown (F.hts hu) (F.hK.1.1 ci _ hc).2 (hP.recv F hq hc) hd (K H locs ls hP hL)
theorem j_aretRa (F : Fx k cc own R nL) {v : Value} {nm : String} {a : Nat} (hR : RR k (some (.object nm)) v) (hd : decode cc pc = .ok (.areturn, 1)) (hv : v = .ref a) : J k ws 0 0 pc lv [.ref a] := j_aretR (x := some a) F hR hd hv
end LREADS
abbrev lsC (L E : Nat) (m : Int32) (n : Nat) : Nat × va_E := (L, .inr (0, [.int m, .ref E, .int (nI n)]))
abbrev elC (D : va_G) (E cap : Nat) (f : Nat → Option Nat) : Nat × va_E := (E, .inl (D.1 101, cap, .inr (.inr (.inr (.inr f)))))
theorem qJ_size (l : Launch) (hst : l.stackTraces = false) (D : va_G) (L E : Nat) (m : Int32) (n : Nat) : CR l D yJx4a65c_size_8abf5 cJx4a65c_size_8abf5 1 (some .int) 0 0 [lsC L E m n] [.ref L] (.int (nI n)) := by
  refine CR_of [some (.ref L)] hst (by decide +kernel) rfl (Nat.le_of_ble_eq_true rfl) (fun k F hl hD hR => ?_)
  subst hl hD
  refine j_aloadn F dJx4a65c_size_8abf5_0 rfl ?_
  refine gf_Jx4a65c_48 F (v := .int (nI n)) dJx4a65c_size_8abf5_1 0 rfl rfl ?_
  exact j_iretR F hR dJx4a65c_size_8abf5_4 rfl
theorem qJ_chk3 (l : Launch) (hst : l.stackTraces = false) (D : va_G) (i n : Int32) (h0 : ¬ i < 0) (h1 : i < n) : CR l D yJ3_checkIndex_8e157 cJ3_checkIndex_8e157 3 (some .int) 0 0 [] [.int i, .int n, .null] (.int i) := by
  refine CR_of [some (.int i), some (.int n), some .null] hst (by decide +kernel) rfl (Nat.le_of_ble_eq_true rfl) (fun k F hl hD hR => ?_)
  subst hl hD
  refine j_iloadn F dJ3_checkIndex_8e157_0 rfl ?_
  refine j_iflt F (tgt := 9) dJ3_checkIndex_8e157_1 (by decide) (fun h => absurd h h0) (fun _ => ?_)
  refine j_iloadn F dJ3_checkIndex_8e157_4 rfl ?_
  refine j_iloadn F dJ3_checkIndex_8e157_5 rfl ?_
  refine j_iclt F (tgt := 16) dJ3_checkIndex_8e157_6 (by decide) (fun _ => ?_) (fun h => absurd h1 h)
  refine j_iloadn F dJ3_checkIndex_8e157_16 rfl ?_
  exact j_iretR F hR dJ3_checkIndex_8e157_17 rfl
theorem qJ_chk2 (l : Launch) (hst : l.stackTraces = false) (D : va_G) (i n : Int32) (h0 : ¬ i < 0) (h1 : i < n) : CR l D yJ15_checkIndex_7cf53 cJ15_checkIndex_7cf53 2 (some .int) 1 22 [] [.int i, .int n] (.int i) := by
  refine CR_of [some (.int i), some (.int n)] hst (by decide +kernel) rfl (Nat.le_of_ble_eq_true rfl) (fun k F hl hD hR => ?_)
  subst hl hD
  refine j_iloadn F dJ15_checkIndex_7cf53_0 rfl ?_
  refine j_iloadn F dJ15_checkIndex_7cf53_1 rfl ?_
  refine j_null F dJ15_checkIndex_7cf53_2 ?_
  refine j_rdS F (qJ_chk3 (kl k) hst (kD k) i n h0 h1) lk_J15_105 dJ15_checkIndex_7cf53_3 ⟨(Nat.le_of_ble_eq_true rfl), (Nat.le_of_ble_eq_true rfl)⟩ (fun _ h => nomatch h) rfl (Nat.le_of_ble_eq_true rfl) ⟨(Nat.le_of_ble_eq_true rfl), (Nat.le_of_ble_eq_true rfl)⟩ ?_
  exact j_iretR F hR dJ15_checkIndex_7cf53_6 rfl
theorem qJ_elem (l : Launch) (hst : l.stackTraces = false) (D : va_G) (L E : Nat) (m : Int32) (n cap : Nat) (f : Nat → Option Nat) (i : Int32) (hi : vp_in i cap) : CR l D yJx4a65c_elementData_915e3 cJx4a65c_elementData_915e3 2 (some (.object "java/lang/Object")) 0 0 [lsC L E m n, elC D E cap f] [.ref L, .int i] (va_rf (f (ix i))) := by
  refine CR_of [some (.ref L), some (.int i)] hst (by decide +kernel) rfl (Nat.le_of_ble_eq_true rfl) (fun k F hl hD hR => ?_)
  subst hl hD
  refine j_aloadn F dJx4a65c_elementData_915e3_0 rfl ?_
  refine gf_Jx4a65c_9 F (v := .ref E) dJx4a65c_elementData_915e3_1 0 rfl rfl ?_
  refine j_iloadn F dJx4a65c_elementData_915e3_4 rfl ?_
  refine j_aald F dJx4a65c_elementData_915e3_5 1 rfl hi ?_
  exact j_aretR F hR dJx4a65c_elementData_915e3_6 rfl
theorem qJ_get (l : Launch) (hst : l.stackTraces = false) (D : va_G) (L E : Nat) (m : Int32) (n cap : Nat) (f : Nat → Option Nat) (i : Int32) (a : Nat) (hn : vp_in i n) (hc : n ≤ cap) (hn31 : n < 2 ^ 31) (hf : f (ix i) = some a) : CR l D yJx4a65c_get_915e3 cJx4a65c_get_915e3 2 (some (.object "java/lang/Object")) 2 43 [lsC L E m n, elC D E cap f] [.ref L, .int i] (.ref a) := by
  refine CR_of [some (.ref L), some (.int i)] hst (by decide +kernel) rfl (Nat.le_of_ble_eq_true rfl) (fun k F hl hD hR => ?_)
  subst hl hD
  have hlt : i < nI n := by
    rw [Int32.lt_iff_toInt_lt, nI_toInt hn31]; exact (vp_in_iff.mp hn).2
  have hcap : vp_in i cap := by
    rw [vp_in_iff] at hn ⊢
    omega
  refine j_iloadn F dJx4a65c_get_915e3_0 rfl ?_
  refine j_aloadn F dJx4a65c_get_915e3_1 rfl ?_
  refine gf_Jx4a65c_48 F (v := .int (nI n)) dJx4a65c_get_915e3_2 0 rfl rfl ?_
  refine j_rdS F (qJ_chk2 (kl k) hst (kD k) i (nI n) (fun h => hn (Or.inl h)) hlt) lk_Jx4a65c_118 dJx4a65c_get_915e3_5 ⟨(Nat.le_of_ble_eq_true rfl), (Nat.le_of_ble_eq_true rfl)⟩ (fun _ h => nomatch h) rfl (Nat.le_of_ble_eq_true rfl) ⟨(Nat.le_of_ble_eq_true rfl), (Nat.le_of_ble_eq_true rfl)⟩ ?_
  refine j_pop F dJx4a65c_get_915e3_8 rfl ?_
  refine j_aloadn F dJx4a65c_get_915e3_9 rfl ?_
  refine j_iloadn F dJx4a65c_get_915e3_10 rfl ?_
  refine j_rdV F (qJ_elem (kl k) hst (kD k) L E m n cap f i hcap) lk_Jx4a65c_123 dJx4a65c_get_915e3_11 ⟨(Nat.le_of_ble_eq_true rfl), (Nat.le_of_ble_eq_true rfl)⟩ (fun _ h => h) 0 rfl rfl rfl (Nat.le_of_ble_eq_true rfl) ⟨(Nat.le_of_ble_eq_true rfl), (Nat.le_of_ble_eq_true rfl)⟩ ?_
  rw [hf]
  exact j_aretRa F hR dJx4a65c_get_915e3_14 rfl
/-! THE CLASS'S WORLD: G says where things lie and what the lists are; v j i: number field j of the thing i, r j i: reference field j, by the other's number -/
abbrev LSt : Type := Nat × Int32 × Nat × (Nat → Option Nat)
abbrev CG : Type := (Nat → Nat → Nat) × Nat × Nat × LSt × LSt
abbrev R2 : Type := Nat → Nat → Option Nat
abbrev aA (G : CG) (i : Nat) : Nat := G.1 1 i
abbrev aT (G : CG) (i : Nat) : Nat := G.1 2 i
abbrev nA (G : CG) : Nat := G.2.1
abbrev nT (G : CG) : Nat := G.2.2.1
abbrev lA (G : CG) : LSt := G.2.2.2.1
abbrev lT (G : CG) : LSt := G.2.2.2.2
def u3 (r : R2) (j i : Nat) (x : Option Nat) : R2 := fun a => if a = j then va_up (r a) i x else r a
def DF (G : CG) (v : S2) : List Value := [.ref (G.1 0 1), .ref (G.1 0 2), .ref (G.1 0 3), .ref (G.1 0 4), .ref (G.1 0 5), .int (v 0 0)]
def HF (v : S2) : List Value := [.int (v 0 1), .int (v 0 2)]
def AF (G : CG) (v : S2) (r : R2) (i : Nat) : List Value := [.int (v 10 i), .int (v 11 i), .int (v 12 i), .int (v 13 i), .int (v 14 i), va_rf ((r 15 i).map (aT G)), .int (v 16 i), .int (v 17 i)]
def TF (G : CG) (v : S2) (r : R2) (i : Nat) : List Value := [.int (v 20 i), .int (v 21 i), .int (v 22 i), .int (v 23 i), .int (v 24 i), .int (v 25 i), .int (v 26 i), .int (v 27 i), .int (v 28 i), .int (v 29 i), .int (v 30 i), .int (v 31 i), va_rf ((r 32 i).map (aA G)), va_rf ((r 33 i).map (aA G)), va_rf ((r 34 i).map (aT G))]
def LW (D : va_G) (L : Nat) (ls : LSt) (n : Nat) : va_W := lsC L ls.1 ls.2.1 n :: (if ls.2.2.1 = 0 then [] else [elC D ls.1 ls.2.2.1 ls.2.2.2])
def fixC (D : va_G) (G : CG) (v : S2) : va_W := [(G.1 0 0, .inr (4, DF G v)), (G.1 0 1, .inr (2, HF v)), (G.1 0 2, .inl (D.1 100, 4, .inl (v 1))), (G.1 0 3, .inl (D.1 100, 4, .inl (v 2)))]
def ags (G : CG) (v : S2) (r : R2) (n : Nat) : va_W := (List.range n).map (fun i => (aA G i, .inr (1, AF G v r i)))
def tks (G : CG) (v : S2) (r : R2) (n : Nat) : va_W := (List.range n).map (fun i => (aT G i, .inr (3, TF G v r i)))
def CW (D : va_G) (G : CG) (v : S2) (r : R2) : va_W := fixC D G v ++ (ags G v r (nA G) ++ (tks G v r (nT G) ++ (LW D (G.1 0 4) (lA G) (nA G) ++ LW D (G.1 0 5) (lT G) (nT G))))
theorem rng_get {α : Type} {f : Nat → α} {n i : Nat} (h : i < n) : ((List.range n).map f)[i]? = some (f i) := by
  rw [List.getElem?_map, List.getElem?_range h]; rfl
theorem rng_set {α : Type} {f f' : Nat → α} {n i : Nat} {x : α} (hx : x = f' i) (h : ∀ j, j ≠ i → f' j = f j) : ((List.range n).map f).set i x = (List.range n).map f' := by
  subst hx
  refine List.ext_getElem? fun j => ?_
  rw [List.getElem?_set, List.getElem?_map, List.getElem?_map]
  by_cases hj : i = j
  · subst hj
    simp only [if_true, List.length_map, List.length_range]
    by_cases hl : i < n
    · rw [if_pos hl, List.getElem?_range hl]; rfl
    · rw [if_neg hl, List.getElem?_eq_none (by rw [List.length_range]; omega)]; rfl
  · rw [if_neg hj]
    by_cases hl : j < n
    · rw [List.getElem?_range hl]
      show some (f j) = some (f' j)
      rw [h j (fun z => hj z.symm)]
    · rw [List.getElem?_eq_none (by rw [List.length_range]; omega)]; rfl
theorem ags_len (G : CG) (v : S2) (r : R2) (n : Nat) : (ags G v r n).length = n := by simp [ags]
theorem tks_len (G : CG) (v : S2) (r : R2) (n : Nat) : (tks G v r n).length = n := by simp [tks]
theorem cg_A {D : va_G} {G : CG} {v : S2} {r : R2} {i : Nat} (h : i < nA G) : (CW D G v r)[4 + i]? = some (aA G i, .inr (1, AF G v r i)) := by
  unfold CW
  rw [List.getElem?_append_right (by show 4 ≤ _; omega), show 4 + i - (fixC D G v).length = i by show 4 + i - 4 = i; omega, List.getElem?_append_left (by rw [ags_len]; exact h)]
  exact rng_get h
theorem cg_T {D : va_G} {G : CG} {v : S2} {r : R2} {i : Nat} (h : i < nT G) : (CW D G v r)[4 + nA G + i]? = some (aT G i, .inr (3, TF G v r i)) := by
  unfold CW
  rw [List.getElem?_append_right (by show 4 ≤ _; omega), show 4 + nA G + i - (fixC D G v).length = nA G + i by show 4 + nA G + i - 4 = _; omega, List.getElem?_append_right (by rw [ags_len]; omega), ags_len, Nat.add_sub_cancel_left, List.getElem?_append_left (by rw [tks_len]; exact h)]
  exact rng_get h
theorem cg_LA {D : va_G} {G : CG} {v : S2} {r : R2} : (CW D G v r)[4 + nA G + nT G]? = some (lsC (G.1 0 4) (lA G).1 (lA G).2.1 (nA G)) := by
  unfold CW
  rw [List.getElem?_append_right (by show 4 ≤ _; omega), show 4 + nA G + nT G - (fixC D G v).length = nA G + nT G by show 4 + nA G + nT G - 4 = _; omega, List.getElem?_append_right (by rw [ags_len]; omega), ags_len, Nat.add_sub_cancel_left, List.getElem?_append_right (by rw [tks_len]; omega), tks_len, Nat.sub_self]
  rfl
theorem cm_LA {D : va_G} {G : CG} {v : S2} {r : R2} : ∀ q ∈ LW D (G.1 0 4) (lA G) (nA G), q ∈ CW D G v r := fun q h => List.mem_append_right _ (List.mem_append_right _ (List.mem_append_right _ (List.mem_append_left _ h)))
theorem cm_LT {D : va_G} {G : CG} {v : S2} {r : R2} : ∀ q ∈ LW D (G.1 0 5) (lT G) (nT G), q ∈ CW D G v r := fun q h => List.mem_append_right _ (List.mem_append_right _ (List.mem_append_right _ (List.mem_append_right _ h)))
theorem cg_LT {D : va_G} {G : CG} {v : S2} {r : R2} : ∃ q : Nat, (CW D G v r)[q]? = some (lsC (G.1 0 5) (lT G).1 (lT G).2.1 (nT G)) := List.getElem?_of_mem (cm_LT _ List.mem_cons_self)
theorem LW_hd {D : va_G} {L : Nat} {ls : LSt} {n : Nat} : ∀ q ∈ [lsC L ls.1 ls.2.1 n], q ∈ LW D L ls n := fun q h => by rw [List.mem_singleton.mp h]; exact List.mem_cons_self
theorem LW_two {D : va_G} {L : Nat} {ls : LSt} {n : Nat} (h : ls.2.2.1 ≠ 0) : LW D L ls n = [lsC L ls.1 ls.2.1 n, elC D ls.1 ls.2.2.1 ls.2.2.2] := by unfold LW; rw [if_neg h]
theorem cs_0 {D : va_G} {G : CG} {v : S2} {r : R2} {x : Int32} : (CW D G v r).set 0 (G.1 0 0, .inr (4, (DF G v).set 5 (.int x))) = CW D G (u2 v 0 0 x) r := rfl
theorem cs_1 {D : va_G} {G : CG} {v : S2} {r : R2} {x : Int32} : (CW D G v r).set 1 (G.1 0 1, .inr (2, (HF v).set 0 (.int x))) = CW D G (u2 v 0 1 x) r := rfl
theorem cs_2 {D : va_G} {G : CG} {v : S2} {r : R2} {x : Int32} : (CW D G v r).set 1 (G.1 0 1, .inr (2, (HF v).set 1 (.int x))) = CW D G (u2 v 0 2 x) r := rfl
theorem cs_an {D : va_G} {G : CG} {v : S2} {r : R2} {i : Nat} {x : Int32} : (CW D G v r).set 2 (G.1 0 2, .inl (D.1 100, 4, .inl (upd (v 1) i x))) = CW D G (u2 v 1 i x) r := rfl
theorem cs_so {D : va_G} {G : CG} {v : S2} {r : R2} {i : Nat} {x : Int32} : (CW D G v r).set 3 (G.1 0 3, .inl (D.1 100, 4, .inl (upd (v 2) i x))) = CW D G (u2 v 2 i x) r := rfl
theorem CW_setA {D : va_G} {G : CG} {v v' : S2} {r r' : R2} {i : Nat} {x : List Value} (h : i < nA G) (hf : fixC D G v' = fixC D G v) (ht : ∀ n, tks G v' r' n = tks G v r n) (hx : x = AF G v' r' i) (ho : ∀ j, j ≠ i → AF G v' r' j = AF G v r j) : (CW D G v r).set (4 + i) (aA G i, .inr (1, x)) = CW D G v' r' := by
  unfold CW
  rw [List.set_append_right _ _ (by show 4 ≤ _; omega), show 4 + i - (fixC D G v).length = i by show 4 + i - 4 = i; omega, List.set_append_left _ _ (by rw [ags_len]; exact h), hf, ht]
  congr 2
  refine rng_set (by rw [hx]) (fun j hj => by rw [ho j hj])
theorem CW_setT {D : va_G} {G : CG} {v v' : S2} {r r' : R2} {i : Nat} {x : List Value} (h : i < nT G) (hf : fixC D G v' = fixC D G v) (ha : ∀ n, ags G v' r' n = ags G v r n) (hx : x = TF G v' r' i) (ho : ∀ j, j ≠ i → TF G v' r' j = TF G v r j) : (CW D G v r).set (4 + nA G + i) (aT G i, .inr (3, x)) = CW D G v' r' := by
  unfold CW
  rw [List.set_append_right _ _ (by show 4 ≤ _; omega), show 4 + nA G + i - (fixC D G v).length = nA G + i by show 4 + nA G + i - 4 = _; omega, List.set_append_right _ _ (by rw [ags_len]; omega), ags_len, Nat.add_sub_cancel_left, List.set_append_left _ _ (by rw [tks_len]; exact h), hf, ha]
  congr 3
  refine rng_set (by rw [hx]) (fun j hj => by rw [ho j hj])
theorem upd_self {f : Nat → Int32} {i : Nat} {x : Int32} : upd f i x i = x := if_pos rfl
theorem upd_ne {f : Nat → Int32} {i j : Nat} {x : Int32} (h : j ≠ i) : upd f i x j = f j := if_neg h
theorem up_self {f : Nat → Option Nat} {i : Nat} {x : Option Nat} : va_up f i x i = x := if_pos rfl
theorem up_ne {f : Nat → Option Nat} {i j : Nat} {x : Option Nat} (h : j ≠ i) : va_up f i x j = f j := if_neg h
theorem csA_0 {D : va_G} {G : CG} {v : S2} {r : R2} {i : Nat} {x : Int32} (h : i < nA G) : (CW D G v r).set (4 + i) (aA G i, .inr (1, (AF G v r i).set 0 (.int x))) = CW D G (u2 v 10 i x) r :=
  CW_setA h rfl (fun _ => rfl) (by unfold AF u2; simp [upd_self]) (fun j hj => by unfold AF u2; simp [upd_ne hj])
theorem csA_1 {D : va_G} {G : CG} {v : S2} {r : R2} {i : Nat} {x : Int32} (h : i < nA G) : (CW D G v r).set (4 + i) (aA G i, .inr (1, (AF G v r i).set 1 (.int x))) = CW D G (u2 v 11 i x) r :=
  CW_setA h rfl (fun _ => rfl) (by unfold AF u2; simp [upd_self]) (fun j hj => by unfold AF u2; simp [upd_ne hj])
theorem csA_2 {D : va_G} {G : CG} {v : S2} {r : R2} {i : Nat} {x : Int32} (h : i < nA G) : (CW D G v r).set (4 + i) (aA G i, .inr (1, (AF G v r i).set 2 (.int x))) = CW D G (u2 v 12 i x) r :=
  CW_setA h rfl (fun _ => rfl) (by unfold AF u2; simp [upd_self]) (fun j hj => by unfold AF u2; simp [upd_ne hj])
theorem csA_3 {D : va_G} {G : CG} {v : S2} {r : R2} {i : Nat} {x : Int32} (h : i < nA G) : (CW D G v r).set (4 + i) (aA G i, .inr (1, (AF G v r i).set 3 (.int x))) = CW D G (u2 v 13 i x) r :=
  CW_setA h rfl (fun _ => rfl) (by unfold AF u2; simp [upd_self]) (fun j hj => by unfold AF u2; simp [upd_ne hj])
theorem csA_4 {D : va_G} {G : CG} {v : S2} {r : R2} {i : Nat} {x : Int32} (h : i < nA G) : (CW D G v r).set (4 + i) (aA G i, .inr (1, (AF G v r i).set 4 (.int x))) = CW D G (u2 v 14 i x) r :=
  CW_setA h rfl (fun _ => rfl) (by unfold AF u2; simp [upd_self]) (fun j hj => by unfold AF u2; simp [upd_ne hj])
theorem csA_6 {D : va_G} {G : CG} {v : S2} {r : R2} {i : Nat} {x : Int32} (h : i < nA G) : (CW D G v r).set (4 + i) (aA G i, .inr (1, (AF G v r i).set 6 (.int x))) = CW D G (u2 v 16 i x) r :=
  CW_setA h rfl (fun _ => rfl) (by unfold AF u2; simp [upd_self]) (fun j hj => by unfold AF u2; simp [upd_ne hj])
theorem csA_7 {D : va_G} {G : CG} {v : S2} {r : R2} {i : Nat} {x : Int32} (h : i < nA G) : (CW D G v r).set (4 + i) (aA G i, .inr (1, (AF G v r i).set 7 (.int x))) = CW D G (u2 v 17 i x) r :=
  CW_setA h rfl (fun _ => rfl) (by unfold AF u2; simp [upd_self]) (fun j hj => by unfold AF u2; simp [upd_ne hj])
theorem csA_5 {D : va_G} {G : CG} {v : S2} {r : R2} {i : Nat} {x : Option Nat} (h : i < nA G) : (CW D G v r).set (4 + i) (aA G i, .inr (1, (AF G v r i).set 5 (va_rf (x.map (aT G))))) = CW D G v (u3 r 15 i x) :=
  CW_setA h rfl (fun _ => rfl) (by unfold AF u3; simp [up_self]) (fun j hj => by unfold AF u3; simp [up_ne hj])
theorem csT_0 {D : va_G} {G : CG} {v : S2} {r : R2} {i : Nat} {x : Int32} (h : i < nT G) : (CW D G v r).set (4 + nA G + i) (aT G i, .inr (3, (TF G v r i).set 0 (.int x))) = CW D G (u2 v 20 i x) r :=
  CW_setT h rfl (fun _ => rfl) (by unfold TF u2; simp [upd_self]) (fun j hj => by unfold TF u2; simp [upd_ne hj])
theorem csT_1 {D : va_G} {G : CG} {v : S2} {r : R2} {i : Nat} {x : Int32} (h : i < nT G) : (CW D G v r).set (4 + nA G + i) (aT G i, .inr (3, (TF G v r i).set 1 (.int x))) = CW D G (u2 v 21 i x) r :=
  CW_setT h rfl (fun _ => rfl) (by unfold TF u2; simp [upd_self]) (fun j hj => by unfold TF u2; simp [upd_ne hj])
theorem csT_2 {D : va_G} {G : CG} {v : S2} {r : R2} {i : Nat} {x : Int32} (h : i < nT G) : (CW D G v r).set (4 + nA G + i) (aT G i, .inr (3, (TF G v r i).set 2 (.int x))) = CW D G (u2 v 22 i x) r :=
  CW_setT h rfl (fun _ => rfl) (by unfold TF u2; simp [upd_self]) (fun j hj => by unfold TF u2; simp [upd_ne hj])
theorem csT_3 {D : va_G} {G : CG} {v : S2} {r : R2} {i : Nat} {x : Int32} (h : i < nT G) : (CW D G v r).set (4 + nA G + i) (aT G i, .inr (3, (TF G v r i).set 3 (.int x))) = CW D G (u2 v 23 i x) r :=
  CW_setT h rfl (fun _ => rfl) (by unfold TF u2; simp [upd_self]) (fun j hj => by unfold TF u2; simp [upd_ne hj])
theorem csT_4 {D : va_G} {G : CG} {v : S2} {r : R2} {i : Nat} {x : Int32} (h : i < nT G) : (CW D G v r).set (4 + nA G + i) (aT G i, .inr (3, (TF G v r i).set 4 (.int x))) = CW D G (u2 v 24 i x) r :=
  CW_setT h rfl (fun _ => rfl) (by unfold TF u2; simp [upd_self]) (fun j hj => by unfold TF u2; simp [upd_ne hj])
theorem csT_5 {D : va_G} {G : CG} {v : S2} {r : R2} {i : Nat} {x : Int32} (h : i < nT G) : (CW D G v r).set (4 + nA G + i) (aT G i, .inr (3, (TF G v r i).set 5 (.int x))) = CW D G (u2 v 25 i x) r :=
  CW_setT h rfl (fun _ => rfl) (by unfold TF u2; simp [upd_self]) (fun j hj => by unfold TF u2; simp [upd_ne hj])
theorem csT_6 {D : va_G} {G : CG} {v : S2} {r : R2} {i : Nat} {x : Int32} (h : i < nT G) : (CW D G v r).set (4 + nA G + i) (aT G i, .inr (3, (TF G v r i).set 6 (.int x))) = CW D G (u2 v 26 i x) r :=
  CW_setT h rfl (fun _ => rfl) (by unfold TF u2; simp [upd_self]) (fun j hj => by unfold TF u2; simp [upd_ne hj])
theorem csT_7 {D : va_G} {G : CG} {v : S2} {r : R2} {i : Nat} {x : Int32} (h : i < nT G) : (CW D G v r).set (4 + nA G + i) (aT G i, .inr (3, (TF G v r i).set 7 (.int x))) = CW D G (u2 v 27 i x) r :=
  CW_setT h rfl (fun _ => rfl) (by unfold TF u2; simp [upd_self]) (fun j hj => by unfold TF u2; simp [upd_ne hj])
theorem csT_8 {D : va_G} {G : CG} {v : S2} {r : R2} {i : Nat} {x : Int32} (h : i < nT G) : (CW D G v r).set (4 + nA G + i) (aT G i, .inr (3, (TF G v r i).set 8 (.int x))) = CW D G (u2 v 28 i x) r :=
  CW_setT h rfl (fun _ => rfl) (by unfold TF u2; simp [upd_self]) (fun j hj => by unfold TF u2; simp [upd_ne hj])
theorem csT_9 {D : va_G} {G : CG} {v : S2} {r : R2} {i : Nat} {x : Int32} (h : i < nT G) : (CW D G v r).set (4 + nA G + i) (aT G i, .inr (3, (TF G v r i).set 9 (.int x))) = CW D G (u2 v 29 i x) r :=
  CW_setT h rfl (fun _ => rfl) (by unfold TF u2; simp [upd_self]) (fun j hj => by unfold TF u2; simp [upd_ne hj])
theorem csT_10 {D : va_G} {G : CG} {v : S2} {r : R2} {i : Nat} {x : Int32} (h : i < nT G) : (CW D G v r).set (4 + nA G + i) (aT G i, .inr (3, (TF G v r i).set 10 (.int x))) = CW D G (u2 v 30 i x) r :=
  CW_setT h rfl (fun _ => rfl) (by unfold TF u2; simp [upd_self]) (fun j hj => by unfold TF u2; simp [upd_ne hj])
theorem csT_11 {D : va_G} {G : CG} {v : S2} {r : R2} {i : Nat} {x : Int32} (h : i < nT G) : (CW D G v r).set (4 + nA G + i) (aT G i, .inr (3, (TF G v r i).set 11 (.int x))) = CW D G (u2 v 31 i x) r :=
  CW_setT h rfl (fun _ => rfl) (by unfold TF u2; simp [upd_self]) (fun j hj => by unfold TF u2; simp [upd_ne hj])
theorem csT_12 {D : va_G} {G : CG} {v : S2} {r : R2} {i : Nat} {x : Option Nat} (h : i < nT G) : (CW D G v r).set (4 + nA G + i) (aT G i, .inr (3, (TF G v r i).set 12 (va_rf (x.map (aA G))))) = CW D G v (u3 r 32 i x) :=
  CW_setT h rfl (fun _ => rfl) (by unfold TF u3; simp [up_self]) (fun j hj => by unfold TF u3; simp [up_ne hj])
theorem csT_13 {D : va_G} {G : CG} {v : S2} {r : R2} {i : Nat} {x : Option Nat} (h : i < nT G) : (CW D G v r).set (4 + nA G + i) (aT G i, .inr (3, (TF G v r i).set 13 (va_rf (x.map (aA G))))) = CW D G v (u3 r 33 i x) :=
  CW_setT h rfl (fun _ => rfl) (by unfold TF u3; simp [up_self]) (fun j hj => by unfold TF u3; simp [up_ne hj])
theorem csT_14 {D : va_G} {G : CG} {v : S2} {r : R2} {i : Nat} {x : Option Nat} (h : i < nT G) : (CW D G v r).set (4 + nA G + i) (aT G i, .inr (3, (TF G v r i).set 14 (va_rf (x.map (aT G))))) = CW D G v (u3 r 34 i x) :=
  CW_setT h rfl (fun _ => rfl) (by unfold TF u3; simp [up_self]) (fun j hj => by unfold TF u3; simp [up_ne hj])
