/-! rows over the class's world; what holds of it at all times -/
def LI (ls : LSt) (n : Nat) (ad : Nat → Nat) : Prop := n ≤ ls.2.2.1 ∧ ls.2.2.1 ≤ 100 ∧ (∀ i, i < n → ls.2.2.2 i = some (ad i)) ∧ (ls.2.2.1 = 0 ∨ 10 ≤ ls.2.2.1)
def GI (D : va_G) (G : CG) : Prop := nA G ≤ 6 ∧ nT G ≤ 20 ∧ LI (lA G) (nA G) (aA G) ∧ LI (lT G) (nT G) (aT G) ∧ (∀ i j, i < nA G → j < nA G → aA G i = aA G j → i = j) ∧ ((lA G).2.2.1 = 0 → (lA G).1 = dE D) ∧ ((lT G).2.2.1 = 0 → (lT G).1 = dE D)
def CI (G : CG) (v : S2) (r : R2) : Prop := (∀ t, t < nT G → vp_in (v 22 t) 4) ∧ (∀ i, i < nA G → ∀ t, r 15 i = some t → t < nT G) ∧ (∀ t, t < nT G → ∀ a, r 32 t = some a → a < nA G) ∧ (∀ t, t < nT G → ∀ a, r 33 t = some a → a < nA G) ∧ ∀ t, t < nT G → ∀ u, r 34 t = some u → u < nT G
theorem GI.nA {D : va_G} {G : CG} (h : GI D G) : nA G ≤ 6 := h.1
theorem GI.nT {D : va_G} {G : CG} (h : GI D G) : nT G ≤ 20 := h.2.1
theorem CI.prio {G : CG} {v : S2} {r : R2} (h : CI G v r) {t : Nat} (ht : t < nT G) : vp_in (v 22 t) 4 := h.1 t ht
theorem CI.held {G : CG} {v : S2} {r : R2} (h : CI G v r) {i : Nat} (hi : i < nA G) : ∀ t, r 15 i = some t → t < nT G := h.2.1 i hi
theorem CI.holder {G : CG} {v : S2} {r : R2} (h : CI G v r) {t : Nat} (ht : t < nT G) : ∀ a, r 32 t = some a → a < nA G := h.2.2.1 t ht
theorem CI.latest {G : CG} {v : S2} {r : R2} (h : CI G v r) {t : Nat} (ht : t < nT G) : ∀ a, r 33 t = some a → a < nA G := h.2.2.2.1 t ht
theorem CI.into {G : CG} {v : S2} {r : R2} (h : CI G v r) {t : Nat} (ht : t < nT G) : ∀ u, r 34 t = some u → u < nT G := h.2.2.2.2 t ht
theorem u3_at (r : R2) (j i : Nat) (x : Option Nat) (a b : Nat) : u3 r j i x a b = if a = j ∧ b = i then x else r a b := by
  unfold u3 va_up
  by_cases h : a = j
  · subst h
    by_cases h2 : b = i <;> simp [h2]
  · simp [h]
theorem u3_ne1 {r : R2} {j i : Nat} {x : Option Nat} {a : Nat} (h : ¬ a = j) : u3 r j i x a = r a := by unfold u3; rw [if_neg h]
theorem CI_v {G : CG} {v : S2} {r : R2} {j i : Nat} {x : Int32} (hj : ¬ j = 22) (h : CI G v r) : CI G (u2 v j i x) r := by
  refine ⟨fun t ht => ?_, h.2⟩
  rw [u2_ne1 (fun z => hj z.symm)]
  exact h.1 t ht
theorem CI_p {G : CG} {v : S2} {r : R2} {i : Nat} {x : Int32} (hx : vp_in x 4) (h : CI G v r) : CI G (u2 v 22 i x) r := by
  refine ⟨fun t ht => ?_, h.2⟩
  rw [u2_at]
  split
  · exact hx
  · exact h.1 t ht
theorem CI_r {G : CG} {v : S2} {r : R2} {j i : Nat} {x : Option Nat} (h : CI G v r) (h15 : j = 15 → ∀ t, x = some t → t < nT G) (h32 : j = 32 → ∀ t, x = some t → t < nA G) (h33 : j = 33 → ∀ t, x = some t → t < nA G) (h34 : j = 34 → ∀ t, x = some t → t < nT G) : CI G v (u3 r j i x) := by
  obtain ⟨g1, g2, g3, g4, g5⟩ := h
  refine ⟨g1, fun a ha t e => ?_, fun t ht a e => ?_, fun t ht a e => ?_, fun t ht u e => ?_⟩
  · rw [u3_at] at e
    split at e
    · rename_i z; exact h15 z.1.symm t e
    · exact g2 a ha t e
  · rw [u3_at] at e
    split at e
    · rename_i z; exact h32 z.1.symm a e
    · exact g3 t ht a e
  · rw [u3_at] at e
    split at e
    · rename_i z; exact h33 z.1.symm a e
    · exact g4 t ht a e
  · rw [u3_at] at e
    split at e
    · rename_i z; exact h34 z.1.symm u e
    · exact g5 t ht u e
theorem CI_none {G : CG} {v : S2} {r : R2} {j i : Nat} (h : CI G v r) : CI G v (u3 r j i none) := CI_r h (fun _ _ e => by cases e) (fun _ _ e => by cases e) (fun _ _ e => by cases e) (fun _ _ e => by cases e)
def inR (x : Int32) (n : Nat) : Bool := !(decide (x < 0)) && decide (ix x < n)
theorem inR_iff {x : Int32} {n : Nat} : inR x n = true ↔ vp_in x n := by
  unfold inR vp_in
  simp only [Bool.and_eq_true, Bool.not_eq_true', decide_eq_false_iff_not, decide_eq_true_eq]
  constructor
  · rintro ⟨h1, h2⟩ (h | h)
    · exact h1 h
    · exact absurd h (Nat.not_le.mpr h2)
  · intro h
    exact ⟨fun z => h (Or.inl z), Nat.not_le.mp fun z => h (Or.inr z)⟩
theorem map_none {α β : Type} {o : Option α} {f : α → β} (h : o.map f = none) : o = none := by cases o with
  | none => rfl
  | some a => cases h
theorem map_some {α β : Type} {o : Option α} {f : α → β} {b : β} (h : o.map f = some b) : ∃ a, o = some a ∧ b = f a := by cases o with
  | none => cases h
  | some a => exact ⟨a, rfl, (Option.some.inj h).symm⟩
theorem mapA_iff {D : va_G} {G : CG} (hG : GI D G) {o : Option Nat} (ho : ∀ a, o = some a → a < nA G) {a : Nat} (ha : a < nA G) : o.map (aA G) = some (aA G a) ↔ o = some a := by
  constructor
  · intro h
    obtain ⟨b, rfl, e⟩ := map_some h
    rw [hG.2.2.2.2.1 a b ha (ho b rfl) e]
  · rintro rfl
    rfl
section CROW2
variable {k : Kx} {cc : ByteArray} {own : String} {R : Room} {nL : Nat} {ws : va_W} {c n pc : Nat} {lv : List (Option Value)} {st : List Value} {G : CG} {v : S2} {r : R2}
theorem j_sizeA (F : Fx k cc own R nL) {idx : Nat} (hk : LkV own idx RJx4a65c yJx4a65c_size_8abf5 cJx4a65c_size_8abf5 1 (some .int) 0) (hd : decode cc pc = .ok (.invokevirtual idx, 3)) (hR : 1 ≤ R.frames ∧ 20 ≤ R.locals) (hW : (st.map fun v => v.category).sum ≤ 8) (hcn : c ≤ R.cells ∧ n ≤ R.slots) (hst : (kl k).stackTraces = false) (K : J k (CW (kD k) G v r) c n (pc + 3) lv (.int (nI (nA G)) :: st)) : J k (CW (kD k) G v r) c n pc lv (.ref (G.1 0 4) :: st) :=
  j_rdV F (qJ_size (kl k) hst (kD k) _ _ _ _) hk hd hR (fun q h => cm_LA q (LW_hd q h)) _ cg_LA rfl rfl hW hcn K
theorem j_sizeT (F : Fx k cc own R nL) {idx : Nat} (hk : LkV own idx RJx4a65c yJx4a65c_size_8abf5 cJx4a65c_size_8abf5 1 (some .int) 0) (hd : decode cc pc = .ok (.invokevirtual idx, 3)) (hR : 1 ≤ R.frames ∧ 20 ≤ R.locals) (hW : (st.map fun v => v.category).sum ≤ 8) (hcn : c ≤ R.cells ∧ n ≤ R.slots) (hst : (kl k).stackTraces = false) (K : J k (CW (kD k) G v r) c n (pc + 3) lv (.int (nI (nT G)) :: st)) : J k (CW (kD k) G v r) c n pc lv (.ref (G.1 0 5) :: st) := by
  obtain ⟨q, hq⟩ := cg_LT (D := kD k) (G := G) (v := v) (r := r)
  exact j_rdV F (qJ_size (kl k) hst (kD k) _ _ _ _) hk hd hR (fun q h => cm_LT q (LW_hd q h)) q hq rfl rfl hW hcn K
theorem j_getA (F : Fx k cc own R nL) (hG : GI (kD k) G) {i : Int32} {idx : Nat} (hi : vp_in i (nA G)) (hk : LkV own idx RJx4a65c yJx4a65c_get_915e3 cJx4a65c_get_915e3 2 (some (.object "java/lang/Object")) 1) (hd : decode cc pc = .ok (.invokevirtual idx, 3)) (hR : 3 ≤ R.frames ∧ 64 ≤ R.locals) (hW : (st.map fun v => v.category).sum ≤ 8) (hcn : c ≤ R.cells ∧ n ≤ R.slots) (hst : (kl k).stackTraces = false) (K : J k (CW (kD k) G v r) c n (pc + 3) lv (.ref (aA G (ix i)) :: st)) : J k (CW (kD k) G v r) c n pc lv (.int i :: .ref (G.1 0 4) :: st) := by
  have hl := vp_lt hi
  obtain ⟨h1, h2, h3, h4⟩ := hG.2.2.1
  exact j_rdV F (qJ_get (kl k) hst (kD k) (G.1 0 4) (lA G).1 (lA G).2.1 (nA G) (lA G).2.2.1 (lA G).2.2.2 i _ hi h1 (by have := hG.1; omega) (h3 _ hl)) hk hd hR (fun q h => cm_LA q (by rw [LW_two (by omega)]; exact h)) _ cg_LA rfl rfl hW hcn K
theorem j_getT (F : Fx k cc own R nL) (hG : GI (kD k) G) {i : Int32} {idx : Nat} (hi : vp_in i (nT G)) (hk : LkV own idx RJx4a65c yJx4a65c_get_915e3 cJx4a65c_get_915e3 2 (some (.object "java/lang/Object")) 1) (hd : decode cc pc = .ok (.invokevirtual idx, 3)) (hR : 3 ≤ R.frames ∧ 64 ≤ R.locals) (hW : (st.map fun v => v.category).sum ≤ 8) (hcn : c ≤ R.cells ∧ n ≤ R.slots) (hst : (kl k).stackTraces = false) (K : J k (CW (kD k) G v r) c n (pc + 3) lv (.ref (aT G (ix i)) :: st)) : J k (CW (kD k) G v r) c n pc lv (.int i :: .ref (G.1 0 5) :: st) := by
  have hl := vp_lt hi
  obtain ⟨h1, h2, h3, h4⟩ := hG.2.2.2.1
  obtain ⟨q, hq⟩ := cg_LT (D := kD k) (G := G) (v := v) (r := r)
  exact j_rdV F (qJ_get (kl k) hst (kD k) (G.1 0 5) (lT G).1 (lT G).2.1 (nT G) (lT G).2.2.1 (lT G).2.2.2 i _ hi h1 (by have := hG.2.1; omega) (h3 _ hl)) hk hd hR (fun q h => cm_LT q (by rw [LW_two (by omega)]; exact h)) q hq rfl rfl hW hcn K
theorem j_getAN (F : Fx k cc own R nL) (hG : GI (kD k) G) {i : Nat} {idx : Nat} (hi : i < nA G) (hk : LkV own idx RJx4a65c yJx4a65c_get_915e3 cJx4a65c_get_915e3 2 (some (.object "java/lang/Object")) 1) (hd : decode cc pc = .ok (.invokevirtual idx, 3)) (hR : 3 ≤ R.frames ∧ 64 ≤ R.locals) (hW : (st.map fun v => v.category).sum ≤ 8) (hcn : c ≤ R.cells ∧ n ≤ R.slots) (hst : (kl k).stackTraces = false) (K : J k (CW (kD k) G v r) c n (pc + 3) lv (.ref (aA G i) :: st)) : J k (CW (kD k) G v r) c n pc lv (.int (nI i) :: .ref (G.1 0 4) :: st) := by
  have h6 := hG.1
  exact j_getA F hG (vp_in_nI hi (by omega)) hk hd hR hW hcn hst (by rw [ix_nI (by omega)]; exact K)
theorem j_getTN (F : Fx k cc own R nL) (hG : GI (kD k) G) {i : Nat} {idx : Nat} (hi : i < nT G) (hk : LkV own idx RJx4a65c yJx4a65c_get_915e3 cJx4a65c_get_915e3 2 (some (.object "java/lang/Object")) 1) (hd : decode cc pc = .ok (.invokevirtual idx, 3)) (hR : 3 ≤ R.frames ∧ 64 ≤ R.locals) (hW : (st.map fun v => v.category).sum ≤ 8) (hcn : c ≤ R.cells ∧ n ≤ R.slots) (hst : (kl k).stackTraces = false) (K : J k (CW (kD k) G v r) c n (pc + 3) lv (.ref (aT G i) :: st)) : J k (CW (kD k) G v r) c n pc lv (.int (nI i) :: .ref (G.1 0 5) :: st) := by
  have h6 := hG.2.1
  exact j_getT F hG (vp_in_nI hi (by omega)) hk hd hR hW hcn hst (by rw [ix_nI (by omega)]; exact K)
/-- a call that may throw, of the whole world -/
theorem j_cxV0 (F : Fx k cc own R nL) (hw : kw k = true) {C : String} {y : MethodName} {ccy : ByteArray} {maxL : Nat} {ret : Option FieldType} {fr lo mc ms idx b : Nat} {as : List Value} {P : Option Value → va_W → Prop} {PX : String → Prop} {stk : List Value} (hM : CX (kl k) (kD k) y ccy maxL ret fr lo mc ms ws (.ref b :: as) P PX) (hk : LkV own idx C y ccy maxL ret as.length) (hd : decode cc pc = .ok (.invokevirtual idx, 3)) (hR : fr + 1 ≤ R.frames ∧ 8 + (maxL + 11) + lo ≤ R.locals)
    {T : u_T} {N ci : Nat} {fs : List Value} (q : Nat) (hq : ws[q]? = some (b, .inr (ci, fs))) (hc : vwCl[ci]? = some (C, T, N)) (hst : stk = as.reverse ++ .ref b :: st) (hW : (st.map fun v => v.category).sum ≤ 8) (hcn : c + mc ≤ R.cells ∧ n + ms ≤ R.slots) (K : ∀ v w1, P v w1 → J k w1 (c + mc) (n + ms) (pc + 3) lv (vlist v st)) (KX : ∀ E, PX E → JX k ws (c + mc) (n + ms) pc lv st E) : J k ws c n pc lv stk := by
  rw [← List.append_nil ws]
  exact j_cxV F hw hM hk hd hR q (by rw [List.append_nil]; exact hq) hc hst hW hcn (fun v w1 h => by rw [List.append_nil]; exact K v w1 h) (fun E h => by rw [List.append_nil]; exact KX E h)
end CROW2
/-- exceptions by number: 1, 2, 3 -/
def xE (n : Nat) : String := if n = 1 then eA else if n = 2 then eI else eS
theorem dfi_5 {G : CG} {v : S2} {g : Nat → Int32} (h : v 0 = g) : (DF G v)[5]? = some (.int (g 0)) := h ▸ rfl
theorem hfi_0 {v : S2} {g : Nat → Int32} (h : v 0 = g) : (HF v)[0]? = some (.int (g 1)) := h ▸ rfl
theorem hfi_1 {v : S2} {g : Nat → Int32} (h : v 0 = g) : (HF v)[1]? = some (.int (g 2)) := h ▸ rfl
theorem cgi_1 {D : va_G} {G : CG} {v : S2} {r : R2} {g : Nat → Int32} (h : v 1 = g) : (CW D G v r)[2]? = some (G.1 0 2, .inl (D.1 100, 4, .inl g)) := h ▸ rfl
theorem cgi_2 {D : va_G} {G : CG} {v : S2} {r : R2} {g : Nat → Int32} (h : v 2 = g) : (CW D G v r)[3]? = some (G.1 0 3, .inl (D.1 100, 4, .inl g)) := h ▸ rfl
theorem afi_5 {G : CG} {v : S2} {r : R2} {i : Nat} {g : Nat → Option Nat} (h : r 15 = g) : (AF G v r i)[5]? = some (va_rf ((g i).map (aT G))) := h ▸ rfl
theorem afi_0 {G : CG} {v : S2} {r : R2} {i : Nat} {g : Nat → Int32} (h : v 10 = g) : (AF G v r i)[0]? = some (.int (g i)) := h ▸ rfl
theorem afi_1 {G : CG} {v : S2} {r : R2} {i : Nat} {g : Nat → Int32} (h : v 11 = g) : (AF G v r i)[1]? = some (.int (g i)) := h ▸ rfl
theorem afi_2 {G : CG} {v : S2} {r : R2} {i : Nat} {g : Nat → Int32} (h : v 12 = g) : (AF G v r i)[2]? = some (.int (g i)) := h ▸ rfl
theorem afi_3 {G : CG} {v : S2} {r : R2} {i : Nat} {g : Nat → Int32} (h : v 13 = g) : (AF G v r i)[3]? = some (.int (g i)) := h ▸ rfl
theorem afi_4 {G : CG} {v : S2} {r : R2} {i : Nat} {g : Nat → Int32} (h : v 14 = g) : (AF G v r i)[4]? = some (.int (g i)) := h ▸ rfl
theorem afi_6 {G : CG} {v : S2} {r : R2} {i : Nat} {g : Nat → Int32} (h : v 16 = g) : (AF G v r i)[6]? = some (.int (g i)) := h ▸ rfl
theorem afi_7 {G : CG} {v : S2} {r : R2} {i : Nat} {g : Nat → Int32} (h : v 17 = g) : (AF G v r i)[7]? = some (.int (g i)) := h ▸ rfl
theorem tfi_0 {G : CG} {v : S2} {r : R2} {i : Nat} {g : Nat → Int32} (h : v 20 = g) : (TF G v r i)[0]? = some (.int (g i)) := h ▸ rfl
theorem tfi_1 {G : CG} {v : S2} {r : R2} {i : Nat} {g : Nat → Int32} (h : v 21 = g) : (TF G v r i)[1]? = some (.int (g i)) := h ▸ rfl
theorem tfi_2 {G : CG} {v : S2} {r : R2} {i : Nat} {g : Nat → Int32} (h : v 22 = g) : (TF G v r i)[2]? = some (.int (g i)) := h ▸ rfl
theorem tfi_3 {G : CG} {v : S2} {r : R2} {i : Nat} {g : Nat → Int32} (h : v 23 = g) : (TF G v r i)[3]? = some (.int (g i)) := h ▸ rfl
theorem tfi_4 {G : CG} {v : S2} {r : R2} {i : Nat} {g : Nat → Int32} (h : v 24 = g) : (TF G v r i)[4]? = some (.int (g i)) := h ▸ rfl
theorem tfi_5 {G : CG} {v : S2} {r : R2} {i : Nat} {g : Nat → Int32} (h : v 25 = g) : (TF G v r i)[5]? = some (.int (g i)) := h ▸ rfl
theorem tfi_6 {G : CG} {v : S2} {r : R2} {i : Nat} {g : Nat → Int32} (h : v 26 = g) : (TF G v r i)[6]? = some (.int (g i)) := h ▸ rfl
theorem tfi_7 {G : CG} {v : S2} {r : R2} {i : Nat} {g : Nat → Int32} (h : v 27 = g) : (TF G v r i)[7]? = some (.int (g i)) := h ▸ rfl
theorem tfi_8 {G : CG} {v : S2} {r : R2} {i : Nat} {g : Nat → Int32} (h : v 28 = g) : (TF G v r i)[8]? = some (.int (g i)) := h ▸ rfl
theorem tfi_9 {G : CG} {v : S2} {r : R2} {i : Nat} {g : Nat → Int32} (h : v 29 = g) : (TF G v r i)[9]? = some (.int (g i)) := h ▸ rfl
theorem tfi_10 {G : CG} {v : S2} {r : R2} {i : Nat} {g : Nat → Int32} (h : v 30 = g) : (TF G v r i)[10]? = some (.int (g i)) := h ▸ rfl
theorem tfi_11 {G : CG} {v : S2} {r : R2} {i : Nat} {g : Nat → Int32} (h : v 31 = g) : (TF G v r i)[11]? = some (.int (g i)) := h ▸ rfl
theorem tfi_12 {G : CG} {v : S2} {r : R2} {i : Nat} {g : Nat → Option Nat} (h : r 32 = g) : (TF G v r i)[12]? = some (va_rf ((g i).map (aA G))) := h ▸ rfl
theorem tfi_13 {G : CG} {v : S2} {r : R2} {i : Nat} {g : Nat → Option Nat} (h : r 33 = g) : (TF G v r i)[13]? = some (va_rf ((g i).map (aA G))) := h ▸ rfl
theorem tfi_14 {G : CG} {v : S2} {r : R2} {i : Nat} {g : Nat → Option Nat} (h : r 34 = g) : (TF G v r i)[14]? = some (va_rf ((g i).map (aT G))) := h ▸ rfl
