section LCALLS
variable {k : Kx} {cc : ByteArray} {own : String} {R : Room} {nL : Nat} {ws : va_W} {c n pc : Nat} {lv : List (Option Value)} {st stk : List Value}
theorem j_cmV0 (F : Fx k cc own R nL) (hw : kw k = true) {C : String} {y : MethodName} {ccy : ByteArray} {maxL : Nat} {ret : Option FieldType} {fr lo mc ms idx b : Nat} {as : List Value} {P : Option Value → va_W → Prop} (hM : CM (kl k) (kD k) y ccy maxL ret fr lo mc ms ws (.ref b :: as) P) (hk : LkV own idx C y ccy maxL ret as.length) (hd : decode cc pc = .ok (.invokevirtual idx, 3)) (hR : fr + 1 ≤ R.frames ∧ 8 + (maxL + 11) + lo ≤ R.locals)
    {T : u_T} {N ci : Nat} {fs : List Value} (q : Nat) (hq : ws[q]? = some (b, .inr (ci, fs))) (hc : vwCl[ci]? = some (C, T, N)) (hst : stk = as.reverse ++ .ref b :: st) (hW : (st.map fun v => v.category).sum ≤ 8) (hcn : c + mc ≤ R.cells ∧ n + ms ≤ R.slots) (K : ∀ v w1, P v w1 → J k w1 (c + mc) (n + ms) (pc + 3) lv (vlist v st)) : J k ws c n pc lv stk := by
  rw [← List.append_nil ws]
  exact j_cmV F hw hM hk hd hR q (by rw [List.append_nil]; exact hq) hc hst hW hcn (fun v w1 h => by rw [List.append_nil]; exact K v w1 h)
theorem j_cmS0 (F : Fx k cc own R nL) (hw : kw k = true) {y : MethodName} {ccy : ByteArray} {maxL : Nat} {ret : Option FieldType} {fr lo mc ms idx : Nat} {as : List Value} {P : Option Value → va_W → Prop} (hM : CM (kl k) (kD k) y ccy maxL ret fr lo mc ms ws as P) (hk : LkS own idx y ccy maxL ret as.length) (hd : decode cc pc = .ok (.invokestatic idx, 3)) (hR : fr + 1 ≤ R.frames ∧ 8 + (maxL + 11) + lo ≤ R.locals)
    (hst : stk = as.reverse ++ st) (hW : (st.map fun v => v.category).sum ≤ 8) (hcn : c + mc ≤ R.cells ∧ n + ms ≤ R.slots) (K : ∀ v w1, P v w1 → J k w1 (c + mc) (n + ms) (pc + 3) lv (vlist v st)) : J k ws c n pc lv stk := by
  rw [← List.append_nil ws]
  exact j_cmS F hw hM hk hd hR hst hW hcn (fun v w1 h => by rw [List.append_nil]; exact K v w1 h)
end LCALLS
abbrev tyOA : FieldType := .array (.object "java/lang/Object")
theorem qJ_newLen (l : Launch) (hst : l.stackTraces = false) (D : va_G) (a b d : Nat) (ha : a ≤ 1000) (hb : 0 < b ∧ b ≤ 1000) (hd : d ≤ 1000) : CR l D yJ8_newLength_cabcc cJ8_newLength_cabcc 4 (some .int) 1 30 [] [.int (nI a), .int (nI b), .int (nI d)] (.int (nI (a + max b d))) := by
  refine CR_of [some (.int (nI a)), some (.int (nI b)), some (.int (nI d)), none] hst (by decide +kernel) rfl (Nat.le_of_ble_eq_true rfl) (fun k F hl hD hR => ?_)
  subst hl hD
  have em : (if nI b < nI d then nI d else nI b) = nI (max b d) := by
    by_cases h : b < d
    · rw [if_pos (nI_lt h (by omega)), Nat.max_eq_right (by omega)]
    · rw [if_neg (nI_nlt (by omega) (by omega)), Nat.max_eq_left (by omega)]
  have hm : max b d ≤ 1000 := by omega
  refine j_iloadn F dJ8_newLength_cabcc_0 rfl ?_
  refine j_iloadn F dJ8_newLength_cabcc_1 rfl ?_
  refine j_iloadn F dJ8_newLength_cabcc_2 rfl ?_
  refine j_mmax F um_J8_194 us_max ui_Math ud_max dJ8_newLength_cabcc_3 ⟨(Nat.le_of_ble_eq_true rfl), (Nat.le_of_ble_eq_true rfl), (Nat.le_of_ble_eq_true rfl), (Nat.le_of_ble_eq_true rfl)⟩ ?_
  rw [em]
  refine j_iadd F dJ8_newLength_cabcc_6 ?_
  rw [nI_add]
  refine j_istoren F [some (.int (nI a)), some (.int (nI b)), some (.int (nI d)), some (.int (nI (a + max b d)))] dJ8_newLength_cabcc_7 rfl rfl rfl ?_
  refine j_iconst F (v := 0) dJ8_newLength_cabcc_8 (by decide) ?_
  refine j_iloadn F dJ8_newLength_cabcc_9 rfl ?_
  refine j_icge F (tgt := 21) dJ8_newLength_cabcc_10 (by decide) (fun h => absurd h (nI_ge (a := 0) (by omega) (by omega))) (fun _ => ?_)
  refine j_iloadn F dJ8_newLength_cabcc_13 rfl ?_
  refine j_ldc F uc_J8_200 dJ8_newLength_cabcc_14 ?_
  refine j_icgt F (tgt := 21) dJ8_newLength_cabcc_16 (by decide) (fun h => ?_) (fun _ => ?_)
  · rw [Int32.lt_iff_toInt_lt, nI_toInt (by omega)] at h
    exact absurd h (by have : (2147483639 : Int32).toInt = 2147483639 := by decide
                       omega)
  refine j_iloadn F dJ8_newLength_cabcc_19 rfl ?_
  exact j_iretR F hR dJ8_newLength_cabcc_20 rfl
theorem qJ_copy3 (l : Launch) (hst : l.stackTraces = false) (D : va_G) (a0 n0 n1 : Nat) (f : Nat → Option Nat) (els : va_W) {ci NN : Nat} {C : String} {T : u_T} (hn : n0 ≤ n1 ∧ n1 ≤ 30) (hca : (C, "java/lang/Object") ∈ cas) (hc : vwCl[ci]? = some (C, T, NN)) (hel : ∀ i, i < n0 → ∀ y, f i = some y → ∃ fs, (y, .inr (ci, fs)) ∈ els) : CM l D yJ7_copyOf_6403c cJ7_copyOf_6403c 4 (some tyOA) 1 60 1 30 (aob D a0 n0 f :: els) [.ref a0, .int (nI n1), .ref (dM D)] (fun u w => ∃ q, u = some (.ref q) ∧ w = aob D a0 n0 f :: aob D q n1 (va_cpy f (fun _ => none) 0 0 n0) :: els) := by
  refine CM_of [some (.ref a0), some (.int (nI n1)), some (.ref (dM D)), none] hst (by decide +kernel) rfl (Nat.le_of_ble_eq_true rfl) (fun k F hl hD hin hR => ?_)
  subst hl hD
  obtain ⟨hn1, hn2⟩ := hn
  refine j_aloadn F dJ7_copyOf_6403c_0 rfl ?_
  refine j_ldcM F dJ7_copyOf_6403c_1 ?_
  refine j_st (va_rf (some (dM (kD k))) :: va_rf (some (dM (kD k))) :: []) rfl ?_
  refine j_acne F (tgt := 13) dJ7_copyOf_6403c_3 (by decide) (fun h => absurd rfl h) (fun _ => ?_)
  refine j_iloadn F dJ7_copyOf_6403c_6 rfl ?_
  refine j_newq F hR.1 rfl (by omega) ul_J7_2 dJ7_copyOf_6403c_7 (Nat.le_of_ble_eq_true rfl) (by show 0 + n1 ≤ 30; omega) (fun q => ?_)
  refine j_perm (aob (kD k) a0 n0 f :: aob (kD k) q n1 (fun _ => none) :: els) (List.Perm.cons _ (List.perm_append_comm (l₁ := els) (l₂ := [aob (kD k) q n1 (fun _ => none)]))) ?_
  refine j_goto F (tgt := 24) dJ7_copyOf_6403c_10 (by decide) ?_
  refine j_astoren F [some (.ref a0), some (.int (nI n1)), some (.ref (dM (kD k))), some (.ref q)] dJ7_copyOf_6403c_24 rfl rfl rfl ?_
  refine j_aloadn F dJ7_copyOf_6403c_25 rfl ?_
  refine j_iconst F (v := 0) dJ7_copyOf_6403c_26 (by decide) ?_
  refine j_aloadn F dJ7_copyOf_6403c_27 rfl ?_
  refine j_iconst F (v := 0) dJ7_copyOf_6403c_28 (by decide) ?_
  refine j_aloadn F dJ7_copyOf_6403c_29 rfl ?_
  refine j_alen F (t0 := 1) (v := nI n0) dJ7_copyOf_6403c_30 0 rfl rfl rfl ?_
  refine j_iloadn F dJ7_copyOf_6403c_31 rfl ?_
  refine j_mmin F um_J7_304 us_min ui_Math ud_min dJ7_copyOf_6403c_32 ⟨(Nat.le_of_ble_eq_true rfl), (Nat.le_of_ble_eq_true rfl), (Nat.le_of_ble_eq_true rfl), (by show 0 + n1 ≤ 30; omega)⟩ ?_
  rw [if_neg (nI_nlt hn1 (by omega))]
  refine j_copyq F hR.1 dJ7_copyOf_6403c_35 0 1 rfl rfl ⟨Nat.le_refl _, hn1, by omega⟩ hca hc (fun i hi y hy => ?_) ⟨(Nat.le_of_ble_eq_true rfl), (by decide +kernel)⟩ _ rfl ?_
  · obtain ⟨fs, hm⟩ := hel i hi y hy
    exact ⟨fs, List.mem_cons_of_mem _ (List.mem_cons_of_mem _ hm)⟩
  refine j_aloadn F dJ7_copyOf_6403c_38 rfl ?_
  exact j_aret F (x := some q) hR (Or.inr ⟨_, rfl⟩) dJ7_copyOf_6403c_39 (Nat.le_of_ble_eq_true rfl) (by show 0 + n1 ≤ 30; omega) ⟨q, rfl, rfl⟩
theorem qJ_copy2 (l : Launch) (hst : l.stackTraces = false) (D : va_G) (a0 n0 n1 : Nat) (f : Nat → Option Nat) (els : va_W) {ci NN : Nat} {C : String} {T : u_T} (hn : n0 ≤ n1 ∧ n1 ≤ 30) (hca : (C, "java/lang/Object") ∈ cas) (hc : vwCl[ci]? = some (C, T, NN)) (hel : ∀ i, i < n0 → ∀ y, f i = some y → ∃ fs, (y, .inr (ci, fs)) ∈ els) : CM l D yJ7_copyOf_1904c cJ7_copyOf_1904c 2 (some tyOA) 2 83 1 30 (aob D a0 n0 f :: els) [.ref a0, .int (nI n1)] (fun u w => ∃ q, u = some (.ref q) ∧ w = aob D a0 n0 f :: aob D q n1 (va_cpy f (fun _ => none) 0 0 n0) :: els) := by
  refine CM_of [some (.ref a0), some (.int (nI n1))] hst (by decide +kernel) rfl (Nat.le_of_ble_eq_true rfl) (fun k F hl hD hin hR => ?_)
  subst hl hD
  refine j_aloadn F dJ7_copyOf_1904c_0 rfl ?_
  refine j_iloadn F dJ7_copyOf_1904c_1 rfl ?_
  refine j_aloadn F dJ7_copyOf_1904c_2 rfl ?_
  refine j_getC F dJ7_copyOf_1904c_3 0 rfl ⟨(Nat.le_of_ble_eq_true rfl), (Nat.le_of_ble_eq_true rfl)⟩ ?_
  refine j_cmS0 F hR.1 (qJ_copy3 (kl k) hst (kD k) a0 n0 n1 f els hn hca hc hel) lk_J7_300 dJ7_copyOf_1904c_6 ⟨(Nat.le_of_ble_eq_true rfl), (Nat.le_of_ble_eq_true rfl)⟩ rfl (Nat.le_of_ble_eq_true rfl) ⟨(Nat.le_of_ble_eq_true rfl), (Nat.le_of_ble_eq_true rfl)⟩ (fun u w1 hp => ?_)
  obtain ⟨q, rfl, rfl⟩ := hp
  exact j_aret F (x := some q) hR (Or.inr ⟨_, rfl⟩) dJ7_copyOf_1904c_9 (Nat.le_of_ble_eq_true rfl) (Nat.le_of_ble_eq_true rfl) ⟨q, rfl, rfl⟩
/-- what the list's array has become when it grew -/
def Grown (D : va_G) (L : Nat) (m : Int32) (n : Nat) (f : Nat → Option Nat) (els : va_W) (u : Option Value) (w : va_W) : Prop := ∃ (E' cap' : Nat) (f' : Nat → Option Nat), u = some (.ref E') ∧ w = lsC L E' m n :: elC D E' cap' f' :: els ∧ n < cap' ∧ cap' ≤ 30 ∧ 10 ≤ cap' ∧ ∀ i, i < n → f' i = f i
theorem nI_half : ∀ n, n ≤ 20 → nI n >>> ((1 : Int32) &&& 31) = nI (n / 2) := by decide +kernel
theorem qJ_growI (l : Launch) (hst : l.stackTraces = false) (D : va_G) (L E n : Nat) (m : Int32) (f : Nat → Option Nat) (els : va_W) {ci NN : Nat} {C : String} {T : u_T} (hn : n ≤ 20 ∧ (n = 0 ∨ 10 ≤ n)) (hE : n = 0 → E = dE D) (hca : (C, "java/lang/Object") ∈ cas) (hc : vwCl[ci]? = some (C, T, NN)) (hel : ∀ i, i < n → ∀ y, f i = some y → ∃ fs, (y, .inr (ci, fs)) ∈ els) : CM l D yJx4a65c_grow_92f84 cJx4a65c_grow_92f84 4 (some tyOA) 3 104 1 30 (LW D L (E, m, n, f) n ++ els) [.ref L, .int (nI (n + 1))] (Grown D L m n f els) := by
  refine CM_of [some (.ref L), some (.int (nI (n + 1))), none, none] hst (by decide +kernel) rfl (Nat.le_of_ble_eq_true rfl) (fun k F hl hD hin hR => ?_)
  subst hl hD
  obtain ⟨hn2, hn3⟩ := hn
  by_cases h0 : n = 0
  · subst h0
    have hE := hE rfl
    subst hE
    refine j_ws (lsC L (dE (kD k)) m 0 :: els) rfl ?_
    refine j_aloadn F dJx4a65c_grow_92f84_0 rfl ?_
    refine gf_Jx4a65c_9 F (v := .ref (dE (kD k))) dJx4a65c_grow_92f84_1 0 rfl rfl ?_
    refine j_tlen F hR.1 dJx4a65c_grow_92f84_4 ?_
    refine j_istoren F [some (.ref L), some (.int (nI (0 + 1))), some (.int 0), none] dJx4a65c_grow_92f84_5 rfl rfl rfl ?_
    refine j_iloadn F dJx4a65c_grow_92f84_6 rfl ?_
    refine j_ifgt F (tgt := 20) dJx4a65c_grow_92f84_7 (by decide) (fun h => absurd h (by decide)) (fun _ => ?_)
    refine j_aloadn F dJx4a65c_grow_92f84_10 rfl ?_
    refine gf_Jx4a65c_9 F (v := .ref (dE (kD k))) dJx4a65c_grow_92f84_11 0 rfl rfl ?_
    refine j_gs39 F hR.1 dJx4a65c_grow_92f84_14 ?_
    refine j_st (va_rf (some (dE (kD k))) :: va_rf (some (dE (kD k))) :: []) rfl ?_
    refine j_aceq F (tgt := 45) dJx4a65c_grow_92f84_17 (by decide) (fun _ => ?_) (fun h => absurd rfl h)
    refine j_aloadn F dJx4a65c_grow_92f84_45 rfl ?_
    refine j_bipush F (v := 10) dJx4a65c_grow_92f84_46 (by decide) ?_
    refine j_iloadn F dJx4a65c_grow_92f84_48 rfl ?_
    refine j_mmax F um_Jx4a65c_79 us_max ui_Math ud_max dJx4a65c_grow_92f84_49 ⟨(Nat.le_of_ble_eq_true rfl), (Nat.le_of_ble_eq_true rfl), (Nat.le_of_ble_eq_true rfl), (Nat.le_of_ble_eq_true rfl)⟩ ?_
    refine j_newq F hR.1 (N := 10) (by decide) (by decide) ul_Jx4a65c_7 dJx4a65c_grow_92f84_52 (Nat.le_of_ble_eq_true rfl) (Nat.le_of_ble_eq_true rfl) (fun q => ?_)
    refine j_perm (lsC L (dE (kD k)) m 0 :: aob (kD k) q 10 (fun _ => none) :: els) (List.Perm.cons _ (List.perm_append_comm (l₁ := els) (l₂ := [aob (kD k) q 10 (fun _ => none)]))) ?_
    refine j_dupx1 F dJx4a65c_grow_92f84_55 rfl rfl ?_
    refine pf_Jx4a65c_9 F hR.1 dJx4a65c_grow_92f84_56 rfl rfl 0 rfl (Nat.le_of_ble_eq_true rfl) (lsC L q m 0 :: aob (kD k) q 10 (fun _ => none) :: els) rfl ?_
    exact j_aret F (x := some q) hR (Or.inr ⟨_, rfl⟩) dJx4a65c_grow_92f84_59 (Nat.le_of_ble_eq_true rfl) (Nat.le_of_ble_eq_true rfl) ⟨q, 10, _, rfl, rfl, by decide, by decide, by decide, fun i hi => absurd hi (Nat.not_lt_zero _)⟩
  · have h10 : 10 ≤ n := hn3.resolve_left h0
    refine j_ws (lsC L E m n :: aob (kD k) E n f :: els) (by rw [LW_two h0]; rfl) ?_
    refine j_aloadn F dJx4a65c_grow_92f84_0 rfl ?_
    refine gf_Jx4a65c_9 F (v := .ref E) dJx4a65c_grow_92f84_1 0 rfl rfl ?_
    refine j_alen F (t0 := 1) (v := nI n) dJx4a65c_grow_92f84_4 1 rfl rfl rfl ?_
    refine j_istoren F [some (.ref L), some (.int (nI (n + 1))), some (.int (nI n)), none] dJx4a65c_grow_92f84_5 rfl rfl rfl ?_
    refine j_iloadn F dJx4a65c_grow_92f84_6 rfl ?_
    refine j_ifgt F (tgt := 20) dJx4a65c_grow_92f84_7 (by decide) (fun _ => ?_) (fun h => absurd (nI_lt (a := 0) (b := n) (by omega) (by omega)) h)
    refine j_iloadn F dJx4a65c_grow_92f84_20 rfl ?_
    refine j_iloadn F dJx4a65c_grow_92f84_21 rfl ?_
    refine j_iloadn F dJx4a65c_grow_92f84_22 rfl ?_
    refine j_isub F dJx4a65c_grow_92f84_23 ?_
    rw [nI_sub (show n ≤ n + 1 from Nat.le_succ n), Nat.add_sub_cancel_left]
    refine j_iloadn F dJx4a65c_grow_92f84_24 rfl ?_
    refine j_iconst F (v := 1) dJx4a65c_grow_92f84_25 (by decide) ?_
    refine j_ishr F dJx4a65c_grow_92f84_26 ?_
    rw [nI_half n hn2]
    refine j_rdS F (qJ_newLen (kl k) hst (kD k) n 1 (n / 2) (by omega) (by decide) (by omega)) lk_Jx4a65c_73 dJx4a65c_grow_92f84_27 ⟨(Nat.le_of_ble_eq_true rfl), (Nat.le_of_ble_eq_true rfl)⟩ (fun _ h => nomatch h) rfl (Nat.le_of_ble_eq_true rfl) ⟨(Nat.le_of_ble_eq_true rfl), (Nat.le_of_ble_eq_true rfl)⟩ ?_
    refine j_istoren F [some (.ref L), some (.int (nI (n + 1))), some (.int (nI n)), some (.int (nI (n + max 1 (n / 2))))] dJx4a65c_grow_92f84_30 rfl rfl rfl ?_
    refine j_aloadn F dJx4a65c_grow_92f84_31 rfl ?_
    refine j_aloadn F dJx4a65c_grow_92f84_32 rfl ?_
    refine gf_Jx4a65c_9 F (v := .ref E) dJx4a65c_grow_92f84_33 0 rfl rfl ?_
    refine j_iloadn F dJx4a65c_grow_92f84_36 rfl ?_
    refine j_perm ((aob (kD k) E n f :: els) ++ [lsC L E m n]) (List.perm_append_comm (l₁ := [lsC L E m n]) (l₂ := aob (kD k) E n f :: els)) ?_
    refine j_cmS F hR.1 (qJ_copy2 (kl k) hst (kD k) E n (n + max 1 (n / 2)) f els ⟨by omega, by omega⟩ hca hc hel) lk_Jx4a65c_66 dJx4a65c_grow_92f84_37 ⟨(Nat.le_of_ble_eq_true rfl), (Nat.le_of_ble_eq_true rfl)⟩ rfl (Nat.le_of_ble_eq_true rfl) ⟨(Nat.le_of_ble_eq_true rfl), (Nat.le_of_ble_eq_true rfl)⟩ (fun u w1 hp => ?_)
    obtain ⟨q, rfl, rfl⟩ := hp
    refine j_perm (lsC L E m n :: aob (kD k) E n f :: aob (kD k) q (n + max 1 (n / 2)) (va_cpy f (fun _ => none) 0 0 n) :: els) (List.perm_append_comm (l₁ := aob (kD k) E n f :: aob (kD k) q (n + max 1 (n / 2)) (va_cpy f (fun _ => none) 0 0 n) :: els) (l₂ := [lsC L E m n])) ?_
    refine j_drop (lsC L E m n :: aob (kD k) q (n + max 1 (n / 2)) (va_cpy f (fun _ => none) 0 0 n) :: els) (List.Sublist.cons₂ _ (List.Sublist.cons _ (List.Sublist.refl _))) ?_
    refine j_dupx1 F dJx4a65c_grow_92f84_40 rfl rfl ?_
    refine pf_Jx4a65c_9 F hR.1 dJx4a65c_grow_92f84_41 rfl rfl 0 rfl (Nat.le_of_ble_eq_true rfl) (lsC L q m n :: aob (kD k) q (n + max 1 (n / 2)) (va_cpy f (fun _ => none) 0 0 n) :: els) rfl ?_
    refine j_aret F (x := some q) hR (Or.inr ⟨_, rfl⟩) dJx4a65c_grow_92f84_44 (Nat.le_of_ble_eq_true rfl) (Nat.le_of_ble_eq_true rfl) ⟨q, n + max 1 (n / 2), _, rfl, rfl, by omega, by omega, by omega, fun i hi => ?_⟩
    unfold va_cpy
    rw [if_pos ⟨Nat.zero_le _, by omega⟩]
    congr 1
    omega
theorem qJ_grow (l : Launch) (hst : l.stackTraces = false) (D : va_G) (L E n : Nat) (m : Int32) (f : Nat → Option Nat) (els : va_W) {ci NN : Nat} {C : String} {T : u_T} (hn : n ≤ 20 ∧ (n = 0 ∨ 10 ≤ n)) (hE : n = 0 → E = dE D) (hca : (C, "java/lang/Object") ∈ cas) (hc : vwCl[ci]? = some (C, T, NN)) (hel : ∀ i, i < n → ∀ y, f i = some y → ∃ fs, (y, .inr (ci, fs)) ∈ els) : CM l D yJx4a65c_grow_d5877 cJx4a65c_grow_d5877 1 (some tyOA) 4 130 1 30 (LW D L (E, m, n, f) n ++ els) [.ref L] (Grown D L m n f els) := by
  refine CM_of [some (.ref L)] hst (by decide +kernel) rfl (Nat.le_of_ble_eq_true rfl) (fun k F hl hD hin hR => ?_)
  subst hl hD
  refine j_aloadn F dJx4a65c_grow_d5877_0 rfl ?_
  refine j_aloadn F dJx4a65c_grow_d5877_1 rfl ?_
  refine gf_Jx4a65c_48 F (v := .int (nI n)) dJx4a65c_grow_d5877_2 0 rfl rfl ?_
  refine j_iconst F (v := 1) dJx4a65c_grow_d5877_5 (by decide) ?_
  refine j_iaddN F (a := n) (b := 1) dJx4a65c_grow_d5877_6 ?_
  refine j_cmV0 F hR.1 (qJ_growI (kl k) hst (kD k) L E n m f els hn hE hca hc hel) lk_Jx4a65c_69 dJx4a65c_grow_d5877_7 ⟨(Nat.le_of_ble_eq_true rfl), (Nat.le_of_ble_eq_true rfl)⟩ 0 rfl rfl rfl (Nat.le_of_ble_eq_true rfl) ⟨(Nat.le_of_ble_eq_true rfl), (Nat.le_of_ble_eq_true rfl)⟩ (fun u w1 hp => ?_)
  obtain ⟨E', cap', f', rfl, rfl, hh⟩ := hp
  exact j_aret F (x := some E') hR (Or.inr ⟨_, rfl⟩) dJx4a65c_grow_d5877_10 (Nat.le_of_ble_eq_true rfl) (Nat.le_of_ble_eq_true rfl) ⟨E', cap', f', rfl, rfl, hh⟩
/-- what the list has become when b was added -/
def Added (D : va_G) (L : Nat) (m : Int32) (n b : Nat) (f : Nat → Option Nat) (els : va_W) (w : va_W) : Prop := ∃ (E' cap' : Nat) (f' : Nat → Option Nat), w = lsC L E' m (n + 1) :: elC D E' cap' f' :: els ∧ n < cap' ∧ cap' ≤ 100 ∧ 10 ≤ cap' ∧ (∀ i, i < n → f' i = f i) ∧ f' n = some b
theorem qJ_add3 (l : Launch) (hst : l.stackTraces = false) (D : va_G) (L E n cap b : Nat) (m : Int32) (f : Nat → Option Nat) (els : va_W) {ci NN : Nat} {C : String} {T : u_T} {vs : List Value} (hn : n ≤ 20 ∧ n ≤ cap ∧ cap ≤ 100 ∧ (cap = 0 ∨ 10 ≤ cap)) (hE : cap = 0 → E = dE D) (hca : (C, "java/lang/Object") ∈ cas) (hc : vwCl[ci]? = some (C, T, NN)) (hel : ∀ i, i < n → ∀ y, f i = some y → ∃ fs, (y, .inr (ci, fs)) ∈ els) (hb : (b, .inr (ci, vs)) ∈ els) : CM l D yJx4a65c_add_72be8 cJx4a65c_add_72be8 4 none 5 150 1 30 (LW D L (E, m, cap, f) n ++ els) [.ref L, .ref b, .ref E, .int (nI n)] (fun u w => u = none ∧ Added D L m n b f els w) := by
  refine CM_of [some (.ref L), some (.ref b), some (.ref E), some (.int (nI n))] hst (by decide +kernel) rfl (Nat.le_of_ble_eq_true rfl) (fun k F hl hD hin hR => ?_)
  subst hl hD
  obtain ⟨hn1, hn2, hn3, hn4⟩ := hn
  have tail : ∀ (E' cap' : Nat) (f' : Nat → Option Nat) (cc nn : Nat), cc ≤ 1 → nn ≤ 30 → n < cap' → cap' ≤ 100 → 10 ≤ cap' → (∀ i, i < n → f' i = f i) → J k (lsC L E' m n :: elC (kD k) E' cap' f' :: els) cc nn 11 [some (.ref L), some (.ref b), some (.ref E'), some (.int (nI n))] [] := by
    intro E' cap' f' cc nn h1 h2 h3 h4 h5 h6
    refine j_aloadn F dJx4a65c_add_72be8_11 rfl ?_
    refine j_iloadn F dJx4a65c_add_72be8_12 rfl ?_
    refine j_aloadn F dJx4a65c_add_72be8_13 rfl ?_
    refine j_astq F hR.1 dJx4a65c_add_72be8_14 1 rfl hca (List.mem_cons_of_mem _ (List.mem_cons_of_mem _ hb)) hc (vp_in_nI h3 (by omega)) (lsC L E' m n :: elC (kD k) E' cap' (va_up f' n (some b)) :: els) (by rw [ix_nI (by omega)]; rfl) ?_
    refine j_aloadn F dJx4a65c_add_72be8_15 rfl ?_
    refine j_iloadn F dJx4a65c_add_72be8_16 rfl ?_
    refine j_iconst F (v := 1) dJx4a65c_add_72be8_17 (by decide) ?_
    refine j_iaddN F (a := n) (b := 1) dJx4a65c_add_72be8_18 ?_
    refine pf_Jx4a65c_48 F hR.1 dJx4a65c_add_72be8_19 rfl rfl 0 rfl (Nat.le_of_ble_eq_true rfl) (lsC L E' m (n + 1) :: elC (kD k) E' cap' (va_up f' n (some b)) :: els) rfl ?_
    refine j_vret F hR dJx4a65c_add_72be8_22 h1 h2 ⟨rfl, E', cap', _, rfl, h3, h4, h5, fun i hi => ?_, up_self⟩
    rw [up_ne (by omega)]
    exact h6 i hi
  refine j_iloadn F dJx4a65c_add_72be8_0 rfl ?_
  refine j_aloadn F dJx4a65c_add_72be8_1 rfl ?_
  have hgrow : n = cap → J k (LW (kD k) L (E, m, cap, f) n ++ els) 0 0 6 [some (.ref L), some (.ref b), some (.ref E), some (.int (nI n))] [] := by
    intro e
    subst e
    refine j_aloadn F dJx4a65c_add_72be8_6 rfl ?_
    refine j_cmV0 F hR.1 (qJ_grow (kl k) hst (kD k) L E n m f els ⟨hn1, hn4⟩ hE hca hc hel) lk_Jx4a65c_129 dJx4a65c_add_72be8_7 ⟨(Nat.le_of_ble_eq_true rfl), (Nat.le_of_ble_eq_true rfl)⟩ 0 rfl rfl rfl (Nat.le_of_ble_eq_true rfl) ⟨(Nat.le_of_ble_eq_true rfl), (Nat.le_of_ble_eq_true rfl)⟩ (fun u w1 hp => ?_)
    obtain ⟨E', cap', f', rfl, rfl, h1, h2, h3, h4⟩ := hp
    refine j_astoren F [some (.ref L), some (.ref b), some (.ref E'), some (.int (nI n))] dJx4a65c_add_72be8_10 rfl rfl rfl ?_
    exact tail E' cap' f' _ _ (Nat.le_of_ble_eq_true rfl) (Nat.le_of_ble_eq_true rfl) h1 (by omega) h3 h4
  by_cases h0 : cap = 0
  · have hE := hE h0
    subst hE h0
    obtain rfl : n = 0 := by omega
    refine j_tlen F hR.1 dJx4a65c_add_72be8_2 ?_
    refine j_icne F (tgt := 11) dJx4a65c_add_72be8_3 (by decide) (fun h => absurd rfl h) (fun _ => ?_)
    exact hgrow rfl
  · refine j_alen F (t0 := 1) (v := nI cap) dJx4a65c_add_72be8_2 1 (by rw [LW_two h0]; rfl) rfl rfl ?_
    refine j_icne F (tgt := 11) dJx4a65c_add_72be8_3 (by decide) (fun h => ?_) (fun h => ?_)
    · refine j_ws (lsC L E m n :: elC (kD k) E cap f :: els) (by rw [LW_two h0]; rfl) ?_
      exact tail E cap f 0 0 (by decide) (by decide) (by rcases Nat.lt_or_ge n cap with z | z; exact z; exact absurd (by rw [show n = cap by omega]) h) hn3 (hn4.resolve_left h0) (fun _ _ => rfl)
    · exact hgrow ((nI_eq (by omega) (by omega)).mp h)
theorem qJ_add (l : Launch) (hst : l.stackTraces = false) (D : va_G) (L E n cap b : Nat) (m : Int32) (f : Nat → Option Nat) (els : va_W) {ci NN : Nat} {C : String} {T : u_T} {vs : List Value} (hn : n ≤ 20 ∧ n ≤ cap ∧ cap ≤ 100 ∧ (cap = 0 ∨ 10 ≤ cap)) (hE : cap = 0 → E = dE D) (hca : (C, "java/lang/Object") ∈ cas) (hc : vwCl[ci]? = some (C, T, NN)) (hel : ∀ i, i < n → ∀ y, f i = some y → ∃ fs, (y, .inr (ci, fs)) ∈ els) (hb : (b, .inr (ci, vs)) ∈ els) : CM l D yJx4a65c_add_9ea2d cJx4a65c_add_9ea2d 2 (some .boolean) 6 180 1 30 (LW D L (E, m, cap, f) n ++ els) [.ref L, .ref b] (fun u w => u = some (.int (b1 true)) ∧ Added D L (m + 1) n b f els w) := by
  refine CM_of [some (.ref L), some (.ref b)] hst (by decide +kernel) rfl (Nat.le_of_ble_eq_true rfl) (fun k F hl hD hin hR => ?_)
  subst hl hD
  refine j_aloadn F dJx4a65c_add_9ea2d_0 rfl ?_
  refine j_dup F dJx4a65c_add_9ea2d_1 rfl ?_
  refine gf_Jx4a65c_63 F (v := .int m) dJx4a65c_add_9ea2d_2 0 rfl rfl ?_
  refine j_iconst F (v := 1) dJx4a65c_add_9ea2d_5 (by decide) ?_
  refine j_iadd F dJx4a65c_add_9ea2d_6 ?_
  refine pf_Jx4a65c_63 F hR.1 dJx4a65c_add_9ea2d_7 rfl rfl 0 rfl (Nat.le_of_ble_eq_true rfl) (LW (kD k) L (E, m + 1, cap, f) n ++ els) rfl ?_
  refine j_aloadn F dJx4a65c_add_9ea2d_10 rfl ?_
  refine j_aloadn F dJx4a65c_add_9ea2d_11 rfl ?_
  refine j_aloadn F dJx4a65c_add_9ea2d_12 rfl ?_
  refine gf_Jx4a65c_9 F (v := .ref E) dJx4a65c_add_9ea2d_13 0 rfl rfl ?_
  refine j_aloadn F dJx4a65c_add_9ea2d_16 rfl ?_
  refine gf_Jx4a65c_48 F (v := .int (nI n)) dJx4a65c_add_9ea2d_17 0 rfl rfl ?_
  refine j_cmV0 F hR.1 (qJ_add3 (kl k) hst (kD k) L E n cap b (m + 1) f els hn hE hca hc hel hb) lk_Jx4a65c_131 dJx4a65c_add_9ea2d_20 ⟨(Nat.le_of_ble_eq_true rfl), (Nat.le_of_ble_eq_true rfl)⟩ 0 rfl rfl rfl (Nat.le_of_ble_eq_true rfl) ⟨(Nat.le_of_ble_eq_true rfl), (Nat.le_of_ble_eq_true rfl)⟩ (fun u w1 hp => ?_)
  obtain ⟨rfl, hp⟩ := hp
  refine j_iconst F (v := 1) dJx4a65c_add_9ea2d_23 (by decide) ?_
  exact j_zret F (b := true) hR dJx4a65c_add_9ea2d_24 (Nat.le_of_ble_eq_true rfl) (Nat.le_of_ble_eq_true rfl) rfl ⟨rfl, hp⟩
/-! its constructors -/
theorem qJ_coll (l : Launch) (hst : l.stackTraces = false) (D : va_G) (L : Nat) : CM l D yJxa1e45_init_da8c8 cJxa1e45_init_da8c8 1 none 1 20 0 0 [] [.ref L] (dP none []) := by
  refine CM_of [some (.ref L)] hst (by decide +kernel) rfl (Nat.le_of_ble_eq_true rfl) (fun k F hl hD hin hR => ?_)
  subst hl hD
  refine j_aloadn F dJxa1e45_init_da8c8_0 rfl ?_
  refine j_objInit F um_Jxa1e45_1 un_objectInit ud_objectInit dJxa1e45_init_da8c8_1 ⟨(Nat.le_of_ble_eq_true rfl), (Nat.le_of_ble_eq_true rfl)⟩ ?_
  exact j_vret F hR dJxa1e45_init_da8c8_4 (Nat.le_of_ble_eq_true rfl) (Nat.le_of_ble_eq_true rfl) ⟨rfl, rfl⟩
theorem qJ_alist (l : Launch) (hst : l.stackTraces = false) (D : va_G) (L : Nat) : CM l D yJxc12de_init_da8c8 cJxc12de_init_da8c8 1 none 2 40 0 0 [(L, .inr (0, [.int 0, .null, .int 0]))] [.ref L] (dP none [(L, .inr (0, [.int 0, .null, .int 0]))]) := by
  refine CM_of [some (.ref L)] hst (by decide +kernel) rfl (Nat.le_of_ble_eq_true rfl) (fun k F hl hD hin hR => ?_)
  subst hl hD
  refine j_aloadn F dJxc12de_init_da8c8_0 rfl ?_
  refine j_ws ([] ++ [(L, .inr (0, [.int 0, .null, .int 0]))]) rfl ?_
  refine j_cmI F hR.1 (qJ_coll (kl k) hst (kD k) L) lk_Jxc12de_1 dJxc12de_init_da8c8_1 ⟨(Nat.le_of_ble_eq_true rfl), (Nat.le_of_ble_eq_true rfl)⟩ rfl (Nat.le_of_ble_eq_true rfl) ⟨(Nat.le_of_ble_eq_true rfl), (Nat.le_of_ble_eq_true rfl)⟩ (fun u w1 hp => ?_)
  obtain ⟨rfl, rfl⟩ := hp
  refine j_aloadn F dJxc12de_init_da8c8_4 rfl ?_
  refine j_iconst F (v := 0) dJxc12de_init_da8c8_5 (by decide) ?_
  refine pf_Jxc12de_7 F hR.1 dJxc12de_init_da8c8_6 rfl rfl 0 rfl (Nat.le_of_ble_eq_true rfl) [(L, .inr (0, [.int 0, .null, .int 0]))] rfl ?_
  exact j_vret F hR dJxc12de_init_da8c8_9 (Nat.le_of_ble_eq_true rfl) (Nat.le_of_ble_eq_true rfl) ⟨rfl, rfl⟩
theorem qJ_init (l : Launch) (hst : l.stackTraces = false) (D : va_G) (L : Nat) : CM l D yJx4a65c_init_da8c8 cJx4a65c_init_da8c8 1 none 3 60 0 0 [(L, .inr (0, [.int 0, .null, .int 0]))] [.ref L] (dP none [lsC L (dE D) 0 0]) := by
  refine CM_of [some (.ref L)] hst (by decide +kernel) rfl (Nat.le_of_ble_eq_true rfl) (fun k F hl hD hin hR => ?_)
  subst hl hD
  refine j_aloadn F dJx4a65c_init_da8c8_0 rfl ?_
  refine j_ws ([(L, .inr (0, [.int 0, .null, .int 0]))] ++ []) rfl ?_
  refine j_cmI F hR.1 (qJ_alist (kl k) hst (kD k) L) lk_Jx4a65c_1 dJx4a65c_init_da8c8_1 ⟨(Nat.le_of_ble_eq_true rfl), (Nat.le_of_ble_eq_true rfl)⟩ rfl (Nat.le_of_ble_eq_true rfl) ⟨(Nat.le_of_ble_eq_true rfl), (Nat.le_of_ble_eq_true rfl)⟩ (fun u w1 hp => ?_)
  obtain ⟨rfl, rfl⟩ := hp
  refine j_aloadn F dJx4a65c_init_da8c8_4 rfl ?_
  refine j_gs39 F hR.1 dJx4a65c_init_da8c8_5 ?_
  refine pf_Jx4a65c_9 F hR.1 dJx4a65c_init_da8c8_8 rfl rfl 0 rfl (Nat.le_of_ble_eq_true rfl) [lsC L (dE (kD k)) 0 0] rfl ?_
  exact j_vret F hR dJx4a65c_init_da8c8_11 (Nat.le_of_ble_eq_true rfl) (Nat.le_of_ble_eq_true rfl) ⟨rfl, rfl⟩
