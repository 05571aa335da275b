theorem MI_pmHB {s t : S2} {i : Nat} (h : MI t) : MI (M_pmHB s i t) := by
  unfold M_pmHB
  split
  · exact h
  · split
    · exact h
    · exact MI_leave h (by decide)
theorem MI_pmH {s : S2} (h : MI s) : ∀ n, MI (M_pmH s n)
  | 0 => h
  | n + 1 => MI_pmHB (MI_pmH h n)
theorem MI_pmGB {s t : S2} {i : Nat} (h : MI t) : MI (M_pmGB s i t) := by
  unfold M_pmGB
  have hn := M_nextOf_in (a := nI i) h
  split
  · split
    · split
      · exact h
      · split
        · exact MI_u2 (by decide) (MI_u2 (by decide) (MI_state (MI_hand h hn) (by decide)))
        · exact MI_u2 (by decide) (MI_state (MI_hand h hn) (by decide))
    · exact h
  · exact h
theorem MI_pmG {s : S2} (h : MI s) : ∀ n, MI (M_pmG s n)
  | 0 => h
  | n + 1 => MI_pmGB (MI_pmG h n)
theorem MI_pmAB {s t : S2} {i : Nat} (h : MI t) : MI (M_pmAB s i t) := by
  unfold M_pmAB
  split <;> exact MI_u2 (by decide) h
theorem MI_pmA {s : S2} (h : MI s) : ∀ n, MI (M_pmA s n)
  | 0 => h
  | n + 1 => MI_pmAB (MI_pmA h n)
theorem MI_pmWB {s t : S2} {i : Nat} {x : Int32} (h : MI t) : MI (M_pmWB s i x t).2 := by
  unfold M_pmWB
  split
  · exact h
  · split
    · exact MI_u2 (by decide) (M_leave_note (MI_u2 (by decide) (MI_u2 (by decide) h)) (by decide))
    · exact MI_u2 (by decide) (MI_u2 (by decide) h)
theorem MI_pmW {s : S2} (h : MI s) : ∀ n, MI (M_pmW s n).2
  | 0 => h
  | n + 1 => MI_pmWB (MI_pmW h n)
theorem MI_passMinute {s : S2} (h : MI s) : MI (M_passMinute s).2 := by
  unfold M_passMinute
  split
  · exact MI_u0 (by decide) (MI_pmW (MI_pmA (MI_pmG (MI_pmH h _) _) _) _)
  · exact MI_u0 (by decide) (MI_pmW (MI_pmG (MI_pmH h _) _) _)
theorem isIn_nI {x : Int32} {m : Nat} (hm : m < 2 ^ 31) (h : M_isIn x 1 (nI m) = true) : x = nI (ix x) ∧ ix x ≤ m := by
  obtain ⟨h1, h2⟩ := isIn_iff.mp h
  have h0 : ¬ x < 0 := fun z => by
    rw [Int32.lt_iff_toInt_lt] at z
    rw [Int32.le_iff_toInt_le] at h1
    simp at z h1
    omega
  obtain ⟨j, hj, rfl⟩ := nI_of2 (nI_toInt hm) h0 h2
  rw [ix_nI (by omega)]
  exact ⟨rfl, hj⟩
section JX5
variable {k : Kx} {cc : ByteArray} {own : String} {R : Room} {nL : Nat} {ws : va_W} {c n pc : Nat} {lv : List (Option Value)} {st : List Value}
theorem j_icgeE (F : Fx k cc own R nL) {x : Nat} {z : Int32} {y : Nat} (hz : z = nI y) {off : Int} {tgt : Nat} (hd : decode cc pc = .ok (.if_icmp .ge off, 3)) (ht : (pc : Int) + off = (tgt : Int)) (hx : x < 2 ^ 31 ∧ y < 2 ^ 31) (K1 : y ≤ x → J k ws c n tgt lv st) (K2 : x < y → J k ws c n (pc + 3) lv st) : J k ws c n pc lv (.int z :: .int (nI x) :: st) := by
  subst hz
  exact j_icgeN F hd ht hx K1 K2
end JX5

def M_passLB (t0 : S2) (i : Nat) (x : Int32) (t : S2) : Int32 × S2 := (x + ((M_passMinute t).1), (M_passMinute t).2)
def M_passL (t0 : S2) : Nat → Int32 × S2
  | 0 => (0, t0)
  | n + 1 => M_passLB t0 n ((M_passL t0 n)).1 ((M_passL t0 n)).2
theorem M_passL_s (t0 : S2) (n : Nat) : M_passL t0 (n + 1) = M_passLB t0 n ((M_passL t0 n)).1 ((M_passL t0 n)).2 := rfl
def M_pass (s : S2) (p0 : Int32) : Int32 × S2 := if (M_isIn p0 1 600) = true then (if ((s 0 1) + p0) ≤ 99999 then ((M_passL (u2 s 0 0 0) (ix p0)).1, (M_passL (u2 s 0 0 0) (ix p0)).2) else ((M_no (u2 s 0 0 0) 2).1, (M_no (u2 s 0 0 0) 2).2)) else ((M_no (u2 s 0 0 0) 1).1, (M_no (u2 s 0 0 0) 1).2)
set_option maxHeartbeats 4000000 in
set_option maxRecDepth 100000 in
theorem qX4_pass (l : Launch) (hst : l.stackTraces = false) (D : va_G) (d : Nat → Nat) (s : S2) (p0 : Int32) (hI : MI s) : CM l D yX4_pass cX4_pass 4 (some .int) 4 91 0 0 (MW D d s) [.ref (d 0), .int p0] (dP (some (.int ((M_pass s p0).1))) (MW D d (M_pass s p0).2)) := by
  refine CM_of [some (.ref (d 0)), some (.int p0), none, none] hst (by decide +kernel) rfl (Nat.le_of_ble_eq_true rfl) (fun k F hl hD hin hR => ?_)
  subst hl hD
  refine j_aloadn F dX4_pass_0 rfl ?_
  refine j_iconst F (v := 0) dX4_pass_1 (by decide) ?_
  refine pf_X4_77 F hR.1 dX4_pass_2 rfl rfl 0 rfl (Nat.le_of_ble_eq_true rfl) (MW (kD k) d (u2 s 0 0 0)) (mp_0 _ _ _ _) ?_
  refine j_iloadn F dX4_pass_5 rfl ?_
  refine j_iconst F (v := 1) dX4_pass_6 (by decide) ?_
  refine j_sipush F (v := 600) dX4_pass_7 (by decide) ?_
  refine j_rdS F (qX4_isIn (kl k) hst (kD k) p0 1 600) lk_X4_83 dX4_pass_10 ⟨(Nat.le_of_ble_eq_true rfl), (Nat.le_of_ble_eq_true rfl)⟩ (fun _ h => nomatch h) rfl (Nat.le_of_ble_eq_true rfl) ⟨(Nat.le_of_ble_eq_true rfl), (Nat.le_of_ble_eq_true rfl)⟩ ?_
  refine j_ifbne F (tgt := 22) dX4_pass_13 (by decide) (fun h13 => ?_) (fun h13 => ?_)
  · refine j_aloadn F dX4_pass_22 rfl ?_
    refine gf_X4_94 F (v := .int (s 0 1)) dX4_pass_23 0 rfl rfl ?_
    refine j_iloadn F dX4_pass_26 rfl ?_
    refine j_iadd F dX4_pass_27 ?_
    refine j_ldc F uc_X4_106 dX4_pass_28 ?_
    refine j_icle F (tgt := 39) dX4_pass_30 (by decide) (fun h30 => ?_) (fun h30 => ?_)
    · refine j_iconst F (v := 0) dX4_pass_39 (by decide) ?_
      refine j_istoren F [some (.ref (d 0)), some (.int p0), some (.int 0), none] dX4_pass_40 rfl rfl rfl ?_
      refine j_iconst F (v := 0) dX4_pass_41 (by decide) ?_
      refine j_istoren F [some (.ref (d 0)), some (.int p0), some (.int 0), some (.int 0)] dX4_pass_42 rfl rfl rfl ?_
      have ep := isIn_nI (m := 600) (by decide) h13
      have ep2 := ep.2
      refine (show ∀ (fuel i : Nat) (x : Int32) (t : S2), (ix p0) - i < fuel → i ≤ (ix p0) → x = (M_passL (u2 s 0 0 0) i).1 → t = (M_passL (u2 s 0 0 0) i).2 → MI t →  J k (MW (kD k) d t) 0 0 43 [some (.ref (d 0)), some (.int p0), some (.int x), some (.int (nI i))] [] from ?_) ((ix p0) + 1) 0 0 (u2 s 0 0 0) (by omega) (Nat.zero_le _) rfl rfl (MI_u0 (by decide) hI)
      intro fu43
      induction fu43 with
      | zero => intro i x t hm; exact absurd hm (Nat.not_lt_zero _)
      | succ fu43 ih43 =>
        intro i x t hm43 hi43 hc_x hc_t hM
        refine j_iloadn F dX4_pass_43 rfl ?_
        refine j_iloadn F dX4_pass_44 rfl ?_
        refine j_icgeE F (x := i) (y := (ix p0)) ep.1 (tgt := 61) dX4_pass_45 (by decide) ⟨by omega, by omega⟩ (fun h45 => ?_) (fun h45 => ?_)
        · obtain rfl : i = (ix p0) := by omega
          subst hc_x
          subst hc_t
          refine j_iloadn F dX4_pass_61 rfl ?_
          have hz : M_pass s p0 = ((M_passL (u2 s 0 0 0) (ix p0)).1, (M_passL (u2 s 0 0 0) (ix p0)).2) := by rw [M_pass, if_pos h13, if_pos h30]
          exact j_iret F hR dX4_pass_62 (Nat.le_of_ble_eq_true rfl) (Nat.le_of_ble_eq_true rfl) ⟨by rw [hz], by rw [hz]⟩
        · refine j_iloadn F dX4_pass_48 rfl ?_
          refine j_aloadn F dX4_pass_49 rfl ?_
          refine j_dmV F hR.1 (qX4_passMinute (kl k) hst (kD k) d t hM) lk_X4_161 dX4_pass_50 ⟨(Nat.le_of_ble_eq_true rfl), (Nat.le_of_ble_eq_true rfl)⟩ 0 rfl rfl rfl (Nat.le_of_ble_eq_true rfl) ⟨(Nat.le_of_ble_eq_true rfl), (Nat.le_of_ble_eq_true rfl)⟩ rfl ?_
          refine j_iadd F dX4_pass_53 ?_
          refine j_istoren F [some (.ref (d 0)), some (.int p0), some (.int (x + ((M_passMinute t).1))), some (.int (nI i))] dX4_pass_54 rfl rfl rfl ?_
          refine j_iincN F [some (.ref (d 0)), some (.int p0), some (.int (x + ((M_passMinute t).1))), some (.int (nI (i + 1)))] dX4_pass_55 rfl rfl rfl rfl ?_
          refine j_goto F (tgt := 43) dX4_pass_58 (by decide) ?_
          exact ih43 (i + 1) (x + ((M_passMinute t).1)) ((M_passMinute t).2) (by omega) (by omega) (by rw [M_passL_s, ← hc_x, ← hc_t, M_passLB]) (by rw [M_passL_s, ← hc_x, ← hc_t, M_passLB]) ((MI_passMinute hM))
    · refine j_aloadn F dX4_pass_33 rfl ?_
      refine j_iconst F (v := 2) dX4_pass_34 (by decide) ?_
      refine j_dmV F hR.1 (qX4_no (kl k) hst (kD k) d (u2 s 0 0 0) 2) lk_X4_90 dX4_pass_35 ⟨(Nat.le_of_ble_eq_true rfl), (Nat.le_of_ble_eq_true rfl)⟩ 0 rfl rfl rfl (Nat.le_of_ble_eq_true rfl) ⟨(Nat.le_of_ble_eq_true rfl), (Nat.le_of_ble_eq_true rfl)⟩ rfl ?_
      have hz : M_pass s p0 = ((M_no (u2 s 0 0 0) 2).1, (M_no (u2 s 0 0 0) 2).2) := by rw [M_pass, if_pos h13, if_neg h30]
      exact j_iret F hR dX4_pass_38 (Nat.le_of_ble_eq_true rfl) (Nat.le_of_ble_eq_true rfl) ⟨by rw [hz], by rw [hz]⟩
  · refine j_aloadn F dX4_pass_16 rfl ?_
    refine j_iconst F (v := 1) dX4_pass_17 (by decide) ?_
    refine j_dmV F hR.1 (qX4_no (kl k) hst (kD k) d (u2 s 0 0 0) 1) lk_X4_90 dX4_pass_18 ⟨(Nat.le_of_ble_eq_true rfl), (Nat.le_of_ble_eq_true rfl)⟩ 0 rfl rfl rfl (Nat.le_of_ble_eq_true rfl) ⟨(Nat.le_of_ble_eq_true rfl), (Nat.le_of_ble_eq_true rfl)⟩ rfl ?_
    have hz : M_pass s p0 = ((M_no (u2 s 0 0 0) 1).1, (M_no (u2 s 0 0 0) 1).2) := by rw [M_pass, if_neg h13]
    exact j_iret F hR dX4_pass_21 (Nat.le_of_ble_eq_true rfl) (Nat.le_of_ble_eq_true rfl) ⟨by rw [hz], by rw [hz]⟩
def M_succLB (s : S2) (i : Nat) (x : Nat) (y : Nat) : Nat × Nat := if (s 19 i) = 3 then (if (M_breaks (u2 s 0 0 0) (nI i) false) = true then ((x + 1), (y + 0)) else ((x + 1), (y + 1))) else (x, y)
def M_succL (s : S2) : Nat → Nat × Nat
  | 0 => (0, 0)
  | n + 1 => M_succLB s n ((M_succL s n)).1 ((M_succL s n)).2
theorem M_succL_s (s : S2) (n : Nat) : M_succL s (n + 1) = M_succLB s n ((M_succL s n)).1 ((M_succL s n)).2 := rfl
def M_success (s : S2) : UInt64 × S2 := if (nI ((M_succL s (ix (s 0 14))).1)) = 0 then (FP.dconst1, u2 s 0 0 0) else (FP.ddiv (FP.i2d (nI ((M_succL s (ix (s 0 14))).2))) (FP.i2d (nI ((M_succL s (ix (s 0 14))).1))), u2 s 0 0 0)
set_option maxHeartbeats 4000000 in
set_option maxRecDepth 100000 in
theorem qX4_success (l : Launch) (hst : l.stackTraces = false) (D : va_G) (d : Nat → Nat) (s : S2) (hI : MI s) : CM l D yX4_success cX4_success 4 (some .double) 1 22 0 0 (MW D d s) [.ref (d 0)] (dP (some (.double ((M_success s).1))) (MW D d (M_success s).2)) := by
  refine CM_of [some (.ref (d 0)), none, none, none] hst (by decide +kernel) rfl (Nat.le_of_ble_eq_true rfl) (fun k F hl hD hin hR => ?_)
  subst hl hD
  have hNT := MI.nT hI
  have eNT := MI.eT hI
  refine j_aloadn F dX4_success_0 rfl ?_
  refine j_iconst F (v := 0) dX4_success_1 (by decide) ?_
  refine pf_X4_77 F hR.1 dX4_success_2 rfl rfl 0 rfl (Nat.le_of_ble_eq_true rfl) (MW (kD k) d (u2 s 0 0 0)) (mp_0 _ _ _ _) ?_
  refine j_iconst F (v := 0) dX4_success_5 (by decide) ?_
  refine j_istoren F [some (.ref (d 0)), some (.int 0), none, none] dX4_success_6 rfl rfl rfl ?_
  refine j_iconst F (v := 0) dX4_success_7 (by decide) ?_
  refine j_istoren F [some (.ref (d 0)), some (.int 0), some (.int 0), none] dX4_success_8 rfl rfl rfl ?_
  refine j_iconst F (v := 0) dX4_success_9 (by decide) ?_
  refine j_istoren F [some (.ref (d 0)), some (.int 0), some (.int 0), some (.int 0)] dX4_success_10 rfl rfl rfl ?_
  refine (show ∀ (fuel i : Nat) (x : Nat) (y : Nat), (ix (s 0 14)) - i < fuel → i ≤ (ix (s 0 14)) → x = (M_succL s i).1 → y = (M_succL s i).2 → x ≤ i ∧ y ≤ x →  J k (MW (kD k) d (u2 s 0 0 0)) 0 0 11 [some (.ref (d 0)), some (.int (nI x)), some (.int (nI y)), some (.int (nI i))] [] from ?_) ((ix (s 0 14)) + 1) 0 0 0 (by omega) (Nat.zero_le _) rfl rfl ⟨Nat.le_refl _, Nat.le_refl _⟩
  intro fu11
  induction fu11 with
  | zero => intro i x y hm; exact absurd hm (Nat.not_lt_zero _)
  | succ fu11 ih11 =>
    intro i x y hm11 hi11 hc_x hc_y hxy
    refine j_iloadn F dX4_success_11 rfl ?_
    refine j_aloadn F dX4_success_12 rfl ?_
    refine gf_X4_87 F (v := .int (nI (ix (s 0 14)))) dX4_success_13 0 rfl (mfi_14 eNT) ?_
    refine j_icgeN F (x := i) (y := (ix (s 0 14))) (tgt := 58) dX4_success_16 (by decide) ⟨by omega, by omega⟩ (fun h16 => ?_) (fun h16 => ?_)
    · obtain rfl : i = (ix (s 0 14)) := by omega
      subst hc_x
      subst hc_y
      refine j_iloadn F dX4_success_58 rfl ?_
      refine j_ifne F (tgt := 66) dX4_success_59 (by decide) (fun h59 => ?_) (fun h59 => ?_)
      · refine j_iloadn F dX4_success_66 rfl ?_
        refine j_i2d F dX4_success_67 ?_
        refine j_iloadn F dX4_success_68 rfl ?_
        refine j_i2d F dX4_success_69 ?_
        have hall : 0 < (M_succL s (ix (s 0 14))).1 := Nat.pos_of_ne_zero (fun z => h59 (by rw [z]; rfl))
        refine j_ddiv F dX4_success_70 (ddiv_ok (by omega) (by omega) hall) ?_
        have hz : M_success s = (FP.ddiv (FP.i2d (nI ((M_succL s (ix (s 0 14))).2))) (FP.i2d (nI ((M_succL s (ix (s 0 14))).1))), u2 s 0 0 0) := by rw [M_success, if_neg h59]
        exact j_dret F hR dX4_success_71 (Nat.le_of_ble_eq_true rfl) (Nat.le_of_ble_eq_true rfl) ⟨by rw [hz], by rw [hz]⟩
      · refine j_dconst1 F dX4_success_62 ?_
        refine j_goto F (tgt := 71) dX4_success_63 (by decide) ?_
        have hz : M_success s = (FP.dconst1, u2 s 0 0 0) := by rw [M_success, if_pos h59]
        exact j_dret F hR dX4_success_71 (Nat.le_of_ble_eq_true rfl) (Nat.le_of_ble_eq_true rfl) ⟨by rw [hz], by rw [hz]⟩
    · refine j_aloadn F dX4_success_19 rfl ?_
      refine gf_X4_56 F (v := .ref (d 19)) dX4_success_20 0 rfl rfl ?_
      refine j_iloadn F dX4_success_23 rfl ?_
      refine j_ialdN F dX4_success_24 (f := s 19) 14 rfl ⟨(Nat.lt_of_lt_of_le h16 hNT), by decide⟩ ?_
      refine j_iconst F (v := 3) dX4_success_25 (by decide) ?_
      refine j_iceq F (tgt := 32) dX4_success_26 (by decide) (fun h26 => ?_) (fun h26 => ?_)
      · refine j_iincN F [some (.ref (d 0)), some (.int (nI (x + 1))), some (.int (nI y)), some (.int (nI i))] dX4_success_32 rfl rfl rfl rfl ?_
        refine j_iloadn F dX4_success_35 rfl ?_
        refine j_aloadn F dX4_success_36 rfl ?_
        refine j_iloadn F dX4_success_37 rfl ?_
        refine j_iconst F (v := 0) dX4_success_38 (by decide) ?_
        refine j_rdV F (qX4_breaks (kl k) hst (kD k) d (u2 s 0 0 0) (nI i) false ((MI_u0 (by decide) hI)) ((vp_in_nI (Nat.lt_of_lt_of_le h16 hNT) (by decide)))) lk_X4_165 dX4_success_39 ⟨(Nat.le_of_ble_eq_true rfl), (Nat.le_of_ble_eq_true rfl)⟩ (fun _ h => h) 0 rfl rfl rfl (Nat.le_of_ble_eq_true rfl) ⟨(Nat.le_of_ble_eq_true rfl), (Nat.le_of_ble_eq_true rfl)⟩ ?_
        refine j_ifbeq F (tgt := 49) dX4_success_42 (by decide) (fun h42 => ?_) (fun h42 => ?_)
        · refine j_iconst F (v := 1) dX4_success_49 (by decide) ?_
          refine j_iaddN F (a := y) (b := 1) dX4_success_50 ?_
          refine j_istoren F [some (.ref (d 0)), some (.int (nI (x + 1))), some (.int (nI (y + 1))), some (.int (nI i))] dX4_success_51 rfl rfl rfl ?_
          refine j_iincN F [some (.ref (d 0)), some (.int (nI (x + 1))), some (.int (nI (y + 1))), some (.int (nI (i + 1)))] dX4_success_52 rfl rfl rfl rfl ?_
          refine j_goto F (tgt := 11) dX4_success_55 (by decide) ?_
          exact ih11 (i + 1) ((x + 1)) ((y + 1)) (by omega) (by omega) (by rw [M_succL_s, ← hc_x, ← hc_y, M_succLB, if_pos h26, if_neg h42]) (by rw [M_succL_s, ← hc_x, ← hc_y, M_succLB, if_pos h26, if_neg h42]) (⟨by omega, by omega⟩)
        · refine j_iconst F (v := 0) dX4_success_45 (by decide) ?_
          refine j_goto F (tgt := 50) dX4_success_46 (by decide) ?_
          refine j_iaddN F (a := y) (b := 0) dX4_success_50 ?_
          refine j_istoren F [some (.ref (d 0)), some (.int (nI (x + 1))), some (.int (nI (y + 0))), some (.int (nI i))] dX4_success_51 rfl rfl rfl ?_
          refine j_iincN F [some (.ref (d 0)), some (.int (nI (x + 1))), some (.int (nI (y + 0))), some (.int (nI (i + 1)))] dX4_success_52 rfl rfl rfl rfl ?_
          refine j_goto F (tgt := 11) dX4_success_55 (by decide) ?_
          exact ih11 (i + 1) ((x + 1)) ((y + 0)) (by omega) (by omega) (by rw [M_succL_s, ← hc_x, ← hc_y, M_succLB, if_pos h26, if_pos h42]) (by rw [M_succL_s, ← hc_x, ← hc_y, M_succLB, if_pos h26, if_pos h42]) (⟨by omega, by omega⟩)
      · refine j_goto F (tgt := 52) dX4_success_29 (by decide) ?_
        refine j_iincN F [some (.ref (d 0)), some (.int (nI x)), some (.int (nI y)), some (.int (nI (i + 1)))] dX4_success_52 rfl rfl rfl rfl ?_
        refine j_goto F (tgt := 11) dX4_success_55 (by decide) ?_
        exact ih11 (i + 1) x y (by omega) (by omega) (by rw [M_succL_s, ← hc_x, ← hc_y, M_succLB, if_neg h26]) (by rw [M_succL_s, ← hc_x, ← hc_y, M_succLB, if_neg h26]) (⟨by omega, by omega⟩)
def M_dgPB (s : S2) (x0 : Int64) (i : Nat) (x : Int64) : Int64 := (((x * 31) + ((s 4 i).toInt64)) * 31) + ((s 5 i).toInt64)
def M_dgP (s : S2) (x0 : Int64) : Nat → Int64
  | 0 => x0
  | n + 1 => M_dgPB s x0 n (M_dgP s x0 n)
theorem M_dgP_s (s : S2) (x0 : Int64) (n : Nat) : M_dgP s x0 (n + 1) = M_dgPB s x0 n (M_dgP s x0 n) := rfl
def M_dgAiB (s : S2) (i : Nat) (x0 : Int64) (j : Nat) (v : Int64) : Int64 := (v * 31) + ((M_toldAgent (u2 s 0 0 0) (nI i) (nI j)).toInt64)
def M_dgAi (s : S2) (i : Nat) (x0 : Int64) : Nat → Int64
  | 0 => x0
  | n + 1 => M_dgAiB s i x0 n (M_dgAi s i x0 n)
theorem M_dgAi_s (s : S2) (i : Nat) (x0 : Int64) (n : Nat) : M_dgAi s i x0 (n + 1) = M_dgAiB s i x0 n (M_dgAi s i x0 n) := rfl
def M_dgAB (s : S2) (x0 : Int64) (i : Nat) (y : Int64) : Int64 := M_dgAi s i ((y * 31) + ((s 7 i).toInt64)) 4
def M_dgA (s : S2) (x0 : Int64) : Nat → Int64
  | 0 => x0
  | n + 1 => M_dgAB s x0 n (M_dgA s x0 n)
theorem M_dgA_s (s : S2) (x0 : Int64) (n : Nat) : M_dgA s x0 (n + 1) = M_dgAB s x0 n (M_dgA s x0 n) := rfl
def M_dgTiB (s : S2) (i : Nat) (x0 : Int64) (j : Nat) (w : Int64) : Int64 := (w * 31) + ((M_toldTicket (u2 s 0 0 0) (nI i) (nI j)).toInt64)
def M_dgTi (s : S2) (i : Nat) (x0 : Int64) : Nat → Int64
  | 0 => x0
  | n + 1 => M_dgTiB s i x0 n (M_dgTi s i x0 n)
theorem M_dgTi_s (s : S2) (i : Nat) (x0 : Int64) (n : Nat) : M_dgTi s i x0 (n + 1) = M_dgTiB s i x0 n (M_dgTi s i x0 n) := rfl
def M_dgTB (s : S2) (x0 : Int64) (i : Nat) (z : Int64) : Int64 := ((((M_dgTi s i ((z * 31) + ((s 15 i).toInt64)) 8) * 31) + ((M_mainOf (u2 s 0 0 0) (nI i)).toInt64)) * 31) + ((M_customersOf (u2 s 0 0 0) (nI i)).toInt64)
def M_dgT (s : S2) (x0 : Int64) : Nat → Int64
  | 0 => x0
  | n + 1 => M_dgTB s x0 n (M_dgT s x0 n)
theorem M_dgT_s (s : S2) (x0 : Int64) (n : Nat) : M_dgT s x0 (n + 1) = M_dgTB s x0 n (M_dgT s x0 n) := rfl
def M_digest (s : S2) : Int64 × S2 := (M_dgT s (((M_dgA s (((M_dgP s (((((5983 + ((s 0 1).toInt64)) * 31) + ((s 0 2).toInt64)) * 31) + ((s 0 3).toInt64)) 4) * 31) + ((s 0 6).toInt64)) (ix (s 0 6))) * 31) + ((s 0 14).toInt64)) (ix (s 0 14)), u2 s 0 0 0)
set_option maxHeartbeats 4000000 in
set_option maxRecDepth 100000 in
theorem qX4_digest (l : Launch) (hst : l.stackTraces = false) (D : va_G) (d : Nat → Nat) (s : S2) (hI : MI s) : CM l D yX4_digest cX4_digest 5 (some .long) 3 65 0 0 (MW D d s) [.ref (d 0)] (dP (some (.long ((M_digest s).1))) (MW D d (M_digest s).2)) := by
  refine CM_of [some (.ref (d 0)), none, none, none, none] hst (by decide +kernel) rfl (Nat.le_of_ble_eq_true rfl) (fun k F hl hD hin hR => ?_)
  subst hl hD
  have hNA := MI.nA hI
  have eNA := MI.eA hI
  have hNT := MI.nT hI
  have eNT := MI.eT hI
  refine j_aloadn F dX4_digest_0 rfl ?_
  refine j_iconst F (v := 0) dX4_digest_1 (by decide) ?_
  refine pf_X4_77 F hR.1 dX4_digest_2 rfl rfl 0 rfl (Nat.le_of_ble_eq_true rfl) (MW (kD k) d (u2 s 0 0 0)) (mp_0 _ _ _ _) ?_
  refine j_ldc2 F uc_X4_169 dX4_digest_5 ?_
  refine j_aloadn F dX4_digest_8 rfl ?_
  refine gf_X4_94 F (v := .int (s 0 1)) dX4_digest_9 0 rfl rfl ?_
  refine j_i2l F dX4_digest_12 ?_
  refine j_ladd F dX4_digest_13 ?_
  refine j_ldc2 F uc_X4_171 dX4_digest_14 ?_
  refine j_lmul F dX4_digest_17 ?_
  refine j_aloadn F dX4_digest_18 rfl ?_
  refine gf_X4_7 F (v := .int (s 0 2)) dX4_digest_19 0 rfl rfl ?_
  refine j_i2l F dX4_digest_22 ?_
  refine j_ladd F dX4_digest_23 ?_
  refine j_ldc2 F uc_X4_171 dX4_digest_24 ?_
  refine j_lmul F dX4_digest_27 ?_
  refine j_aloadn F dX4_digest_28 rfl ?_
  refine gf_X4_13 F (v := .int (s 0 3)) dX4_digest_29 0 rfl rfl ?_
  refine j_i2l F dX4_digest_32 ?_
  refine j_ladd F dX4_digest_33 ?_
  refine j_lstoren F [some (.ref (d 0)), some (.long (((((5983 + ((s 0 1).toInt64)) * 31) + ((s 0 2).toInt64)) * 31) + ((s 0 3).toInt64))), none, none, none] dX4_digest_34 rfl rfl rfl ?_
  refine j_iconst F (v := 0) dX4_digest_35 (by decide) ?_
  refine j_istoren F [some (.ref (d 0)), some (.long (((((5983 + ((s 0 1).toInt64)) * 31) + ((s 0 2).toInt64)) * 31) + ((s 0 3).toInt64))), none, some (.int 0), none] dX4_digest_36 rfl rfl rfl ?_
  refine (show ∀ (fuel i : Nat) (x : Int64), 4 - i < fuel → i ≤ 4 → x = M_dgP s (((((5983 + ((s 0 1).toInt64)) * 31) + ((s 0 2).toInt64)) * 31) + ((s 0 3).toInt64)) i →  J k (MW (kD k) d (u2 s 0 0 0)) 0 0 37 [some (.ref (d 0)), some (.long x), none, some (.int (nI i)), none] [] from ?_) (4 + 1) 0 (((((5983 + ((s 0 1).toInt64)) * 31) + ((s 0 2).toInt64)) * 31) + ((s 0 3).toInt64)) (by omega) (Nat.zero_le _) rfl 
  intro fu37
  induction fu37 with
  | zero => intro i x hm; exact absurd hm (Nat.not_lt_zero _)
  | succ fu37 ih37 =>
    intro i x hm37 hi37 hc_x 
    refine j_iloadn F dX4_digest_37 rfl ?_
    refine j_iconst F (v := 4) dX4_digest_38 (by decide) ?_
    refine j_icgeN F (x := i) (y := 4) (tgt := 74) dX4_digest_39 (by decide) ⟨by omega, by omega⟩ (fun h39 => ?_) (fun h39 => ?_)
    · obtain rfl : i = 4 := by omega
      subst hc_x
      refine j_lloadn F dX4_digest_74 rfl ?_
      refine j_ldc2 F uc_X4_171 dX4_digest_75 ?_
      refine j_lmul F dX4_digest_78 ?_
      refine j_aloadn F dX4_digest_79 rfl ?_
      refine gf_X4_80 F (v := .int (s 0 6)) dX4_digest_80 0 rfl rfl ?_
      refine j_i2l F dX4_digest_83 ?_
      refine j_ladd F dX4_digest_84 ?_
      refine j_lstoren F [some (.ref (d 0)), some (.long (((M_dgP s (((((5983 + ((s 0 1).toInt64)) * 31) + ((s 0 2).toInt64)) * 31) + ((s 0 3).toInt64)) 4) * 31) + ((s 0 6).toInt64))), none, some (.int (nI 4)), none] dX4_digest_85 rfl rfl rfl ?_
      refine j_iconst F (v := 0) dX4_digest_86 (by decide) ?_
      refine j_istoren F [some (.ref (d 0)), some (.long (((M_dgP s (((((5983 + ((s 0 1).toInt64)) * 31) + ((s 0 2).toInt64)) * 31) + ((s 0 3).toInt64)) 4) * 31) + ((s 0 6).toInt64))), none, some (.int 0), none] dX4_digest_87 rfl rfl rfl ?_
      refine (show ∀ (fuel i : Nat) (y : Int64), (ix (s 0 6)) - i < fuel → i ≤ (ix (s 0 6)) → y = M_dgA s (((M_dgP s (((((5983 + ((s 0 1).toInt64)) * 31) + ((s 0 2).toInt64)) * 31) + ((s 0 3).toInt64)) 4) * 31) + ((s 0 6).toInt64)) i →  J k (MW (kD k) d (u2 s 0 0 0)) 0 0 88 [some (.ref (d 0)), some (.long y), none, some (.int (nI i)), none] [] from ?_) ((ix (s 0 6)) + 1) 0 (((M_dgP s (((((5983 + ((s 0 1).toInt64)) * 31) + ((s 0 2).toInt64)) * 31) + ((s 0 3).toInt64)) 4) * 31) + ((s 0 6).toInt64)) (by omega) (Nat.zero_le _) rfl 
      intro fu88
      induction fu88 with
      | zero => intro i y hm; exact absurd hm (Nat.not_lt_zero _)
      | succ fu88 ih88 =>
        intro i y hm88 hi88 hc_y 
        refine j_iloadn F dX4_digest_88 rfl ?_
        refine j_aloadn F dX4_digest_89 rfl ?_
        refine gf_X4_80 F (v := .int (nI (ix (s 0 6)))) dX4_digest_90 0 rfl (mfi_6 eNA) ?_
        refine j_icgeN F (x := i) (y := (ix (s 0 6))) (tgt := 146) dX4_digest_93 (by decide) ⟨by omega, by omega⟩ (fun h93 => ?_) (fun h93 => ?_)
        · obtain rfl : i = (ix (s 0 6)) := by omega
          subst hc_y
          refine j_lloadn F dX4_digest_146 rfl ?_
          refine j_ldc2 F uc_X4_171 dX4_digest_147 ?_
          refine j_lmul F dX4_digest_150 ?_
          refine j_aloadn F dX4_digest_151 rfl ?_
          refine gf_X4_87 F (v := .int (s 0 14)) dX4_digest_152 0 rfl rfl ?_
          refine j_i2l F dX4_digest_155 ?_
          refine j_ladd F dX4_digest_156 ?_
          refine j_lstoren F [some (.ref (d 0)), some (.long (((M_dgA s (((M_dgP s (((((5983 + ((s 0 1).toInt64)) * 31) + ((s 0 2).toInt64)) * 31) + ((s 0 3).toInt64)) 4) * 31) + ((s 0 6).toInt64)) (ix (s 0 6))) * 31) + ((s 0 14).toInt64))), none, some (.int (nI (ix (s 0 6)))), none] dX4_digest_157 rfl rfl rfl ?_
          refine j_iconst F (v := 0) dX4_digest_158 (by decide) ?_
          refine j_istoren F [some (.ref (d 0)), some (.long (((M_dgA s (((M_dgP s (((((5983 + ((s 0 1).toInt64)) * 31) + ((s 0 2).toInt64)) * 31) + ((s 0 3).toInt64)) 4) * 31) + ((s 0 6).toInt64)) (ix (s 0 6))) * 31) + ((s 0 14).toInt64))), none, some (.int 0), none] dX4_digest_159 rfl rfl rfl ?_
          refine (show ∀ (fuel i : Nat) (z : Int64), (ix (s 0 14)) - i < fuel → i ≤ (ix (s 0 14)) → z = M_dgT s (((M_dgA s (((M_dgP s (((((5983 + ((s 0 1).toInt64)) * 31) + ((s 0 2).toInt64)) * 31) + ((s 0 3).toInt64)) 4) * 31) + ((s 0 6).toInt64)) (ix (s 0 6))) * 31) + ((s 0 14).toInt64)) i →  J k (MW (kD k) d (u2 s 0 0 0)) 0 0 160 [some (.ref (d 0)), some (.long z), none, some (.int (nI i)), none] [] from ?_) ((ix (s 0 14)) + 1) 0 (((M_dgA s (((M_dgP s (((((5983 + ((s 0 1).toInt64)) * 31) + ((s 0 2).toInt64)) * 31) + ((s 0 3).toInt64)) 4) * 31) + ((s 0 6).toInt64)) (ix (s 0 6))) * 31) + ((s 0 14).toInt64)) (by omega) (Nat.zero_le _) rfl 
          intro fu160
          induction fu160 with
          | zero => intro i z hm; exact absurd hm (Nat.not_lt_zero _)
          | succ fu160 ih160 =>
            intro i z hm160 hi160 hc_z 
            refine j_iloadn F dX4_digest_160 rfl ?_
            refine j_aloadn F dX4_digest_161 rfl ?_
            refine gf_X4_87 F (v := .int (nI (ix (s 0 14)))) dX4_digest_162 0 rfl (mfi_14 eNT) ?_
            refine j_icgeN F (x := i) (y := (ix (s 0 14))) (tgt := 243) dX4_digest_165 (by decide) ⟨by omega, by omega⟩ (fun h165 => ?_) (fun h165 => ?_)
            · obtain rfl : i = (ix (s 0 14)) := by omega
              subst hc_z
              refine j_lloadn F dX4_digest_243 rfl ?_
              have hz : M_digest s = (M_dgT s (((M_dgA s (((M_dgP s (((((5983 + ((s 0 1).toInt64)) * 31) + ((s 0 2).toInt64)) * 31) + ((s 0 3).toInt64)) 4) * 31) + ((s 0 6).toInt64)) (ix (s 0 6))) * 31) + ((s 0 14).toInt64)) (ix (s 0 14)), u2 s 0 0 0) := rfl
              exact j_lret F hR dX4_digest_244 (Nat.le_of_ble_eq_true rfl) (Nat.le_of_ble_eq_true rfl) ⟨by rw [hz], by rw [hz]⟩
            · refine j_lloadn F dX4_digest_168 rfl ?_
              refine j_ldc2 F uc_X4_171 dX4_digest_169 ?_
              refine j_lmul F dX4_digest_172 ?_
              refine j_aloadn F dX4_digest_173 rfl ?_
              refine gf_X4_44 F (v := .ref (d 15)) dX4_digest_174 0 rfl rfl ?_
              refine j_iloadn F dX4_digest_177 rfl ?_
              refine j_ialdN F dX4_digest_178 (f := s 15) 10 rfl ⟨(Nat.lt_of_lt_of_le h165 hNT), by decide⟩ ?_
              refine j_i2l F dX4_digest_179 ?_
              refine j_ladd F dX4_digest_180 ?_
              refine j_lstoren F [some (.ref (d 0)), some (.long ((z * 31) + ((s 15 i).toInt64))), none, some (.int (nI i)), none] dX4_digest_181 rfl rfl rfl ?_
              refine j_iconst F (v := 0) dX4_digest_182 (by decide) ?_
              refine j_istore F [some (.ref (d 0)), some (.long ((z * 31) + ((s 15 i).toInt64))), none, some (.int (nI i)), some (.int 0)] dX4_digest_183 rfl rfl rfl ?_
              refine (show ∀ (fuel j : Nat) (w : Int64), 8 - j < fuel → j ≤ 8 → w = M_dgTi s i ((z * 31) + ((s 15 i).toInt64)) j →  J k (MW (kD k) d (u2 s 0 0 0)) 0 0 185 [some (.ref (d 0)), some (.long w), none, some (.int (nI i)), some (.int (nI j))] [] from ?_) (8 + 1) 0 ((z * 31) + ((s 15 i).toInt64)) (by omega) (Nat.zero_le _) rfl 
              intro fu185
              induction fu185 with
              | zero => intro j w hm; exact absurd hm (Nat.not_lt_zero _)
              | succ fu185 ih185 =>
                intro j w hm185 hi185 hc_w 
                refine j_iload F dX4_digest_185 rfl ?_
                refine j_bipush F (v := 8) dX4_digest_187 (by decide) ?_
                refine j_icgeN F (x := j) (y := 8) (tgt := 213) dX4_digest_189 (by decide) ⟨by omega, by omega⟩ (fun h189 => ?_) (fun h189 => ?_)
                · obtain rfl : j = 8 := by omega
                  subst hc_w
                  refine j_lloadn F dX4_digest_213 rfl ?_
                  refine j_ldc2 F uc_X4_171 dX4_digest_214 ?_
                  refine j_lmul F dX4_digest_217 ?_
                  refine j_aloadn F dX4_digest_218 rfl ?_
                  refine j_iloadn F dX4_digest_219 rfl ?_
                  refine j_rdV F (qX4_mainOf (kl k) hst (kD k) d (u2 s 0 0 0) (nI i) ((MI_u0 (by decide) hI)) ((vp_in_nI (Nat.lt_of_lt_of_le h165 hNT) (by decide)))) lk_X4_155 dX4_digest_220 ⟨(Nat.le_of_ble_eq_true rfl), (Nat.le_of_ble_eq_true rfl)⟩ (fun _ h => h) 0 rfl rfl rfl (Nat.le_of_ble_eq_true rfl) ⟨(Nat.le_of_ble_eq_true rfl), (Nat.le_of_ble_eq_true rfl)⟩ ?_
                  refine j_i2l F dX4_digest_223 ?_
                  refine j_ladd F dX4_digest_224 ?_
                  refine j_ldc2 F uc_X4_171 dX4_digest_225 ?_
                  refine j_lmul F dX4_digest_228 ?_
                  refine j_aloadn F dX4_digest_229 rfl ?_
                  refine j_iloadn F dX4_digest_230 rfl ?_
                  refine j_rdV F (qX4_customersOf (kl k) hst (kD k) d (u2 s 0 0 0) (nI i) ((MI_u0 (by decide) hI))) lk_X4_143 dX4_digest_231 ⟨(Nat.le_of_ble_eq_true rfl), (Nat.le_of_ble_eq_true rfl)⟩ (fun _ h => h) 0 rfl rfl rfl (Nat.le_of_ble_eq_true rfl) ⟨(Nat.le_of_ble_eq_true rfl), (Nat.le_of_ble_eq_true rfl)⟩ ?_
                  refine j_i2l F dX4_digest_234 ?_
                  refine j_ladd F dX4_digest_235 ?_
                  refine j_lstoren F [some (.ref (d 0)), some (.long (((((M_dgTi s i ((z * 31) + ((s 15 i).toInt64)) 8) * 31) + ((M_mainOf (u2 s 0 0 0) (nI i)).toInt64)) * 31) + ((M_customersOf (u2 s 0 0 0) (nI i)).toInt64))), none, some (.int (nI i)), some (.int (nI 8))] dX4_digest_236 rfl rfl rfl ?_
                  refine j_iincN F [some (.ref (d 0)), some (.long (((((M_dgTi s i ((z * 31) + ((s 15 i).toInt64)) 8) * 31) + ((M_mainOf (u2 s 0 0 0) (nI i)).toInt64)) * 31) + ((M_customersOf (u2 s 0 0 0) (nI i)).toInt64))), none, some (.int (nI (i + 1))), some (.int (nI 8))] dX4_digest_237 rfl rfl rfl rfl ?_
                  refine j_goto F (tgt := 160) dX4_digest_240 (by decide) ?_
                  refine j_lvw [some (.ref (d 0)), some (.long (((((M_dgTi s i ((z * 31) + ((s 15 i).toInt64)) 8) * 31) + ((M_mainOf (u2 s 0 0 0) (nI i)).toInt64)) * 31) + ((M_customersOf (u2 s 0 0 0) (nI i)).toInt64))), none, some (.int (nI (i + 1))), none] ⟨rfl, rfl, rfl, trivial⟩ ?_
                  exact ih160 (i + 1) (((((M_dgTi s i ((z * 31) + ((s 15 i).toInt64)) 8) * 31) + ((M_mainOf (u2 s 0 0 0) (nI i)).toInt64)) * 31) + ((M_customersOf (u2 s 0 0 0) (nI i)).toInt64)) (by omega) (by omega) (by rw [M_dgT_s, ← hc_z, M_dgTB]) 
                · refine j_lloadn F dX4_digest_192 rfl ?_
                  refine j_ldc2 F uc_X4_171 dX4_digest_193 ?_
                  refine j_lmul F dX4_digest_196 ?_
                  refine j_aloadn F dX4_digest_197 rfl ?_
                  refine j_iloadn F dX4_digest_198 rfl ?_
                  refine j_iload F dX4_digest_199 rfl ?_
                  refine j_rdV F (qX4_toldTicket (kl k) hst (kD k) d (u2 s 0 0 0) (nI i) (nI j) ((MI_u0 (by decide) hI)) ((vp_in_nI (Nat.lt_of_lt_of_le h165 hNT) (by decide)))) lk_X4_149 dX4_digest_201 ⟨(Nat.le_of_ble_eq_true rfl), (Nat.le_of_ble_eq_true rfl)⟩ (fun _ h => h) 0 rfl rfl rfl (Nat.le_of_ble_eq_true rfl) ⟨(Nat.le_of_ble_eq_true rfl), (Nat.le_of_ble_eq_true rfl)⟩ ?_
                  refine j_i2l F dX4_digest_204 ?_
                  refine j_ladd F dX4_digest_205 ?_
                  refine j_lstoren F [some (.ref (d 0)), some (.long ((w * 31) + ((M_toldTicket (u2 s 0 0 0) (nI i) (nI j)).toInt64))), none, some (.int (nI i)), some (.int (nI j))] dX4_digest_206 rfl rfl rfl ?_
                  refine j_iincN F [some (.ref (d 0)), some (.long ((w * 31) + ((M_toldTicket (u2 s 0 0 0) (nI i) (nI j)).toInt64))), none, some (.int (nI i)), some (.int (nI (j + 1)))] dX4_digest_207 rfl rfl rfl rfl ?_
                  refine j_goto F (tgt := 185) dX4_digest_210 (by decide) ?_
                  exact ih185 (j + 1) ((w * 31) + ((M_toldTicket (u2 s 0 0 0) (nI i) (nI j)).toInt64)) (by omega) (by omega) (by rw [M_dgTi_s, ← hc_w, M_dgTiB]) 
        · refine j_lloadn F dX4_digest_96 rfl ?_
          refine j_ldc2 F uc_X4_171 dX4_digest_97 ?_
          refine j_lmul F dX4_digest_100 ?_
          refine j_aloadn F dX4_digest_101 rfl ?_
          refine gf_X4_23 F (v := .ref (d 7)) dX4_digest_102 0 rfl rfl ?_
          refine j_iloadn F dX4_digest_105 rfl ?_
          refine j_ialdN F dX4_digest_106 (f := s 7) 3 rfl ⟨(Nat.lt_of_lt_of_le h93 hNA), by decide⟩ ?_
          refine j_i2l F dX4_digest_107 ?_
          refine j_ladd F dX4_digest_108 ?_
          refine j_lstoren F [some (.ref (d 0)), some (.long ((y * 31) + ((s 7 i).toInt64))), none, some (.int (nI i)), none] dX4_digest_109 rfl rfl rfl ?_
          refine j_iconst F (v := 0) dX4_digest_110 (by decide) ?_
          refine j_istore F [some (.ref (d 0)), some (.long ((y * 31) + ((s 7 i).toInt64))), none, some (.int (nI i)), some (.int 0)] dX4_digest_111 rfl rfl rfl ?_
          refine (show ∀ (fuel j : Nat) (v : Int64), 4 - j < fuel → j ≤ 4 → v = M_dgAi s i ((y * 31) + ((s 7 i).toInt64)) j →  J k (MW (kD k) d (u2 s 0 0 0)) 0 0 113 [some (.ref (d 0)), some (.long v), none, some (.int (nI i)), some (.int (nI j))] [] from ?_) (4 + 1) 0 ((y * 31) + ((s 7 i).toInt64)) (by omega) (Nat.zero_le _) rfl 
          intro fu113
          induction fu113 with
          | zero => intro j v hm; exact absurd hm (Nat.not_lt_zero _)
          | succ fu113 ih113 =>
            intro j v hm113 hi113 hc_v 
            refine j_iload F dX4_digest_113 rfl ?_
            refine j_iconst F (v := 4) dX4_digest_115 (by decide) ?_
            refine j_icgeN F (x := j) (y := 4) (tgt := 140) dX4_digest_116 (by decide) ⟨by omega, by omega⟩ (fun h116 => ?_) (fun h116 => ?_)
            · obtain rfl : j = 4 := by omega
              subst hc_v
              refine j_iincN F [some (.ref (d 0)), some (.long (M_dgAi s i ((y * 31) + ((s 7 i).toInt64)) 4)), none, some (.int (nI (i + 1))), some (.int (nI 4))] dX4_digest_140 rfl rfl rfl rfl ?_
              refine j_goto F (tgt := 88) dX4_digest_143 (by decide) ?_
              refine j_lvw [some (.ref (d 0)), some (.long (M_dgAi s i ((y * 31) + ((s 7 i).toInt64)) 4)), none, some (.int (nI (i + 1))), none] ⟨rfl, rfl, rfl, trivial⟩ ?_
              exact ih88 (i + 1) (M_dgAi s i ((y * 31) + ((s 7 i).toInt64)) 4) (by omega) (by omega) (by rw [M_dgA_s, ← hc_y, M_dgAB]) 
            · refine j_lloadn F dX4_digest_119 rfl ?_
              refine j_ldc2 F uc_X4_171 dX4_digest_120 ?_
              refine j_lmul F dX4_digest_123 ?_
              refine j_aloadn F dX4_digest_124 rfl ?_
              refine j_iloadn F dX4_digest_125 rfl ?_
              refine j_iload F dX4_digest_126 rfl ?_
              refine j_rdV F (qX4_toldAgent (kl k) hst (kD k) d (u2 s 0 0 0) (nI i) (nI j) ((vp_in_nI (Nat.lt_of_lt_of_le h93 hNA) (by decide)))) lk_X4_125 dX4_digest_128 ⟨(Nat.le_of_ble_eq_true rfl), (Nat.le_of_ble_eq_true rfl)⟩ (fun _ h => h) 0 rfl rfl rfl (Nat.le_of_ble_eq_true rfl) ⟨(Nat.le_of_ble_eq_true rfl), (Nat.le_of_ble_eq_true rfl)⟩ ?_
              refine j_i2l F dX4_digest_131 ?_
              refine j_ladd F dX4_digest_132 ?_
              refine j_lstoren F [some (.ref (d 0)), some (.long ((v * 31) + ((M_toldAgent (u2 s 0 0 0) (nI i) (nI j)).toInt64))), none, some (.int (nI i)), some (.int (nI j))] dX4_digest_133 rfl rfl rfl ?_
              refine j_iincN F [some (.ref (d 0)), some (.long ((v * 31) + ((M_toldAgent (u2 s 0 0 0) (nI i) (nI j)).toInt64))), none, some (.int (nI i)), some (.int (nI (j + 1)))] dX4_digest_134 rfl rfl rfl rfl ?_
              refine j_goto F (tgt := 113) dX4_digest_137 (by decide) ?_
              exact ih113 (j + 1) ((v * 31) + ((M_toldAgent (u2 s 0 0 0) (nI i) (nI j)).toInt64)) (by omega) (by omega) (by rw [M_dgAi_s, ← hc_v, M_dgAiB]) 
    · refine j_lloadn F dX4_digest_42 rfl ?_
      refine j_ldc2 F uc_X4_171 dX4_digest_43 ?_
      refine j_lmul F dX4_digest_46 ?_
      refine j_aloadn F dX4_digest_47 rfl ?_
      refine gf_X4_16 F (v := .ref (d 4)) dX4_digest_48 0 rfl rfl ?_
      refine j_iloadn F dX4_digest_51 rfl ?_
      refine j_ialdN F dX4_digest_52 (f := s 4) 1 rfl ⟨(Nat.lt_of_lt_of_le h39 (Nat.le_refl 4)), by decide⟩ ?_
      refine j_i2l F dX4_digest_53 ?_
      refine j_ladd F dX4_digest_54 ?_
      refine j_ldc2 F uc_X4_171 dX4_digest_55 ?_
      refine j_lmul F dX4_digest_58 ?_
      refine j_aloadn F dX4_digest_59 rfl ?_
      refine gf_X4_20 F (v := .ref (d 5)) dX4_digest_60 0 rfl rfl ?_
      refine j_iloadn F dX4_digest_63 rfl ?_
      refine j_ialdN F dX4_digest_64 (f := s 5) 2 rfl ⟨(Nat.lt_of_lt_of_le h39 (Nat.le_refl 4)), by decide⟩ ?_
      refine j_i2l F dX4_digest_65 ?_
      refine j_ladd F dX4_digest_66 ?_
      refine j_lstoren F [some (.ref (d 0)), some (.long ((((x * 31) + ((s 4 i).toInt64)) * 31) + ((s 5 i).toInt64))), none, some (.int (nI i)), none] dX4_digest_67 rfl rfl rfl ?_
      refine j_iincN F [some (.ref (d 0)), some (.long ((((x * 31) + ((s 4 i).toInt64)) * 31) + ((s 5 i).toInt64))), none, some (.int (nI (i + 1))), none] dX4_digest_68 rfl rfl rfl rfl ?_
      refine j_goto F (tgt := 37) dX4_digest_71 (by decide) ?_
      exact ih37 (i + 1) ((((x * 31) + ((s 4 i).toInt64)) * 31) + ((s 5 i).toInt64)) (by omega) (by omega) (by rw [M_dgP_s, ← hc_x, M_dgPB]) 
def M_due (s : S2) (p0 : Int32) : Int32 × S2 := if (M_isTicket (u2 s 0 0 0) p0) = true then (if (M_slack (u2 s 0 0 0) p0) < 0 then ((-1), u2 s 0 0 0) else if (s 19 (ix p0)) = 4 then ((-1), u2 s 0 0 0) else (M_dueL (u2 s 0 0 0) (100000 - ix (s 0 1)) (nI (ix (s 0 1))) (M_slack (u2 s 0 0 0) p0), u2 s 0 0 0)) else ((M_no (u2 s 0 0 0) 1).1, (M_no (u2 s 0 0 0) 1).2)
set_option maxHeartbeats 4000000 in
set_option maxRecDepth 100000 in
theorem qX4_due (l : Launch) (hst : l.stackTraces = false) (D : va_G) (d : Nat → Nat) (s : S2) (p0 : Int32) (hI : MI s) (hM : ∃ n, n ≤ 99999 ∧ s 0 1 = nI n) : CM l D yX4_due cX4_due 4 (some .int) 2 43 0 0 (MW D d s) [.ref (d 0), .int p0] (dP (some (.int ((M_due s p0).1))) (MW D d (M_due s p0).2)) := by
  refine CM_of [some (.ref (d 0)), some (.int p0), none, none] hst (by decide +kernel) rfl (Nat.le_of_ble_eq_true rfl) (fun k F hl hD hin hR => ?_)
  subst hl hD
  refine j_aloadn F dX4_due_0 rfl ?_
  refine j_iconst F (v := 0) dX4_due_1 (by decide) ?_
  refine pf_X4_77 F hR.1 dX4_due_2 rfl rfl 0 rfl (Nat.le_of_ble_eq_true rfl) (MW (kD k) d (u2 s 0 0 0)) (mp_0 _ _ _ _) ?_
  refine j_aloadn F dX4_due_5 rfl ?_
  refine j_iloadn F dX4_due_6 rfl ?_
  refine j_rdV F (qX4_isTicket (kl k) hst (kD k) d (u2 s 0 0 0) p0) lk_X4_137 dX4_due_7 ⟨(Nat.le_of_ble_eq_true rfl), (Nat.le_of_ble_eq_true rfl)⟩ (fun _ h => h) 0 rfl rfl rfl (Nat.le_of_ble_eq_true rfl) ⟨(Nat.le_of_ble_eq_true rfl), (Nat.le_of_ble_eq_true rfl)⟩ ?_
  refine j_ifbne F (tgt := 19) dX4_due_10 (by decide) (fun h10 => ?_) (fun h10 => ?_)
  · refine j_aloadn F dX4_due_19 rfl ?_
    refine j_iloadn F dX4_due_20 rfl ?_
    refine j_rdV F (qX4_slack (kl k) hst (kD k) d (u2 s 0 0 0) p0 ((MI_u0 (by decide) hI)) ((M_isTicket_in hI h10))) lk_X4_128 dX4_due_21 ⟨(Nat.le_of_ble_eq_true rfl), (Nat.le_of_ble_eq_true rfl)⟩ (fun _ h => h) 0 rfl rfl rfl (Nat.le_of_ble_eq_true rfl) ⟨(Nat.le_of_ble_eq_true rfl), (Nat.le_of_ble_eq_true rfl)⟩ ?_
    refine j_istoren F [some (.ref (d 0)), some (.int p0), some (.int (M_slack (u2 s 0 0 0) p0)), none] dX4_due_24 rfl rfl rfl ?_
    refine j_iloadn F dX4_due_25 rfl ?_
    refine j_iflt F (tgt := 39) dX4_due_26 (by decide) (fun h26 => ?_) (fun h26 => ?_)
    · refine j_iconst F (v := (-1)) dX4_due_39 (by decide) ?_
      have hz : M_due s p0 = ((-1), u2 s 0 0 0) := by rw [M_due, if_pos h10, if_pos h26]
      exact j_iret F hR dX4_due_40 (Nat.le_of_ble_eq_true rfl) (Nat.le_of_ble_eq_true rfl) ⟨by rw [hz], by rw [hz]⟩
    · refine j_aloadn F dX4_due_29 rfl ?_
      refine gf_X4_56 F (v := .ref (d 19)) dX4_due_30 0 rfl rfl ?_
      refine j_iloadn F dX4_due_33 rfl ?_
      refine j_iald F dX4_due_34 (f := s 19) 14 rfl (M_isTicket_in hI h10) ?_
      refine j_iconst F (v := 4) dX4_due_35 (by decide) ?_
      refine j_icne F (tgt := 41) dX4_due_36 (by decide) (fun h36 => ?_) (fun h36 => ?_)
      · refine j_aloadn F dX4_due_41 rfl ?_
        refine gf_X4_94 F (v := .int (s 0 1)) dX4_due_42 0 rfl rfl ?_
        refine j_st [.int (nI (ix (s 0 1)))] (by obtain ⟨n9, h9, e9⟩ := hM; show [Value.int (s 0 1)] = _; rw [e9, ix_nI (by omega)]) ?_
        refine j_istoren F [some (.ref (d 0)), some (.int p0), some (.int (M_slack (u2 s 0 0 0) p0)), some (.int (nI (ix (s 0 1))))] dX4_due_45 rfl rfl rfl ?_
        obtain ⟨mm0, hmm0, em0⟩ := hM
        have hix : ix (s 0 1) = mm0 := by rw [em0]; exact ix_nI (by omega)
        refine (show ∀ (f mm : Nat) (l : Int32), f + mm = 100000 → M_dueL (u2 s 0 0 0) (100000 - ix (s 0 1)) (nI (ix (s 0 1))) (M_slack (u2 s 0 0 0) p0) = M_dueL (u2 s 0 0 0) f (nI mm) l → J k (MW (kD k) d (u2 s 0 0 0)) 0 0 46 [some (.ref (d 0)), some (.int p0), some (.int l), some (.int (nI mm))] [] from ?_) (100000 - ix (s 0 1)) (ix (s 0 1)) (M_slack (u2 s 0 0 0) p0) (by rw [hix]; omega) rfl
        intro f
        induction f with
        | zero =>
          intro mm l hm hc
          refine j_iloadn F dX4_due_46 rfl ?_
          refine j_ldc F uc_X4_106 dX4_due_47 ?_
          refine j_icgt F (tgt := 78) dX4_due_49 (by decide) (fun h49 => ?_) (fun h49 => ?_)
          · refine j_iconst F (v := (-1)) dX4_due_78 (by decide) ?_
            have hz : M_due s p0 = ((-1), u2 s 0 0 0) := by rw [M_due, if_pos h10, if_neg h26, if_neg h36, hc]; rfl
            exact j_iret F hR dX4_due_79 (Nat.le_of_ble_eq_true rfl) (Nat.le_of_ble_eq_true rfl) ⟨by rw [hz], by rw [hz]⟩
          · exact absurd (show (99999 : Int32) < nI mm from nI_lt (a := 99999) (by omega) (by omega)) h49
        | succ f ih =>
          intro mm l hm hc
          refine j_iloadn F dX4_due_46 rfl ?_
          refine j_ldc F uc_X4_106 dX4_due_47 ?_
          refine j_icgt F (tgt := 78) dX4_due_49 (by decide) (fun h49 => ?_) (fun h49 => ?_)
          · exact absurd h49 (nI_nlt (a := 99999) (by omega) (by decide))
          · refine j_aloadn F dX4_due_52 rfl ?_
            refine j_iloadn F dX4_due_53 rfl ?_
            refine j_rdV F (qX4_isService (kl k) hst (kD k) d (u2 s 0 0 0) (nI mm)) lk_X4_158 dX4_due_54 ⟨(Nat.le_of_ble_eq_true rfl), (Nat.le_of_ble_eq_true rfl)⟩ (fun _ h => h) 0 rfl rfl rfl (Nat.le_of_ble_eq_true rfl) ⟨(Nat.le_of_ble_eq_true rfl), (Nat.le_of_ble_eq_true rfl)⟩ ?_
            refine j_ifbne F (tgt := 63) dX4_due_57 (by decide) (fun h57 => ?_) (fun h57 => ?_)
            · refine j_iloadn F dX4_due_63 rfl ?_
              refine j_ifne F (tgt := 69) dX4_due_64 (by decide) (fun h64 => ?_) (fun h64 => ?_)
              · refine j_iinc F [some (.ref (d 0)), some (.int p0), some (.int (l + (-1))), some (.int (nI mm))] dX4_due_69 rfl (v := l + (-1)) rfl rfl rfl rfl ?_
                refine j_iincN F [some (.ref (d 0)), some (.int p0), some (.int (l + (-1))), some (.int (nI (mm + 1)))] dX4_due_72 rfl rfl rfl rfl ?_
                refine j_goto F (tgt := 46) dX4_due_75 (by decide) ?_
                exact ih _ _ (by omega) (by rw [hc, M_dueL, if_pos h57, if_neg h64, nI_1])
              · refine j_iloadn F dX4_due_67 rfl ?_
                have hz : M_due s p0 = (nI mm, u2 s 0 0 0) := by rw [M_due, if_pos h10, if_neg h26, if_neg h36, hc, M_dueL, if_pos h57, if_pos h64]
                exact j_iret F hR dX4_due_68 (Nat.le_of_ble_eq_true rfl) (Nat.le_of_ble_eq_true rfl) ⟨by rw [hz], by rw [hz]⟩
            · refine j_goto F (tgt := 72) dX4_due_60 (by decide) ?_
              refine j_iincN F [some (.ref (d 0)), some (.int p0), some (.int l), some (.int (nI (mm + 1)))] dX4_due_72 rfl rfl rfl rfl ?_
              refine j_goto F (tgt := 46) dX4_due_75 (by decide) ?_
              exact ih _ _ (by omega) (by rw [hc, M_dueL, if_neg h57, nI_1])
      · refine j_iconst F (v := (-1)) dX4_due_39 (by decide) ?_
        have hz : M_due s p0 = ((-1), u2 s 0 0 0) := by rw [M_due, if_pos h10, if_neg h26, if_pos h36]
        exact j_iret F hR dX4_due_40 (Nat.le_of_ble_eq_true rfl) (Nat.le_of_ble_eq_true rfl) ⟨by rw [hz], by rw [hz]⟩
  · refine j_aloadn F dX4_due_13 rfl ?_
    refine j_iconst F (v := 1) dX4_due_14 (by decide) ?_
    refine j_dmV F hR.1 (qX4_no (kl k) hst (kD k) d (u2 s 0 0 0) 1) lk_X4_90 dX4_due_15 ⟨(Nat.le_of_ble_eq_true rfl), (Nat.le_of_ble_eq_true rfl)⟩ 0 rfl rfl rfl (Nat.le_of_ble_eq_true rfl) ⟨(Nat.le_of_ble_eq_true rfl), (Nat.le_of_ble_eq_true rfl)⟩ rfl ?_
    have hz : M_due s p0 = ((M_no (u2 s 0 0 0) 1).1, (M_no (u2 s 0 0 0) 1).2) := by rw [M_due, if_neg h10]
    exact j_iret F hR dX4_due_18 (Nat.le_of_ble_eq_true rfl) (Nat.le_of_ble_eq_true rfl) ⟨by rw [hz], by rw [hz]⟩
