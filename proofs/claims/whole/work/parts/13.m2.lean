/-! the reference's methods with loops -/
theorem ix_nI {n : Nat} (h : n < 2 ^ 31) : ix (nI n) = n := nI_clamp h
theorem MI.nA {s : S2} (h : MI s) : ix (s 0 6) ≤ 6 := by
  obtain ⟨⟨n, hn, e⟩, -⟩ := h
  rw [e, ix_nI (by omega)]; exact hn
theorem MI.eA {s : S2} (h : MI s) : s 0 6 = nI (ix (s 0 6)) := by
  obtain ⟨⟨n, hn, e⟩, -⟩ := h
  rw [e, ix_nI (by omega)]
theorem MI.nT {s : S2} (h : MI s) : ix (s 0 14) ≤ 20 := by
  obtain ⟨-, ⟨n, hn, e⟩, -⟩ := h
  rw [e, ix_nI (by omega)]; exact hn
theorem MI.eT {s : S2} (h : MI s) : s 0 14 = nI (ix (s 0 14)) := by
  obtain ⟨-, ⟨n, hn, e⟩, -⟩ := h
  rw [e, ix_nI (by omega)]
theorem MI.inA {s : S2} (h : MI s) (h2 : ¬ s 0 6 = 6) : vp_in (s 0 6) 6 := by
  obtain ⟨⟨n, hn, e⟩, -⟩ := h
  rw [e] at h2 ⊢
  refine vp_in_nI (Nat.lt_of_le_of_ne hn fun z => h2 ?_) (by decide)
  rw [z]; rfl
theorem MI.inT {s : S2} (h : MI s) (h2 : ¬ s 0 14 = 20) : vp_in (s 0 14) 20 := by
  obtain ⟨-, ⟨n, hn, e⟩, -⟩ := h
  rw [e] at h2 ⊢
  refine vp_in_nI (Nat.lt_of_le_of_ne hn fun z => h2 ?_) (by decide)
  rw [z]; rfl
theorem MI.hand {s : S2} (h : MI s) {a : Nat} (ha : a < 6) (h2 : ¬ s 11 a = -1) : vp_in (s 11 a) 20 := (h.2.2.2.1 a ha).resolve_left h2
def M_leaveLB (s : S2) (p0 : Int32) (i : Nat) (t : S2) : S2 := if (t 11 i) = p0 then u2 t 11 i ((-1)) else t
def M_leaveL (s : S2) (p0 : Int32) : Nat → S2
  | 0 => s
  | n + 1 => M_leaveLB s p0 n (M_leaveL s p0 n)
theorem M_leaveL_s (s : S2) (p0 : Int32) (n : Nat) : M_leaveL s p0 (n + 1) = M_leaveLB s p0 n (M_leaveL s p0 n) := rfl
def M_leave (s : S2) (p0 : Int32) (p1 : Int32) : S2 := u2 (M_leaveL s p0 (ix (s 0 6))) 19 (ix p0) p1
set_option maxHeartbeats 4000000 in
set_option maxRecDepth 100000 in
theorem qX4_leave (l : Launch) (hst : l.stackTraces = false) (D : va_G) (d : Nat → Nat) (s : S2) (p0 : Int32) (p1 : Int32) (hI : MI s) (ht : vp_in p0 20) : CM l D yX4_leave cX4_leave 4 none 0 0 0 0 (MW D d s) [.ref (d 0), .int p0, .int p1] (dP none (MW D d (M_leave s p0 p1))) := by
  refine CM_of [some (.ref (d 0)), some (.int p0), some (.int p1), none] hst (by decide +kernel) rfl (Nat.le_of_ble_eq_true rfl) (fun k F hl hD hin hR => ?_)
  subst hl hD
  have hNA := MI.nA hI
  have eNA := MI.eA hI
  refine j_iconst F (v := 0) dX4_leave_0 (by decide) ?_
  refine j_istoren F [some (.ref (d 0)), some (.int p0), some (.int p1), some (.int 0)] dX4_leave_1 rfl rfl rfl ?_
  refine (show ∀ (fuel i : Nat) (t : S2), (ix (s 0 6)) - i < fuel → i ≤ (ix (s 0 6)) → t = M_leaveL s p0 i → t 0 6 = nI (ix (s 0 6)) →  J k (MW (kD k) d t) 0 0 2 [some (.ref (d 0)), some (.int p0), some (.int p1), some (.int (nI i))] [] from ?_) ((ix (s 0 6)) + 1) 0 s (by omega) (Nat.zero_le _) rfl eNA
  intro fu2
  induction fu2 with
  | zero => intro i t hm; exact absurd hm (Nat.not_lt_zero _)
  | succ fu2 ih2 =>
    intro i t hm2 hi2 hc_t ht6
    refine j_iloadn F dX4_leave_2 rfl ?_
    refine j_aloadn F dX4_leave_3 rfl ?_
    refine gf_X4_80 F (v := .int (nI (ix (s 0 6)))) dX4_leave_4 0 rfl (mfi_6 ht6) ?_
    refine j_icgeN F (x := i) (y := (ix (s 0 6))) (tgt := 33) dX4_leave_7 (by decide) ⟨by omega, by omega⟩ (fun h7 => ?_) (fun h7 => ?_)
    · obtain rfl : i = (ix (s 0 6)) := by omega
      subst hc_t
      refine j_aloadn F dX4_leave_33 rfl ?_
      refine gf_X4_56 F (v := .ref (d 19)) dX4_leave_34 0 rfl rfl ?_
      refine j_iloadn F dX4_leave_37 rfl ?_
      refine j_iloadn F dX4_leave_38 rfl ?_
      refine j_iast F hR.1 dX4_leave_39 14 rfl ht (MW (kD k) d (u2 (M_leaveL s p0 (ix (s 0 6))) 19 (ix p0) p1)) (mu_19 _ _ _ _ _) ?_
      have hz : M_leave s p0 p1 = (u2 (M_leaveL s p0 (ix (s 0 6))) 19 (ix p0) p1) := rfl
      exact j_vret F hR dX4_leave_40 (Nat.le_of_ble_eq_true rfl) (Nat.le_of_ble_eq_true rfl) ⟨rfl, by rw [hz]⟩
    · refine j_aloadn F dX4_leave_10 rfl ?_
      refine gf_X4_35 F (v := .ref (d 11)) dX4_leave_11 0 rfl rfl ?_
      refine j_iloadn F dX4_leave_14 rfl ?_
      refine j_ialdN F dX4_leave_15 (f := t 11) 7 rfl ⟨(Nat.lt_of_lt_of_le h7 hNA), by decide⟩ ?_
      refine j_iloadn F dX4_leave_16 rfl ?_
      refine j_icne F (tgt := 27) dX4_leave_17 (by decide) (fun h17 => ?_) (fun h17 => ?_)
      · refine j_iincN F [some (.ref (d 0)), some (.int p0), some (.int p1), some (.int (nI (i + 1)))] dX4_leave_27 rfl rfl rfl rfl ?_
        refine j_goto F (tgt := 2) dX4_leave_30 (by decide) ?_
        exact ih2 (i + 1) t (by omega) (by omega) (by rw [M_leaveL_s, ← hc_t, M_leaveLB, if_neg h17]) ht6
      · refine j_aloadn F dX4_leave_20 rfl ?_
        refine gf_X4_35 F (v := .ref (d 11)) dX4_leave_21 0 rfl rfl ?_
        refine j_iloadn F dX4_leave_24 rfl ?_
        refine j_iconst F (v := (-1)) dX4_leave_25 (by decide) ?_
        refine j_iastN F hR.1 dX4_leave_26 7 rfl ⟨(Nat.lt_of_lt_of_le h7 hNA), by decide⟩ (MW (kD k) d (u2 t 11 i ((-1)))) (mu_11 _ _ _ _ _) ?_
        refine j_iincN F [some (.ref (d 0)), some (.int p0), some (.int p1), some (.int (nI (i + 1)))] dX4_leave_27 rfl rfl rfl rfl ?_
        refine j_goto F (tgt := 2) dX4_leave_30 (by decide) ?_
        exact ih2 (i + 1) (u2 t 11 i ((-1))) (by omega) (by omega) (by rw [M_leaveL_s, ← hc_t, M_leaveLB, if_pos h17]) ht6
def M_nextLB (s : S2) (p0 : Int32) (i : Nat) (x : Int32) : Int32 := if (s 19 i) = 0 then (if (M_has (s 7 (ix p0)) (s 15 i)) = true then (if x = ((-1)) then nI i else if (M_likes s p0 (nI i) x) = true then nI i else x) else x) else x
def M_nextL (s : S2) (p0 : Int32) : Nat → Int32
  | 0 => (-1)
  | n + 1 => M_nextLB s p0 n (M_nextL s p0 n)
theorem M_nextL_s (s : S2) (p0 : Int32) (n : Nat) : M_nextL s p0 (n + 1) = M_nextLB s p0 n (M_nextL s p0 n) := rfl
def M_nextOf (s : S2) (p0 : Int32) : Int32 := M_nextL s p0 (ix (s 0 14))
set_option maxHeartbeats 4000000 in
set_option maxRecDepth 100000 in
theorem qX4_nextOf (l : Launch) (hst : l.stackTraces = false) (D : va_G) (d : Nat → Nat) (s : S2) (p0 : Int32) (hI : MI s) (ha : vp_in p0 6) : CR l D yX4_nextOf cX4_nextOf 4 (some .int) 2 45 (MW D d s) [.ref (d 0), .int p0] (.int (M_nextOf s p0)) := by
  refine CR_of [some (.ref (d 0)), some (.int p0), none, none] hst (by decide +kernel) rfl (Nat.le_of_ble_eq_true rfl) (fun k F hl hD hR => ?_)
  subst hl hD
  have hNT := MI.nT hI
  have eNT := MI.eT hI
  refine j_iconst F (v := (-1)) dX4_nextOf_0 (by decide) ?_
  refine j_istoren F [some (.ref (d 0)), some (.int p0), some (.int ((-1))), none] dX4_nextOf_1 rfl rfl rfl ?_
  refine j_iconst F (v := 0) dX4_nextOf_2 (by decide) ?_
  refine j_istoren F [some (.ref (d 0)), some (.int p0), some (.int ((-1))), some (.int 0)] dX4_nextOf_3 rfl rfl rfl ?_
  refine (show ∀ (fuel i : Nat) (x : Int32), (ix (s 0 14)) - i < fuel → i ≤ (ix (s 0 14)) → x = M_nextL s p0 i → x = -1 ∨ vp_in x 20 →  J k (MW (kD k) d s) 0 0 4 [some (.ref (d 0)), some (.int p0), some (.int x), some (.int (nI i))] [] from ?_) ((ix (s 0 14)) + 1) 0 ((-1)) (by omega) (Nat.zero_le _) rfl (Or.inl rfl)
  intro fu4
  induction fu4 with
  | zero => intro i x hm; exact absurd hm (Nat.not_lt_zero _)
  | succ fu4 ih4 =>
    intro i x hm4 hi4 hc_x hxb
    refine j_iloadn F dX4_nextOf_4 rfl ?_
    refine j_aloadn F dX4_nextOf_5 rfl ?_
    refine gf_X4_87 F (v := .int (nI (ix (s 0 14)))) dX4_nextOf_6 0 rfl (mfi_14 eNT) ?_
    refine j_icgeN F (x := i) (y := (ix (s 0 14))) (tgt := 62) dX4_nextOf_9 (by decide) ⟨by omega, by omega⟩ (fun h9 => ?_) (fun h9 => ?_)
    · obtain rfl : i = (ix (s 0 14)) := by omega
      subst hc_x
      refine j_iloadn F dX4_nextOf_62 rfl ?_
      exact j_iretR F hR dX4_nextOf_63 (congrArg Value.int (show M_nextOf s p0 = M_nextL s p0 (ix (s 0 14)) from rfl))
    · refine j_aloadn F dX4_nextOf_12 rfl ?_
      refine gf_X4_56 F (v := .ref (d 19)) dX4_nextOf_13 0 rfl rfl ?_
      refine j_iloadn F dX4_nextOf_16 rfl ?_
      refine j_ialdN F dX4_nextOf_17 (f := s 19) 14 rfl ⟨(Nat.lt_of_lt_of_le h9 hNT), by decide⟩ ?_
      refine j_ifne F (tgt := 56) dX4_nextOf_18 (by decide) (fun h18 => ?_) (fun h18 => ?_)
      · refine j_iincN F [some (.ref (d 0)), some (.int p0), some (.int x), some (.int (nI (i + 1)))] dX4_nextOf_56 rfl rfl rfl rfl ?_
        refine j_goto F (tgt := 4) dX4_nextOf_59 (by decide) ?_
        exact ih4 (i + 1) x (by omega) (by omega) (by rw [M_nextL_s, ← hc_x, M_nextLB, if_neg h18]) hxb
      · refine j_aloadn F dX4_nextOf_21 rfl ?_
        refine gf_X4_23 F (v := .ref (d 7)) dX4_nextOf_22 0 rfl rfl ?_
        refine j_iloadn F dX4_nextOf_25 rfl ?_
        refine j_iald F dX4_nextOf_26 (f := s 7) 3 rfl ha ?_
        refine j_aloadn F dX4_nextOf_27 rfl ?_
        refine gf_X4_44 F (v := .ref (d 15)) dX4_nextOf_28 0 rfl rfl ?_
        refine j_iloadn F dX4_nextOf_31 rfl ?_
        refine j_ialdN F dX4_nextOf_32 (f := s 15) 10 rfl ⟨(Nat.lt_of_lt_of_le h9 hNT), by decide⟩ ?_
        refine j_rdS F (qX4_has (kl k) hst (kD k) (s 7 (ix p0)) (s 15 i)) lk_X4_114 dX4_nextOf_33 ⟨(Nat.le_of_ble_eq_true rfl), (Nat.le_of_ble_eq_true rfl)⟩ (fun _ h => nomatch h) rfl (Nat.le_of_ble_eq_true rfl) ⟨(Nat.le_of_ble_eq_true rfl), (Nat.le_of_ble_eq_true rfl)⟩ ?_
        refine j_ifbeq F (tgt := 56) dX4_nextOf_36 (by decide) (fun h36 => ?_) (fun h36 => ?_)
        · refine j_iincN F [some (.ref (d 0)), some (.int p0), some (.int x), some (.int (nI (i + 1)))] dX4_nextOf_56 rfl rfl rfl rfl ?_
          refine j_goto F (tgt := 4) dX4_nextOf_59 (by decide) ?_
          exact ih4 (i + 1) x (by omega) (by omega) (by rw [M_nextL_s, ← hc_x, M_nextLB, if_pos h18, if_neg h36]) hxb
        · refine j_iloadn F dX4_nextOf_39 rfl ?_
          refine j_iconst F (v := (-1)) dX4_nextOf_40 (by decide) ?_
          refine j_iceq F (tgt := 54) dX4_nextOf_41 (by decide) (fun h41 => ?_) (fun h41 => ?_)
          · refine j_iloadn F dX4_nextOf_54 rfl ?_
            refine j_istoren F [some (.ref (d 0)), some (.int p0), some (.int (nI i)), some (.int (nI i))] dX4_nextOf_55 rfl rfl rfl ?_
            refine j_iincN F [some (.ref (d 0)), some (.int p0), some (.int (nI i)), some (.int (nI (i + 1)))] dX4_nextOf_56 rfl rfl rfl rfl ?_
            refine j_goto F (tgt := 4) dX4_nextOf_59 (by decide) ?_
            exact ih4 (i + 1) (nI i) (by omega) (by omega) (by rw [M_nextL_s, ← hc_x, M_nextLB, if_pos h18, if_pos h36, if_pos h41]) (Or.inr (vp_in_nI (Nat.lt_of_lt_of_le h9 hNT) (by decide)))
          · refine j_aloadn F dX4_nextOf_44 rfl ?_
            refine j_iloadn F dX4_nextOf_45 rfl ?_
            refine j_iloadn F dX4_nextOf_46 rfl ?_
            refine j_iloadn F dX4_nextOf_47 rfl ?_
            refine j_rdV F (qX4_likes (kl k) hst (kD k) d s p0 (nI i) x hI ((vp_in_nI (Nat.lt_of_lt_of_le h9 hNT) (by decide))) ((hxb.resolve_left h41))) lk_X4_131 dX4_nextOf_48 ⟨(Nat.le_of_ble_eq_true rfl), (Nat.le_of_ble_eq_true rfl)⟩ (fun _ h => h) 0 rfl rfl rfl (Nat.le_of_ble_eq_true rfl) ⟨(Nat.le_of_ble_eq_true rfl), (Nat.le_of_ble_eq_true rfl)⟩ ?_
            refine j_ifbeq F (tgt := 56) dX4_nextOf_51 (by decide) (fun h51 => ?_) (fun h51 => ?_)
            · refine j_iincN F [some (.ref (d 0)), some (.int p0), some (.int x), some (.int (nI (i + 1)))] dX4_nextOf_56 rfl rfl rfl rfl ?_
              refine j_goto F (tgt := 4) dX4_nextOf_59 (by decide) ?_
              exact ih4 (i + 1) x (by omega) (by omega) (by rw [M_nextL_s, ← hc_x, M_nextLB, if_pos h18, if_pos h36, if_neg h41, if_neg h51]) hxb
            · refine j_iloadn F dX4_nextOf_54 rfl ?_
              refine j_istoren F [some (.ref (d 0)), some (.int p0), some (.int (nI i)), some (.int (nI i))] dX4_nextOf_55 rfl rfl rfl ?_
              refine j_iincN F [some (.ref (d 0)), some (.int p0), some (.int (nI i)), some (.int (nI (i + 1)))] dX4_nextOf_56 rfl rfl rfl rfl ?_
              refine j_goto F (tgt := 4) dX4_nextOf_59 (by decide) ?_
              exact ih4 (i + 1) (nI i) (by omega) (by omega) (by rw [M_nextL_s, ← hc_x, M_nextLB, if_pos h18, if_pos h36, if_neg h41, if_pos h51]) (Or.inr (vp_in_nI (Nat.lt_of_lt_of_le h9 hNT) (by decide)))
def M_next (s : S2) (p0 : Int32) : Int32 × S2 := if (M_isAgent (u2 s 0 0 0) p0) = true then (M_nextOf (u2 s 0 0 0) p0, u2 s 0 0 0) else ((M_no (u2 s 0 0 0) 1).1, (M_no (u2 s 0 0 0) 1).2)
set_option maxHeartbeats 4000000 in
set_option maxRecDepth 100000 in
theorem qX4_next (l : Launch) (hst : l.stackTraces = false) (D : va_G) (d : Nat → Nat) (s : S2) (p0 : Int32) (hI : MI s) : CM l D yX4_next cX4_next 2 (some .int) 3 68 0 0 (MW D d s) [.ref (d 0), .int p0] (dP (some (.int ((M_next s p0).1))) (MW D d (M_next s p0).2)) := by
  refine CM_of [some (.ref (d 0)), some (.int p0)] hst (by decide +kernel) rfl (Nat.le_of_ble_eq_true rfl) (fun k F hl hD hin hR => ?_)
  subst hl hD
  refine j_aloadn F dX4_next_0 rfl ?_
  refine j_iconst F (v := 0) dX4_next_1 (by decide) ?_
  refine pf_X4_77 F hR.1 dX4_next_2 rfl rfl 0 rfl (Nat.le_of_ble_eq_true rfl) (MW (kD k) d (u2 s 0 0 0)) (mp_0 _ _ _ _) ?_
  refine j_aloadn F dX4_next_5 rfl ?_
  refine j_iloadn F dX4_next_6 rfl ?_
  refine j_rdV F (qX4_isAgent (kl k) hst (kD k) d (u2 s 0 0 0) p0) lk_X4_110 dX4_next_7 ⟨(Nat.le_of_ble_eq_true rfl), (Nat.le_of_ble_eq_true rfl)⟩ (fun _ h => h) 0 rfl rfl rfl (Nat.le_of_ble_eq_true rfl) ⟨(Nat.le_of_ble_eq_true rfl), (Nat.le_of_ble_eq_true rfl)⟩ ?_
  refine j_ifbeq F (tgt := 21) dX4_next_10 (by decide) (fun h10 => ?_) (fun h10 => ?_)
  · refine j_aloadn F dX4_next_21 rfl ?_
    refine j_iconst F (v := 1) dX4_next_22 (by decide) ?_
    refine j_dmV F hR.1 (qX4_no (kl k) hst (kD k) d (u2 s 0 0 0) 1) lk_X4_90 dX4_next_23 ⟨(Nat.le_of_ble_eq_true rfl), (Nat.le_of_ble_eq_true rfl)⟩ 0 rfl rfl rfl (Nat.le_of_ble_eq_true rfl) ⟨(Nat.le_of_ble_eq_true rfl), (Nat.le_of_ble_eq_true rfl)⟩ rfl ?_
    have hz : M_next s p0 = ((M_no (u2 s 0 0 0) 1).1, (M_no (u2 s 0 0 0) 1).2) := by rw [M_next, if_neg h10]
    exact j_iret F hR dX4_next_26 (Nat.le_of_ble_eq_true rfl) (Nat.le_of_ble_eq_true rfl) ⟨by rw [hz], by rw [hz]⟩
  · refine j_aloadn F dX4_next_13 rfl ?_
    refine j_iloadn F dX4_next_14 rfl ?_
    refine j_rdV F (qX4_nextOf (kl k) hst (kD k) d (u2 s 0 0 0) p0 ((MI_u0 (by decide) hI)) ((M_isAgent_in hI h10))) lk_X4_134 dX4_next_15 ⟨(Nat.le_of_ble_eq_true rfl), (Nat.le_of_ble_eq_true rfl)⟩ (fun _ h => h) 0 rfl rfl rfl (Nat.le_of_ble_eq_true rfl) ⟨(Nat.le_of_ble_eq_true rfl), (Nat.le_of_ble_eq_true rfl)⟩ ?_
    refine j_goto F (tgt := 26) dX4_next_18 (by decide) ?_
    have hz : M_next s p0 = (M_nextOf (u2 s 0 0 0) p0, u2 s 0 0 0) := by rw [M_next, if_pos h10]
    exact j_iret F hR dX4_next_26 (Nat.le_of_ble_eq_true rfl) (Nat.le_of_ble_eq_true rfl) ⟨by rw [hz], by rw [hz]⟩
def M_setSkills (s : S2) (p0 : Int32) (p1 : Int32) : Int32 × S2 := if (M_isAgent (u2 s 0 0 0) p0) = true then (if (M_isIn p1 0 255) = true then (if (s 11 (ix p0)) = ((-1)) then (s 7 (ix p0), u2 (u2 s 0 0 0) 7 (ix p0) p1) else if (M_has p1 (s 15 (ix (s 11 (ix p0))))) = true then (s 7 (ix p0), u2 (u2 s 0 0 0) 7 (ix p0) p1) else (s 7 (ix p0), M_leave (u2 (u2 s 0 0 0) 7 (ix p0) p1) (s 11 (ix p0)) 0)) else ((M_no (u2 s 0 0 0) 2).1, (M_no (u2 s 0 0 0) 2).2)) else ((M_no (u2 s 0 0 0) 1).1, (M_no (u2 s 0 0 0) 1).2)
set_option maxHeartbeats 4000000 in
set_option maxRecDepth 100000 in
theorem qX4_setSkills (l : Launch) (hst : l.stackTraces = false) (D : va_G) (d : Nat → Nat) (s : S2) (p0 : Int32) (p1 : Int32) (hI : MI s) : CM l D yX4_setSkills cX4_setSkills 4 (some .int) 2 43 0 0 (MW D d s) [.ref (d 0), .int p0, .int p1] (dP (some (.int ((M_setSkills s p0 p1).1))) (MW D d (M_setSkills s p0 p1).2)) := by
  refine CM_of [some (.ref (d 0)), some (.int p0), some (.int p1), none] hst (by decide +kernel) rfl (Nat.le_of_ble_eq_true rfl) (fun k F hl hD hin hR => ?_)
  subst hl hD
  refine j_aloadn F dX4_setSkills_0 rfl ?_
  refine j_iconst F (v := 0) dX4_setSkills_1 (by decide) ?_
  refine pf_X4_77 F hR.1 dX4_setSkills_2 rfl rfl 0 rfl (Nat.le_of_ble_eq_true rfl) (MW (kD k) d (u2 s 0 0 0)) (mp_0 _ _ _ _) ?_
  refine j_aloadn F dX4_setSkills_5 rfl ?_
  refine j_iloadn F dX4_setSkills_6 rfl ?_
  refine j_rdV F (qX4_isAgent (kl k) hst (kD k) d (u2 s 0 0 0) p0) lk_X4_110 dX4_setSkills_7 ⟨(Nat.le_of_ble_eq_true rfl), (Nat.le_of_ble_eq_true rfl)⟩ (fun _ h => h) 0 rfl rfl rfl (Nat.le_of_ble_eq_true rfl) ⟨(Nat.le_of_ble_eq_true rfl), (Nat.le_of_ble_eq_true rfl)⟩ ?_
  refine j_ifbne F (tgt := 19) dX4_setSkills_10 (by decide) (fun h10 => ?_) (fun h10 => ?_)
  · refine j_iloadn F dX4_setSkills_19 rfl ?_
    refine j_iconst F (v := 0) dX4_setSkills_20 (by decide) ?_
    refine j_sipush F (v := 255) dX4_setSkills_21 (by decide) ?_
    refine j_rdS F (qX4_isIn (kl k) hst (kD k) p1 0 255) lk_X4_83 dX4_setSkills_24 ⟨(Nat.le_of_ble_eq_true rfl), (Nat.le_of_ble_eq_true rfl)⟩ (fun _ h => nomatch h) rfl (Nat.le_of_ble_eq_true rfl) ⟨(Nat.le_of_ble_eq_true rfl), (Nat.le_of_ble_eq_true rfl)⟩ ?_
    refine j_ifbne F (tgt := 36) dX4_setSkills_27 (by decide) (fun h27 => ?_) (fun h27 => ?_)
    · refine j_aloadn F dX4_setSkills_36 rfl ?_
      refine gf_X4_23 F (v := .ref (d 7)) dX4_setSkills_37 0 rfl rfl ?_
      refine j_iloadn F dX4_setSkills_40 rfl ?_
      refine j_iald F dX4_setSkills_41 (f := s 7) 3 rfl (M_isAgent_in hI h10) ?_
      refine j_istoren F [some (.ref (d 0)), some (.int p0), some (.int p1), some (.int (s 7 (ix p0)))] dX4_setSkills_42 rfl rfl rfl ?_
      refine j_aloadn F dX4_setSkills_43 rfl ?_
      refine gf_X4_23 F (v := .ref (d 7)) dX4_setSkills_44 0 rfl rfl ?_
      refine j_iloadn F dX4_setSkills_47 rfl ?_
      refine j_iloadn F dX4_setSkills_48 rfl ?_
      refine j_iast F hR.1 dX4_setSkills_49 3 rfl (M_isAgent_in hI h10) (MW (kD k) d (u2 (u2 s 0 0 0) 7 (ix p0) p1)) (mu_7 _ _ _ _ _) ?_
      refine j_aloadn F dX4_setSkills_50 rfl ?_
      refine gf_X4_35 F (v := .ref (d 11)) dX4_setSkills_51 0 rfl rfl ?_
      refine j_iloadn F dX4_setSkills_54 rfl ?_
      refine j_iald F dX4_setSkills_55 (f := s 11) 7 rfl (M_isAgent_in hI h10) ?_
      refine j_iconst F (v := (-1)) dX4_setSkills_56 (by decide) ?_
      refine j_iceq F (tgt := 89) dX4_setSkills_57 (by decide) (fun h57 => ?_) (fun h57 => ?_)
      · refine j_iloadn F dX4_setSkills_89 rfl ?_
        have hz : M_setSkills s p0 p1 = (s 7 (ix p0), u2 (u2 s 0 0 0) 7 (ix p0) p1) := by rw [M_setSkills, if_pos h10, if_pos h27, if_pos h57]
        exact j_iret F hR dX4_setSkills_90 (Nat.le_of_ble_eq_true rfl) (Nat.le_of_ble_eq_true rfl) ⟨by rw [hz], by rw [hz]⟩
      · refine j_iloadn F dX4_setSkills_60 rfl ?_
        refine j_aloadn F dX4_setSkills_61 rfl ?_
        refine gf_X4_44 F (v := .ref (d 15)) dX4_setSkills_62 0 rfl rfl ?_
        refine j_aloadn F dX4_setSkills_65 rfl ?_
        refine gf_X4_35 F (v := .ref (d 11)) dX4_setSkills_66 0 rfl rfl ?_
        refine j_iloadn F dX4_setSkills_69 rfl ?_
        refine j_iald F dX4_setSkills_70 (f := s 11) 7 rfl (M_isAgent_in hI h10) ?_
        refine j_iald F dX4_setSkills_71 (f := s 15) 10 rfl (MI.hand hI (vp_lt (M_isAgent_in hI h10)) h57) ?_
        refine j_rdS F (qX4_has (kl k) hst (kD k) p1 (s 15 (ix (s 11 (ix p0))))) lk_X4_114 dX4_setSkills_72 ⟨(Nat.le_of_ble_eq_true rfl), (Nat.le_of_ble_eq_true rfl)⟩ (fun _ h => nomatch h) rfl (Nat.le_of_ble_eq_true rfl) ⟨(Nat.le_of_ble_eq_true rfl), (Nat.le_of_ble_eq_true rfl)⟩ ?_
        refine j_ifbne F (tgt := 89) dX4_setSkills_75 (by decide) (fun h75 => ?_) (fun h75 => ?_)
        · refine j_iloadn F dX4_setSkills_89 rfl ?_
          have hz : M_setSkills s p0 p1 = (s 7 (ix p0), u2 (u2 s 0 0 0) 7 (ix p0) p1) := by rw [M_setSkills, if_pos h10, if_pos h27, if_neg h57, if_pos h75]
          exact j_iret F hR dX4_setSkills_90 (Nat.le_of_ble_eq_true rfl) (Nat.le_of_ble_eq_true rfl) ⟨by rw [hz], by rw [hz]⟩
        · refine j_aloadn F dX4_setSkills_78 rfl ?_
          refine j_aloadn F dX4_setSkills_79 rfl ?_
          refine gf_X4_35 F (v := .ref (d 11)) dX4_setSkills_80 0 rfl rfl ?_
          refine j_iloadn F dX4_setSkills_83 rfl ?_
          refine j_iald F dX4_setSkills_84 (f := s 11) 7 rfl (M_isAgent_in hI h10) ?_
          refine j_iconst F (v := 0) dX4_setSkills_85 (by decide) ?_
          refine j_dmV F hR.1 (qX4_leave (kl k) hst (kD k) d (u2 (u2 s 0 0 0) 7 (ix p0) p1) (s 11 (ix p0)) 0 ((MI_u2 (by decide) (MI_u0 (by decide) hI))) ((MI.hand hI (vp_lt (M_isAgent_in hI h10)) h57))) lk_X4_118 dX4_setSkills_86 ⟨(Nat.le_of_ble_eq_true rfl), (Nat.le_of_ble_eq_true rfl)⟩ 0 rfl rfl rfl (Nat.le_of_ble_eq_true rfl) ⟨(Nat.le_of_ble_eq_true rfl), (Nat.le_of_ble_eq_true rfl)⟩ rfl ?_
          refine j_iloadn F dX4_setSkills_89 rfl ?_
          have hz : M_setSkills s p0 p1 = (s 7 (ix p0), M_leave (u2 (u2 s 0 0 0) 7 (ix p0) p1) (s 11 (ix p0)) 0) := by rw [M_setSkills, if_pos h10, if_pos h27, if_neg h57, if_neg h75]
          exact j_iret F hR dX4_setSkills_90 (Nat.le_of_ble_eq_true rfl) (Nat.le_of_ble_eq_true rfl) ⟨by rw [hz], by rw [hz]⟩
    · refine j_aloadn F dX4_setSkills_30 rfl ?_
      refine j_iconst F (v := 2) dX4_setSkills_31 (by decide) ?_
      refine j_dmV F hR.1 (qX4_no (kl k) hst (kD k) d (u2 s 0 0 0) 2) lk_X4_90 dX4_setSkills_32 ⟨(Nat.le_of_ble_eq_true rfl), (Nat.le_of_ble_eq_true rfl)⟩ 0 rfl rfl rfl (Nat.le_of_ble_eq_true rfl) ⟨(Nat.le_of_ble_eq_true rfl), (Nat.le_of_ble_eq_true rfl)⟩ rfl ?_
      have hz : M_setSkills s p0 p1 = ((M_no (u2 s 0 0 0) 2).1, (M_no (u2 s 0 0 0) 2).2) := by rw [M_setSkills, if_pos h10, if_neg h27]
      exact j_iret F hR dX4_setSkills_35 (Nat.le_of_ble_eq_true rfl) (Nat.le_of_ble_eq_true rfl) ⟨by rw [hz], by rw [hz]⟩
  · refine j_aloadn F dX4_setSkills_13 rfl ?_
    refine j_iconst F (v := 1) dX4_setSkills_14 (by decide) ?_
    refine j_dmV F hR.1 (qX4_no (kl k) hst (kD k) d (u2 s 0 0 0) 1) lk_X4_90 dX4_setSkills_15 ⟨(Nat.le_of_ble_eq_true rfl), (Nat.le_of_ble_eq_true rfl)⟩ 0 rfl rfl rfl (Nat.le_of_ble_eq_true rfl) ⟨(Nat.le_of_ble_eq_true rfl), (Nat.le_of_ble_eq_true rfl)⟩ rfl ?_
    have hz : M_setSkills s p0 p1 = ((M_no (u2 s 0 0 0) 1).1, (M_no (u2 s 0 0 0) 1).2) := by rw [M_setSkills, if_neg h10]
    exact j_iret F hR dX4_setSkills_18 (Nat.le_of_ble_eq_true rfl) (Nat.le_of_ble_eq_true rfl) ⟨by rw [hz], by rw [hz]⟩
def M_pause (s : S2) (p0 : Int32) : Int32 × S2 := if (M_isTicket (u2 s 0 0 0) p0) = true then (if (s 19 (ix p0)) ≤ 1 then (((M_leave (u2 s 0 0 0) p0 2) 17 (ix p0)) - ((M_leave (u2 s 0 0 0) p0 2) 21 (ix p0)), u2 (M_leave (u2 s 0 0 0) p0 2) 25 (ix p0) ((M_leave (u2 s 0 0 0) p0 2) 0 1)) else ((M_no (u2 s 0 0 0) 2).1, (M_no (u2 s 0 0 0) 2).2)) else ((M_no (u2 s 0 0 0) 1).1, (M_no (u2 s 0 0 0) 1).2)
set_option maxHeartbeats 4000000 in
set_option maxRecDepth 100000 in
theorem qX4_pause (l : Launch) (hst : l.stackTraces = false) (D : va_G) (d : Nat → Nat) (s : S2) (p0 : Int32) (hI : MI s) : CM l D yX4_pause cX4_pause 2 (some .int) 2 43 0 0 (MW D d s) [.ref (d 0), .int p0] (dP (some (.int ((M_pause s p0).1))) (MW D d (M_pause s p0).2)) := by
  refine CM_of [some (.ref (d 0)), some (.int p0)] hst (by decide +kernel) rfl (Nat.le_of_ble_eq_true rfl) (fun k F hl hD hin hR => ?_)
  subst hl hD
  refine j_aloadn F dX4_pause_0 rfl ?_
  refine j_iconst F (v := 0) dX4_pause_1 (by decide) ?_
  refine pf_X4_77 F hR.1 dX4_pause_2 rfl rfl 0 rfl (Nat.le_of_ble_eq_true rfl) (MW (kD k) d (u2 s 0 0 0)) (mp_0 _ _ _ _) ?_
  refine j_aloadn F dX4_pause_5 rfl ?_
  refine j_iloadn F dX4_pause_6 rfl ?_
  refine j_rdV F (qX4_isTicket (kl k) hst (kD k) d (u2 s 0 0 0) p0) lk_X4_137 dX4_pause_7 ⟨(Nat.le_of_ble_eq_true rfl), (Nat.le_of_ble_eq_true rfl)⟩ (fun _ h => h) 0 rfl rfl rfl (Nat.le_of_ble_eq_true rfl) ⟨(Nat.le_of_ble_eq_true rfl), (Nat.le_of_ble_eq_true rfl)⟩ ?_
  refine j_ifbne F (tgt := 19) dX4_pause_10 (by decide) (fun h10 => ?_) (fun h10 => ?_)
  · refine j_aloadn F dX4_pause_19 rfl ?_
    refine gf_X4_56 F (v := .ref (d 19)) dX4_pause_20 0 rfl rfl ?_
    refine j_iloadn F dX4_pause_23 rfl ?_
    refine j_iald F dX4_pause_24 (f := s 19) 14 rfl (M_isTicket_in hI h10) ?_
    refine j_iconst F (v := 1) dX4_pause_25 (by decide) ?_
    refine j_icle F (tgt := 35) dX4_pause_26 (by decide) (fun h26 => ?_) (fun h26 => ?_)
    · refine j_aloadn F dX4_pause_35 rfl ?_
      refine j_iloadn F dX4_pause_36 rfl ?_
      refine j_iconst F (v := 2) dX4_pause_37 (by decide) ?_
      refine j_dmV F hR.1 (qX4_leave (kl k) hst (kD k) d (u2 s 0 0 0) p0 2 ((MI_u0 (by decide) hI)) ((M_isTicket_in hI h10))) lk_X4_118 dX4_pause_38 ⟨(Nat.le_of_ble_eq_true rfl), (Nat.le_of_ble_eq_true rfl)⟩ 0 rfl rfl rfl (Nat.le_of_ble_eq_true rfl) ⟨(Nat.le_of_ble_eq_true rfl), (Nat.le_of_ble_eq_true rfl)⟩ rfl ?_
      refine j_aloadn F dX4_pause_41 rfl ?_
      refine gf_X4_74 F (v := .ref (d 25)) dX4_pause_42 0 rfl rfl ?_
      refine j_iloadn F dX4_pause_45 rfl ?_
      refine j_aloadn F dX4_pause_46 rfl ?_
      refine gf_X4_94 F (v := .int ((M_leave (u2 s 0 0 0) p0 2) 0 1)) dX4_pause_47 0 rfl rfl ?_
      refine j_iast F hR.1 dX4_pause_50 20 rfl (M_isTicket_in hI h10) (MW (kD k) d (u2 (M_leave (u2 s 0 0 0) p0 2) 25 (ix p0) ((M_leave (u2 s 0 0 0) p0 2) 0 1))) (mu_25 _ _ _ _ _) ?_
      refine j_aloadn F dX4_pause_51 rfl ?_
      refine gf_X4_50 F (v := .ref (d 17)) dX4_pause_52 0 rfl rfl ?_
      refine j_iloadn F dX4_pause_55 rfl ?_
      refine j_iald F dX4_pause_56 (f := (M_leave (u2 s 0 0 0) p0 2) 17) 12 (mgq_17 (u2_ne1 (by decide))) (M_isTicket_in hI h10) ?_
      refine j_aloadn F dX4_pause_57 rfl ?_
      refine gf_X4_62 F (v := .ref (d 21)) dX4_pause_58 0 rfl rfl ?_
      refine j_iloadn F dX4_pause_61 rfl ?_
      refine j_iald F dX4_pause_62 (f := (M_leave (u2 s 0 0 0) p0 2) 21) 16 (mgq_21 (u2_ne1 (by decide))) (M_isTicket_in hI h10) ?_
      refine j_isub F dX4_pause_63 ?_
      have hz : M_pause s p0 = (((M_leave (u2 s 0 0 0) p0 2) 17 (ix p0)) - ((M_leave (u2 s 0 0 0) p0 2) 21 (ix p0)), u2 (M_leave (u2 s 0 0 0) p0 2) 25 (ix p0) ((M_leave (u2 s 0 0 0) p0 2) 0 1)) := by rw [M_pause, if_pos h10, if_pos h26]
      exact j_iret F hR dX4_pause_64 (Nat.le_of_ble_eq_true rfl) (Nat.le_of_ble_eq_true rfl) ⟨by rw [hz], by rw [hz]⟩
    · refine j_aloadn F dX4_pause_29 rfl ?_
      refine j_iconst F (v := 2) dX4_pause_30 (by decide) ?_
      refine j_dmV F hR.1 (qX4_no (kl k) hst (kD k) d (u2 s 0 0 0) 2) lk_X4_90 dX4_pause_31 ⟨(Nat.le_of_ble_eq_true rfl), (Nat.le_of_ble_eq_true rfl)⟩ 0 rfl rfl rfl (Nat.le_of_ble_eq_true rfl) ⟨(Nat.le_of_ble_eq_true rfl), (Nat.le_of_ble_eq_true rfl)⟩ rfl ?_
      have hz : M_pause s p0 = ((M_no (u2 s 0 0 0) 2).1, (M_no (u2 s 0 0 0) 2).2) := by rw [M_pause, if_pos h10, if_neg h26]
      exact j_iret F hR dX4_pause_34 (Nat.le_of_ble_eq_true rfl) (Nat.le_of_ble_eq_true rfl) ⟨by rw [hz], by rw [hz]⟩
  · refine j_aloadn F dX4_pause_13 rfl ?_
    refine j_iconst F (v := 1) dX4_pause_14 (by decide) ?_
    refine j_dmV F hR.1 (qX4_no (kl k) hst (kD k) d (u2 s 0 0 0) 1) lk_X4_90 dX4_pause_15 ⟨(Nat.le_of_ble_eq_true rfl), (Nat.le_of_ble_eq_true rfl)⟩ 0 rfl rfl rfl (Nat.le_of_ble_eq_true rfl) ⟨(Nat.le_of_ble_eq_true rfl), (Nat.le_of_ble_eq_true rfl)⟩ rfl ?_
    have hz : M_pause s p0 = ((M_no (u2 s 0 0 0) 1).1, (M_no (u2 s 0 0 0) 1).2) := by rw [M_pause, if_neg h10]
    exact j_iret F hR dX4_pause_18 (Nat.le_of_ble_eq_true rfl) (Nat.le_of_ble_eq_true rfl) ⟨by rw [hz], by rw [hz]⟩
def M_allLB (s : S2) (p0 : Int32) (i : Nat) (x : Int32) : Int32 := if (s 19 i) = p0 then x ||| (1 <<< ((nI i) &&& 31)) else x
def M_allL (s : S2) (p0 : Int32) : Nat → Int32
  | 0 => 0
  | n + 1 => M_allLB s p0 n (M_allL s p0 n)
theorem M_allL_s (s : S2) (p0 : Int32) (n : Nat) : M_allL s p0 (n + 1) = M_allLB s p0 n (M_allL s p0 n) := rfl
def M_all (s : S2) (p0 : Int32) : Int32 × S2 := if (M_isIn p0 0 4) = true then (M_allL s p0 (ix (s 0 14)), u2 s 0 0 0) else ((M_no (u2 s 0 0 0) 1).1, (M_no (u2 s 0 0 0) 1).2)
set_option maxHeartbeats 4000000 in
set_option maxRecDepth 100000 in
theorem qX4_all (l : Launch) (hst : l.stackTraces = false) (D : va_G) (d : Nat → Nat) (s : S2) (p0 : Int32) (hI : MI s) : CM l D yX4_all cX4_all 4 (some .int) 1 22 0 0 (MW D d s) [.ref (d 0), .int p0] (dP (some (.int ((M_all s p0).1))) (MW D d (M_all s p0).2)) := by
  refine CM_of [some (.ref (d 0)), some (.int p0), none, none] hst (by decide +kernel) rfl (Nat.le_of_ble_eq_true rfl) (fun k F hl hD hin hR => ?_)
  subst hl hD
  have hNT := MI.nT hI
  have eNT := MI.eT hI
  refine j_aloadn F dX4_all_0 rfl ?_
  refine j_iconst F (v := 0) dX4_all_1 (by decide) ?_
  refine pf_X4_77 F hR.1 dX4_all_2 rfl rfl 0 rfl (Nat.le_of_ble_eq_true rfl) (MW (kD k) d (u2 s 0 0 0)) (mp_0 _ _ _ _) ?_
  refine j_iloadn F dX4_all_5 rfl ?_
  refine j_iconst F (v := 0) dX4_all_6 (by decide) ?_
  refine j_iconst F (v := 4) dX4_all_7 (by decide) ?_
  refine j_rdS F (qX4_isIn (kl k) hst (kD k) p0 0 4) lk_X4_83 dX4_all_8 ⟨(Nat.le_of_ble_eq_true rfl), (Nat.le_of_ble_eq_true rfl)⟩ (fun _ h => nomatch h) rfl (Nat.le_of_ble_eq_true rfl) ⟨(Nat.le_of_ble_eq_true rfl), (Nat.le_of_ble_eq_true rfl)⟩ ?_
  refine j_ifbne F (tgt := 20) dX4_all_11 (by decide) (fun h11 => ?_) (fun h11 => ?_)
  · refine j_iconst F (v := 0) dX4_all_20 (by decide) ?_
    refine j_istoren F [some (.ref (d 0)), some (.int p0), some (.int 0), none] dX4_all_21 rfl rfl rfl ?_
    refine j_iconst F (v := 0) dX4_all_22 (by decide) ?_
    refine j_istoren F [some (.ref (d 0)), some (.int p0), some (.int 0), some (.int 0)] dX4_all_23 rfl rfl rfl ?_
    refine (show ∀ (fuel i : Nat) (x : Int32), (ix (s 0 14)) - i < fuel → i ≤ (ix (s 0 14)) → x = M_allL s p0 i →  J k (MW (kD k) d (u2 s 0 0 0)) 0 0 24 [some (.ref (d 0)), some (.int p0), some (.int x), some (.int (nI i))] [] from ?_) ((ix (s 0 14)) + 1) 0 0 (by omega) (Nat.zero_le _) rfl 
    intro fu24
    induction fu24 with
    | zero => intro i x hm; exact absurd hm (Nat.not_lt_zero _)
    | succ fu24 ih24 =>
      intro i x hm24 hi24 hc_x 
      refine j_iloadn F dX4_all_24 rfl ?_
      refine j_aloadn F dX4_all_25 rfl ?_
      refine gf_X4_87 F (v := .int (nI (ix (s 0 14)))) dX4_all_26 0 rfl (mfi_14 eNT) ?_
      refine j_icgeN F (x := i) (y := (ix (s 0 14))) (tgt := 54) dX4_all_29 (by decide) ⟨by omega, by omega⟩ (fun h29 => ?_) (fun h29 => ?_)
      · obtain rfl : i = (ix (s 0 14)) := by omega
        subst hc_x
        refine j_iloadn F dX4_all_54 rfl ?_
        have hz : M_all s p0 = (M_allL s p0 (ix (s 0 14)), u2 s 0 0 0) := by rw [M_all, if_pos h11]
        exact j_iret F hR dX4_all_55 (Nat.le_of_ble_eq_true rfl) (Nat.le_of_ble_eq_true rfl) ⟨by rw [hz], by rw [hz]⟩
      · refine j_aloadn F dX4_all_32 rfl ?_
        refine gf_X4_56 F (v := .ref (d 19)) dX4_all_33 0 rfl rfl ?_
        refine j_iloadn F dX4_all_36 rfl ?_
        refine j_ialdN F dX4_all_37 (f := s 19) 14 rfl ⟨(Nat.lt_of_lt_of_le h29 hNT), by decide⟩ ?_
        refine j_iloadn F dX4_all_38 rfl ?_
        refine j_icne F (tgt := 48) dX4_all_39 (by decide) (fun h39 => ?_) (fun h39 => ?_)
        · refine j_iincN F [some (.ref (d 0)), some (.int p0), some (.int x), some (.int (nI (i + 1)))] dX4_all_48 rfl rfl rfl rfl ?_
          refine j_goto F (tgt := 24) dX4_all_51 (by decide) ?_
          exact ih24 (i + 1) x (by omega) (by omega) (by rw [M_allL_s, ← hc_x, M_allLB, if_neg h39]) 
        · refine j_iloadn F dX4_all_42 rfl ?_
          refine j_iconst F (v := 1) dX4_all_43 (by decide) ?_
          refine j_iloadn F dX4_all_44 rfl ?_
          refine j_ishl F dX4_all_45 ?_
          refine j_ior F dX4_all_46 ?_
          refine j_istoren F [some (.ref (d 0)), some (.int p0), some (.int (x ||| (1 <<< ((nI i) &&& 31)))), some (.int (nI i))] dX4_all_47 rfl rfl rfl ?_
          refine j_iincN F [some (.ref (d 0)), some (.int p0), some (.int (x ||| (1 <<< ((nI i) &&& 31)))), some (.int (nI (i + 1)))] dX4_all_48 rfl rfl rfl rfl ?_
          refine j_goto F (tgt := 24) dX4_all_51 (by decide) ?_
          exact ih24 (i + 1) (x ||| (1 <<< ((nI i) &&& 31))) (by omega) (by omega) (by rw [M_allL_s, ← hc_x, M_allLB, if_pos h39]) 
  · refine j_aloadn F dX4_all_14 rfl ?_
    refine j_iconst F (v := 1) dX4_all_15 (by decide) ?_
    refine j_dmV F hR.1 (qX4_no (kl k) hst (kD k) d (u2 s 0 0 0) 1) lk_X4_90 dX4_all_16 ⟨(Nat.le_of_ble_eq_true rfl), (Nat.le_of_ble_eq_true rfl)⟩ 0 rfl rfl rfl (Nat.le_of_ble_eq_true rfl) ⟨(Nat.le_of_ble_eq_true rfl), (Nat.le_of_ble_eq_true rfl)⟩ rfl ?_
    have hz : M_all s p0 = ((M_no (u2 s 0 0 0) 1).1, (M_no (u2 s 0 0 0) 1).2) := by rw [M_all, if_neg h11]
    exact j_iret F hR dX4_all_19 (Nat.le_of_ble_eq_true rfl) (Nat.le_of_ble_eq_true rfl) ⟨by rw [hz], by rw [hz]⟩
def M_brokenLB (s : S2) (p0 : Bool) (i : Nat) (x : Int32) : Int32 := if (M_breaks (u2 s 0 0 0) (nI i) p0) = true then x ||| (1 <<< ((nI i) &&& 31)) else x
def M_brokenL (s : S2) (p0 : Bool) : Nat → Int32
  | 0 => 0
  | n + 1 => M_brokenLB s p0 n (M_brokenL s p0 n)
theorem M_brokenL_s (s : S2) (p0 : Bool) (n : Nat) : M_brokenL s p0 (n + 1) = M_brokenLB s p0 n (M_brokenL s p0 n) := rfl
def M_broken (s : S2) (p0 : Bool) : Int32 × S2 := (M_brokenL s p0 (ix (s 0 14)), u2 s 0 0 0)
set_option maxHeartbeats 4000000 in
set_option maxRecDepth 100000 in
theorem qX4_broken (l : Launch) (hst : l.stackTraces = false) (D : va_G) (d : Nat → Nat) (s : S2) (p0 : Bool) (hI : MI s) : CM l D yX4_broken cX4_broken 4 (some .int) 1 22 0 0 (MW D d s) [.ref (d 0), .int (b1 p0)] (dP (some (.int ((M_broken s p0).1))) (MW D d (M_broken s p0).2)) := by
  refine CM_of [some (.ref (d 0)), some (.int (b1 p0)), none, none] hst (by decide +kernel) rfl (Nat.le_of_ble_eq_true rfl) (fun k F hl hD hin hR => ?_)
  subst hl hD
  have hNT := MI.nT hI
  have eNT := MI.eT hI
  refine j_aloadn F dX4_broken_0 rfl ?_
  refine j_iconst F (v := 0) dX4_broken_1 (by decide) ?_
  refine pf_X4_77 F hR.1 dX4_broken_2 rfl rfl 0 rfl (Nat.le_of_ble_eq_true rfl) (MW (kD k) d (u2 s 0 0 0)) (mp_0 _ _ _ _) ?_
  refine j_iconst F (v := 0) dX4_broken_5 (by decide) ?_
  refine j_istoren F [some (.ref (d 0)), some (.int (b1 p0)), some (.int 0), none] dX4_broken_6 rfl rfl rfl ?_
  refine j_iconst F (v := 0) dX4_broken_7 (by decide) ?_
  refine j_istoren F [some (.ref (d 0)), some (.int (b1 p0)), some (.int 0), some (.int 0)] dX4_broken_8 rfl rfl rfl ?_
  refine (show ∀ (fuel i : Nat) (x : Int32), (ix (s 0 14)) - i < fuel → i ≤ (ix (s 0 14)) → x = M_brokenL s p0 i →  J k (MW (kD k) d (u2 s 0 0 0)) 0 0 9 [some (.ref (d 0)), some (.int (b1 p0)), some (.int x), some (.int (nI i))] [] from ?_) ((ix (s 0 14)) + 1) 0 0 (by omega) (Nat.zero_le _) rfl 
  intro fu9
  induction fu9 with
  | zero => intro i x hm; exact absurd hm (Nat.not_lt_zero _)
  | succ fu9 ih9 =>
    intro i x hm9 hi9 hc_x 
    refine j_iloadn F dX4_broken_9 rfl ?_
    refine j_aloadn F dX4_broken_10 rfl ?_
    refine gf_X4_87 F (v := .int (nI (ix (s 0 14)))) dX4_broken_11 0 rfl (mfi_14 eNT) ?_
    refine j_icgeN F (x := i) (y := (ix (s 0 14))) (tgt := 38) dX4_broken_14 (by decide) ⟨by omega, by omega⟩ (fun h14 => ?_) (fun h14 => ?_)
    · obtain rfl : i = (ix (s 0 14)) := by omega
      subst hc_x
      refine j_iloadn F dX4_broken_38 rfl ?_
      have hz : M_broken s p0 = (M_brokenL s p0 (ix (s 0 14)), u2 s 0 0 0) := rfl
      exact j_iret F hR dX4_broken_39 (Nat.le_of_ble_eq_true rfl) (Nat.le_of_ble_eq_true rfl) ⟨by rw [hz], by rw [hz]⟩
    · refine j_aloadn F dX4_broken_17 rfl ?_
      refine j_iloadn F dX4_broken_18 rfl ?_
      refine j_iloadn F dX4_broken_19 rfl ?_
      refine j_rdV F (qX4_breaks (kl k) hst (kD k) d (u2 s 0 0 0) (nI i) p0 ((MI_u0 (by decide) hI)) ((vp_in_nI (Nat.lt_of_lt_of_le h14 hNT) (by decide)))) lk_X4_165 dX4_broken_20 ⟨(Nat.le_of_ble_eq_true rfl), (Nat.le_of_ble_eq_true rfl)⟩ (fun _ h => h) 0 rfl rfl rfl (Nat.le_of_ble_eq_true rfl) ⟨(Nat.le_of_ble_eq_true rfl), (Nat.le_of_ble_eq_true rfl)⟩ ?_
      refine j_ifbeq F (tgt := 32) dX4_broken_23 (by decide) (fun h23 => ?_) (fun h23 => ?_)
      · refine j_iincN F [some (.ref (d 0)), some (.int (b1 p0)), some (.int x), some (.int (nI (i + 1)))] dX4_broken_32 rfl rfl rfl rfl ?_
        refine j_goto F (tgt := 9) dX4_broken_35 (by decide) ?_
        exact ih9 (i + 1) x (by omega) (by omega) (by rw [M_brokenL_s, ← hc_x, M_brokenLB, if_neg h23]) 
      · refine j_iloadn F dX4_broken_26 rfl ?_
        refine j_iconst F (v := 1) dX4_broken_27 (by decide) ?_
        refine j_iloadn F dX4_broken_28 rfl ?_
        refine j_ishl F dX4_broken_29 ?_
        refine j_ior F dX4_broken_30 ?_
        refine j_istoren F [some (.ref (d 0)), some (.int (b1 p0)), some (.int (x ||| (1 <<< ((nI i) &&& 31)))), some (.int (nI i))] dX4_broken_31 rfl rfl rfl ?_
        refine j_iincN F [some (.ref (d 0)), some (.int (b1 p0)), some (.int (x ||| (1 <<< ((nI i) &&& 31)))), some (.int (nI (i + 1)))] dX4_broken_32 rfl rfl rfl rfl ?_
        refine j_goto F (tgt := 9) dX4_broken_35 (by decide) ?_
        exact ih9 (i + 1) (x ||| (1 <<< ((nI i) &&& 31))) (by omega) (by omega) (by rw [M_brokenL_s, ← hc_x, M_brokenLB, if_pos h23]) 
def M_lackLB (s : S2) (i : Nat) (x : Int32) : Int32 := if (M_isOpen (u2 s 0 0 0) (nI i)) = true then x ||| (1 <<< ((s 15 i) &&& 31)) else x
def M_lackL (s : S2) : Nat → Int32
  | 0 => 0
  | n + 1 => M_lackLB s n (M_lackL s n)
theorem M_lackL_s (s : S2) (n : Nat) : M_lackL s (n + 1) = M_lackLB s n (M_lackL s n) := rfl
def M_lackMB (s : S2) (i : Nat) (x : Int32) : Int32 := x &&& ((s 7 i) ^^^ ((-1)))
def M_lackM (s : S2) : Nat → Int32
  | 0 => M_lackL s (ix (s 0 14))
  | n + 1 => M_lackMB s n (M_lackM s n)
theorem M_lackM_s (s : S2) (n : Nat) : M_lackM s (n + 1) = M_lackMB s n (M_lackM s n) := rfl
def M_lacking (s : S2) : Int32 × S2 := (M_lackM s (ix (s 0 6)), u2 s 0 0 0)
set_option maxHeartbeats 4000000 in
set_option maxRecDepth 100000 in
theorem qX4_lacking (l : Launch) (hst : l.stackTraces = false) (D : va_G) (d : Nat → Nat) (s : S2) (hI : MI s) : CM l D yX4_lacking cX4_lacking 3 (some .int) 1 21 0 0 (MW D d s) [.ref (d 0)] (dP (some (.int ((M_lacking s).1))) (MW D d (M_lacking s).2)) := by
  refine CM_of [some (.ref (d 0)), none, none] hst (by decide +kernel) rfl (Nat.le_of_ble_eq_true rfl) (fun k F hl hD hin hR => ?_)
  subst hl hD
  have hNT := MI.nT hI
  have eNT := MI.eT hI
  have hNA := MI.nA hI
  have eNA := MI.eA hI
  refine j_aloadn F dX4_lacking_0 rfl ?_
  refine j_iconst F (v := 0) dX4_lacking_1 (by decide) ?_
  refine pf_X4_77 F hR.1 dX4_lacking_2 rfl rfl 0 rfl (Nat.le_of_ble_eq_true rfl) (MW (kD k) d (u2 s 0 0 0)) (mp_0 _ _ _ _) ?_
  refine j_iconst F (v := 0) dX4_lacking_5 (by decide) ?_
  refine j_istoren F [some (.ref (d 0)), some (.int 0), none] dX4_lacking_6 rfl rfl rfl ?_
  refine j_iconst F (v := 0) dX4_lacking_7 (by decide) ?_
  refine j_istoren F [some (.ref (d 0)), some (.int 0), some (.int 0)] dX4_lacking_8 rfl rfl rfl ?_
  refine (show ∀ (fuel i : Nat) (x : Int32), (ix (s 0 14)) - i < fuel → i ≤ (ix (s 0 14)) → x = M_lackL s i →  J k (MW (kD k) d (u2 s 0 0 0)) 0 0 9 [some (.ref (d 0)), some (.int x), some (.int (nI i))] [] from ?_) ((ix (s 0 14)) + 1) 0 0 (by omega) (Nat.zero_le _) rfl 
  intro fu9
  induction fu9 with
  | zero => intro i x hm; exact absurd hm (Nat.not_lt_zero _)
  | succ fu9 ih9 =>
    intro i x hm9 hi9 hc_x 
    refine j_iloadn F dX4_lacking_9 rfl ?_
    refine j_aloadn F dX4_lacking_10 rfl ?_
    refine gf_X4_87 F (v := .int (nI (ix (s 0 14)))) dX4_lacking_11 0 rfl (mfi_14 eNT) ?_
    refine j_icgeN F (x := i) (y := (ix (s 0 14))) (tgt := 42) dX4_lacking_14 (by decide) ⟨by omega, by omega⟩ (fun h14 => ?_) (fun h14 => ?_)
    · obtain rfl : i = (ix (s 0 14)) := by omega
      subst hc_x
      refine j_iconst F (v := 0) dX4_lacking_42 (by decide) ?_
      refine j_istoren F [some (.ref (d 0)), some (.int (M_lackL s (ix (s 0 14)))), some (.int 0)] dX4_lacking_43 rfl rfl rfl ?_
      refine (show ∀ (fuel i : Nat) (x : Int32), (ix (s 0 6)) - i < fuel → i ≤ (ix (s 0 6)) → x = M_lackM s i →  J k (MW (kD k) d (u2 s 0 0 0)) 0 0 44 [some (.ref (d 0)), some (.int x), some (.int (nI i))] [] from ?_) ((ix (s 0 6)) + 1) 0 (M_lackL s (ix (s 0 14))) (by omega) (Nat.zero_le _) rfl 
      intro fu44
      induction fu44 with
      | zero => intro i x hm; exact absurd hm (Nat.not_lt_zero _)
      | succ fu44 ih44 =>
        intro i x hm44 hi44 hc_x 
        refine j_iloadn F dX4_lacking_44 rfl ?_
        refine j_aloadn F dX4_lacking_45 rfl ?_
        refine gf_X4_80 F (v := .int (nI (ix (s 0 6)))) dX4_lacking_46 0 rfl (mfi_6 eNA) ?_
        refine j_icgeN F (x := i) (y := (ix (s 0 6))) (tgt := 69) dX4_lacking_49 (by decide) ⟨by omega, by omega⟩ (fun h49 => ?_) (fun h49 => ?_)
        · obtain rfl : i = (ix (s 0 6)) := by omega
          subst hc_x
          refine j_iloadn F dX4_lacking_69 rfl ?_
          have hz : M_lacking s = (M_lackM s (ix (s 0 6)), u2 s 0 0 0) := rfl
          exact j_iret F hR dX4_lacking_70 (Nat.le_of_ble_eq_true rfl) (Nat.le_of_ble_eq_true rfl) ⟨by rw [hz], by rw [hz]⟩
        · refine j_iloadn F dX4_lacking_52 rfl ?_
          refine j_aloadn F dX4_lacking_53 rfl ?_
          refine gf_X4_23 F (v := .ref (d 7)) dX4_lacking_54 0 rfl rfl ?_
          refine j_iloadn F dX4_lacking_57 rfl ?_
          refine j_ialdN F dX4_lacking_58 (f := s 7) 3 rfl ⟨(Nat.lt_of_lt_of_le h49 hNA), by decide⟩ ?_
          refine j_iconst F (v := (-1)) dX4_lacking_59 (by decide) ?_
          refine j_ixor F dX4_lacking_60 ?_
          refine j_iand F dX4_lacking_61 ?_
          refine j_istoren F [some (.ref (d 0)), some (.int (x &&& ((s 7 i) ^^^ ((-1))))), some (.int (nI i))] dX4_lacking_62 rfl rfl rfl ?_
          refine j_iincN F [some (.ref (d 0)), some (.int (x &&& ((s 7 i) ^^^ ((-1))))), some (.int (nI (i + 1)))] dX4_lacking_63 rfl rfl rfl rfl ?_
          refine j_goto F (tgt := 44) dX4_lacking_66 (by decide) ?_
          exact ih44 (i + 1) (x &&& ((s 7 i) ^^^ ((-1)))) (by omega) (by omega) (by rw [M_lackM_s, ← hc_x, M_lackMB]) 
    · refine j_aloadn F dX4_lacking_17 rfl ?_
      refine j_iloadn F dX4_lacking_18 rfl ?_
      refine j_rdV F (qX4_isOpen (kl k) hst (kD k) d (u2 s 0 0 0) (nI i) ((vp_in_nI (Nat.lt_of_lt_of_le h14 hNT) (by decide)))) lk_X4_140 dX4_lacking_19 ⟨(Nat.le_of_ble_eq_true rfl), (Nat.le_of_ble_eq_true rfl)⟩ (fun _ h => h) 0 rfl rfl rfl (Nat.le_of_ble_eq_true rfl) ⟨(Nat.le_of_ble_eq_true rfl), (Nat.le_of_ble_eq_true rfl)⟩ ?_
      refine j_ifbeq F (tgt := 36) dX4_lacking_22 (by decide) (fun h22 => ?_) (fun h22 => ?_)
      · refine j_iincN F [some (.ref (d 0)), some (.int x), some (.int (nI (i + 1)))] dX4_lacking_36 rfl rfl rfl rfl ?_
        refine j_goto F (tgt := 9) dX4_lacking_39 (by decide) ?_
        exact ih9 (i + 1) x (by omega) (by omega) (by rw [M_lackL_s, ← hc_x, M_lackLB, if_neg h22]) 
      · refine j_iloadn F dX4_lacking_25 rfl ?_
        refine j_iconst F (v := 1) dX4_lacking_26 (by decide) ?_
        refine j_aloadn F dX4_lacking_27 rfl ?_
        refine gf_X4_44 F (v := .ref (d 15)) dX4_lacking_28 0 rfl rfl ?_
        refine j_iloadn F dX4_lacking_31 rfl ?_
        refine j_ialdN F dX4_lacking_32 (f := s 15) 10 rfl ⟨(Nat.lt_of_lt_of_le h14 hNT), by decide⟩ ?_
        refine j_ishl F dX4_lacking_33 ?_
        refine j_ior F dX4_lacking_34 ?_
        refine j_istoren F [some (.ref (d 0)), some (.int (x ||| (1 <<< ((s 15 i) &&& 31)))), some (.int (nI i))] dX4_lacking_35 rfl rfl rfl ?_
        refine j_iincN F [some (.ref (d 0)), some (.int (x ||| (1 <<< ((s 15 i) &&& 31)))), some (.int (nI (i + 1)))] dX4_lacking_36 rfl rfl rfl rfl ?_
        refine j_goto F (tgt := 9) dX4_lacking_39 (by decide) ?_
        exact ih9 (i + 1) (x ||| (1 <<< ((s 15 i) &&& 31))) (by omega) (by omega) (by rw [M_lackL_s, ← hc_x, M_lackLB, if_pos h22]) 
def M_addAgent (s : S2) (p0 : Int32) (p1 : Int32) (p2 : Int32) (p3 : Int32) : Int32 × S2 := if (M_isIn p0 0 255) = true then (if (M_isIn p1 1 127) = true then (if (M_isIn p2 0 1439) = true then (if (M_isIn p3 (p2 + 1) 1440) = true then (if (s 0 6) = 6 then ((M_no (u2 s 0 0 0) 2).1, (M_no (u2 s 0 0 0) 2).2) else (((s 0 6) + 1) - 1, u2 (u2 (u2 (u2 (u2 (u2 (u2 s 0 0 0) 7 (ix (s 0 6)) p0) 8 (ix (s 0 6)) p1) 9 (ix (s 0 6)) p2) 10 (ix (s 0 6)) p3) 11 (ix (s 0 6)) ((-1))) 0 6 ((s 0 6) + 1))) else ((M_no (u2 s 0 0 0) 1).1, (M_no (u2 s 0 0 0) 1).2)) else ((M_no (u2 s 0 0 0) 1).1, (M_no (u2 s 0 0 0) 1).2)) else ((M_no (u2 s 0 0 0) 1).1, (M_no (u2 s 0 0 0) 1).2)) else ((M_no (u2 s 0 0 0) 1).1, (M_no (u2 s 0 0 0) 1).2)
set_option maxHeartbeats 4000000 in
set_option maxRecDepth 100000 in
theorem qX4_addAgent (l : Launch) (hst : l.stackTraces = false) (D : va_G) (d : Nat → Nat) (s : S2) (p0 : Int32) (p1 : Int32) (p2 : Int32) (p3 : Int32) (hI : MI s) : CM l D yX4_addAgent cX4_addAgent 5 (some .int) 1 22 0 0 (MW D d s) [.ref (d 0), .int p0, .int p1, .int p2, .int p3] (dP (some (.int ((M_addAgent s p0 p1 p2 p3).1))) (MW D d (M_addAgent s p0 p1 p2 p3).2)) := by
  refine CM_of [some (.ref (d 0)), some (.int p0), some (.int p1), some (.int p2), some (.int p3)] hst (by decide +kernel) rfl (Nat.le_of_ble_eq_true rfl) (fun k F hl hD hin hR => ?_)
  subst hl hD
  refine j_aloadn F dX4_addAgent_0 rfl ?_
  refine j_iconst F (v := 0) dX4_addAgent_1 (by decide) ?_
  refine pf_X4_77 F hR.1 dX4_addAgent_2 rfl rfl 0 rfl (Nat.le_of_ble_eq_true rfl) (MW (kD k) d (u2 s 0 0 0)) (mp_0 _ _ _ _) ?_
  refine j_iloadn F dX4_addAgent_5 rfl ?_
  refine j_iconst F (v := 0) dX4_addAgent_6 (by decide) ?_
  refine j_sipush F (v := 255) dX4_addAgent_7 (by decide) ?_
  refine j_rdS F (qX4_isIn (kl k) hst (kD k) p0 0 255) lk_X4_83 dX4_addAgent_10 ⟨(Nat.le_of_ble_eq_true rfl), (Nat.le_of_ble_eq_true rfl)⟩ (fun _ h => nomatch h) rfl (Nat.le_of_ble_eq_true rfl) ⟨(Nat.le_of_ble_eq_true rfl), (Nat.le_of_ble_eq_true rfl)⟩ ?_
  refine j_ifbeq F (tgt := 51) dX4_addAgent_13 (by decide) (fun h13 => ?_) (fun h13 => ?_)
  · refine j_aloadn F dX4_addAgent_51 rfl ?_
    refine j_iconst F (v := 1) dX4_addAgent_52 (by decide) ?_
    refine j_dmV F hR.1 (qX4_no (kl k) hst (kD k) d (u2 s 0 0 0) 1) lk_X4_90 dX4_addAgent_53 ⟨(Nat.le_of_ble_eq_true rfl), (Nat.le_of_ble_eq_true rfl)⟩ 0 rfl rfl rfl (Nat.le_of_ble_eq_true rfl) ⟨(Nat.le_of_ble_eq_true rfl), (Nat.le_of_ble_eq_true rfl)⟩ rfl ?_
    have hz : M_addAgent s p0 p1 p2 p3 = ((M_no (u2 s 0 0 0) 1).1, (M_no (u2 s 0 0 0) 1).2) := by rw [M_addAgent, if_neg h13]
    exact j_iret F hR dX4_addAgent_56 (Nat.le_of_ble_eq_true rfl) (Nat.le_of_ble_eq_true rfl) ⟨by rw [hz], by rw [hz]⟩
  · refine j_iloadn F dX4_addAgent_16 rfl ?_
    refine j_iconst F (v := 1) dX4_addAgent_17 (by decide) ?_
    refine j_bipush F (v := 127) dX4_addAgent_18 (by decide) ?_
    refine j_rdS F (qX4_isIn (kl k) hst (kD k) p1 1 127) lk_X4_83 dX4_addAgent_20 ⟨(Nat.le_of_ble_eq_true rfl), (Nat.le_of_ble_eq_true rfl)⟩ (fun _ h => nomatch h) rfl (Nat.le_of_ble_eq_true rfl) ⟨(Nat.le_of_ble_eq_true rfl), (Nat.le_of_ble_eq_true rfl)⟩ ?_
    refine j_ifbeq F (tgt := 51) dX4_addAgent_23 (by decide) (fun h23 => ?_) (fun h23 => ?_)
    · refine j_aloadn F dX4_addAgent_51 rfl ?_
      refine j_iconst F (v := 1) dX4_addAgent_52 (by decide) ?_
      refine j_dmV F hR.1 (qX4_no (kl k) hst (kD k) d (u2 s 0 0 0) 1) lk_X4_90 dX4_addAgent_53 ⟨(Nat.le_of_ble_eq_true rfl), (Nat.le_of_ble_eq_true rfl)⟩ 0 rfl rfl rfl (Nat.le_of_ble_eq_true rfl) ⟨(Nat.le_of_ble_eq_true rfl), (Nat.le_of_ble_eq_true rfl)⟩ rfl ?_
      have hz : M_addAgent s p0 p1 p2 p3 = ((M_no (u2 s 0 0 0) 1).1, (M_no (u2 s 0 0 0) 1).2) := by rw [M_addAgent, if_pos h13, if_neg h23]
      exact j_iret F hR dX4_addAgent_56 (Nat.le_of_ble_eq_true rfl) (Nat.le_of_ble_eq_true rfl) ⟨by rw [hz], by rw [hz]⟩
    · refine j_iloadn F dX4_addAgent_26 rfl ?_
      refine j_iconst F (v := 0) dX4_addAgent_27 (by decide) ?_
      refine j_sipush F (v := 1439) dX4_addAgent_28 (by decide) ?_
      refine j_rdS F (qX4_isIn (kl k) hst (kD k) p2 0 1439) lk_X4_83 dX4_addAgent_31 ⟨(Nat.le_of_ble_eq_true rfl), (Nat.le_of_ble_eq_true rfl)⟩ (fun _ h => nomatch h) rfl (Nat.le_of_ble_eq_true rfl) ⟨(Nat.le_of_ble_eq_true rfl), (Nat.le_of_ble_eq_true rfl)⟩ ?_
      refine j_ifbeq F (tgt := 51) dX4_addAgent_34 (by decide) (fun h34 => ?_) (fun h34 => ?_)
      · refine j_aloadn F dX4_addAgent_51 rfl ?_
        refine j_iconst F (v := 1) dX4_addAgent_52 (by decide) ?_
        refine j_dmV F hR.1 (qX4_no (kl k) hst (kD k) d (u2 s 0 0 0) 1) lk_X4_90 dX4_addAgent_53 ⟨(Nat.le_of_ble_eq_true rfl), (Nat.le_of_ble_eq_true rfl)⟩ 0 rfl rfl rfl (Nat.le_of_ble_eq_true rfl) ⟨(Nat.le_of_ble_eq_true rfl), (Nat.le_of_ble_eq_true rfl)⟩ rfl ?_
        have hz : M_addAgent s p0 p1 p2 p3 = ((M_no (u2 s 0 0 0) 1).1, (M_no (u2 s 0 0 0) 1).2) := by rw [M_addAgent, if_pos h13, if_pos h23, if_neg h34]
        exact j_iret F hR dX4_addAgent_56 (Nat.le_of_ble_eq_true rfl) (Nat.le_of_ble_eq_true rfl) ⟨by rw [hz], by rw [hz]⟩
      · refine j_iload F dX4_addAgent_37 rfl ?_
        refine j_iloadn F dX4_addAgent_39 rfl ?_
        refine j_iconst F (v := 1) dX4_addAgent_40 (by decide) ?_
        refine j_iadd F dX4_addAgent_41 ?_
        refine j_sipush F (v := 1440) dX4_addAgent_42 (by decide) ?_
        refine j_rdS F (qX4_isIn (kl k) hst (kD k) p3 (p2 + 1) 1440) lk_X4_83 dX4_addAgent_45 ⟨(Nat.le_of_ble_eq_true rfl), (Nat.le_of_ble_eq_true rfl)⟩ (fun _ h => nomatch h) rfl (Nat.le_of_ble_eq_true rfl) ⟨(Nat.le_of_ble_eq_true rfl), (Nat.le_of_ble_eq_true rfl)⟩ ?_
        refine j_ifbne F (tgt := 57) dX4_addAgent_48 (by decide) (fun h48 => ?_) (fun h48 => ?_)
        · refine j_aloadn F dX4_addAgent_57 rfl ?_
          refine gf_X4_80 F (v := .int (s 0 6)) dX4_addAgent_58 0 rfl rfl ?_
          refine j_bipush F (v := 6) dX4_addAgent_61 (by decide) ?_
          refine j_icne F (tgt := 72) dX4_addAgent_63 (by decide) (fun h63 => ?_) (fun h63 => ?_)
          · refine j_aloadn F dX4_addAgent_72 rfl ?_
            refine gf_X4_23 F (v := .ref (d 7)) dX4_addAgent_73 0 rfl rfl ?_
            refine j_aloadn F dX4_addAgent_76 rfl ?_
            refine gf_X4_80 F (v := .int (s 0 6)) dX4_addAgent_77 0 rfl rfl ?_
            refine j_iloadn F dX4_addAgent_80 rfl ?_
            refine j_iast F hR.1 dX4_addAgent_81 3 rfl (MI.inA hI h63) (MW (kD k) d (u2 (u2 s 0 0 0) 7 (ix (s 0 6)) p0)) (mu_7 _ _ _ _ _) ?_
            refine j_aloadn F dX4_addAgent_82 rfl ?_
            refine gf_X4_26 F (v := .ref (d 8)) dX4_addAgent_83 0 rfl rfl ?_
            refine j_aloadn F dX4_addAgent_86 rfl ?_
            refine gf_X4_80 F (v := .int (s 0 6)) dX4_addAgent_87 0 rfl rfl ?_
            refine j_iloadn F dX4_addAgent_90 rfl ?_
            refine j_iast F hR.1 dX4_addAgent_91 4 rfl (MI.inA hI h63) (MW (kD k) d (u2 (u2 (u2 s 0 0 0) 7 (ix (s 0 6)) p0) 8 (ix (s 0 6)) p1)) (mu_8 _ _ _ _ _) ?_
            refine j_aloadn F dX4_addAgent_92 rfl ?_
            refine gf_X4_29 F (v := .ref (d 9)) dX4_addAgent_93 0 rfl rfl ?_
            refine j_aloadn F dX4_addAgent_96 rfl ?_
            refine gf_X4_80 F (v := .int (s 0 6)) dX4_addAgent_97 0 rfl rfl ?_
            refine j_iloadn F dX4_addAgent_100 rfl ?_
            refine j_iast F hR.1 dX4_addAgent_101 5 rfl (MI.inA hI h63) (MW (kD k) d (u2 (u2 (u2 (u2 s 0 0 0) 7 (ix (s 0 6)) p0) 8 (ix (s 0 6)) p1) 9 (ix (s 0 6)) p2)) (mu_9 _ _ _ _ _) ?_
            refine j_aloadn F dX4_addAgent_102 rfl ?_
            refine gf_X4_32 F (v := .ref (d 10)) dX4_addAgent_103 0 rfl rfl ?_
            refine j_aloadn F dX4_addAgent_106 rfl ?_
            refine gf_X4_80 F (v := .int (s 0 6)) dX4_addAgent_107 0 rfl rfl ?_
            refine j_iload F dX4_addAgent_110 rfl ?_
            refine j_iast F hR.1 dX4_addAgent_112 6 rfl (MI.inA hI h63) (MW (kD k) d (u2 (u2 (u2 (u2 (u2 s 0 0 0) 7 (ix (s 0 6)) p0) 8 (ix (s 0 6)) p1) 9 (ix (s 0 6)) p2) 10 (ix (s 0 6)) p3)) (mu_10 _ _ _ _ _) ?_
            refine j_aloadn F dX4_addAgent_113 rfl ?_
            refine gf_X4_35 F (v := .ref (d 11)) dX4_addAgent_114 0 rfl rfl ?_
            refine j_aloadn F dX4_addAgent_117 rfl ?_
            refine gf_X4_80 F (v := .int (s 0 6)) dX4_addAgent_118 0 rfl rfl ?_
            refine j_iconst F (v := (-1)) dX4_addAgent_121 (by decide) ?_
            refine j_iast F hR.1 dX4_addAgent_122 7 rfl (MI.inA hI h63) (MW (kD k) d (u2 (u2 (u2 (u2 (u2 (u2 s 0 0 0) 7 (ix (s 0 6)) p0) 8 (ix (s 0 6)) p1) 9 (ix (s 0 6)) p2) 10 (ix (s 0 6)) p3) 11 (ix (s 0 6)) ((-1)))) (mu_11 _ _ _ _ _) ?_
            refine j_aloadn F dX4_addAgent_123 rfl ?_
            refine j_dup F dX4_addAgent_124 rfl ?_
            refine gf_X4_80 F (v := .int (s 0 6)) dX4_addAgent_125 0 rfl rfl ?_
            refine j_iconst F (v := 1) dX4_addAgent_128 (by decide) ?_
            refine j_iadd F dX4_addAgent_129 ?_
            refine pf_X4_80 F hR.1 dX4_addAgent_130 rfl rfl 0 rfl (Nat.le_of_ble_eq_true rfl) (MW (kD k) d (u2 (u2 (u2 (u2 (u2 (u2 (u2 s 0 0 0) 7 (ix (s 0 6)) p0) 8 (ix (s 0 6)) p1) 9 (ix (s 0 6)) p2) 10 (ix (s 0 6)) p3) 11 (ix (s 0 6)) ((-1))) 0 6 ((s 0 6) + 1))) (mp_6 _ _ _ _) ?_
            refine j_aloadn F dX4_addAgent_133 rfl ?_
            refine gf_X4_80 F (v := .int ((s 0 6) + 1)) dX4_addAgent_134 0 rfl rfl ?_
            refine j_iconst F (v := 1) dX4_addAgent_137 (by decide) ?_
            refine j_isub F dX4_addAgent_138 ?_
            have hz : M_addAgent s p0 p1 p2 p3 = (((s 0 6) + 1) - 1, u2 (u2 (u2 (u2 (u2 (u2 (u2 s 0 0 0) 7 (ix (s 0 6)) p0) 8 (ix (s 0 6)) p1) 9 (ix (s 0 6)) p2) 10 (ix (s 0 6)) p3) 11 (ix (s 0 6)) ((-1))) 0 6 ((s 0 6) + 1)) := by rw [M_addAgent, if_pos h13, if_pos h23, if_pos h34, if_pos h48, if_neg h63]
            exact j_iret F hR dX4_addAgent_139 (Nat.le_of_ble_eq_true rfl) (Nat.le_of_ble_eq_true rfl) ⟨by rw [hz], by rw [hz]⟩
          · refine j_aloadn F dX4_addAgent_66 rfl ?_
            refine j_iconst F (v := 2) dX4_addAgent_67 (by decide) ?_
            refine j_dmV F hR.1 (qX4_no (kl k) hst (kD k) d (u2 s 0 0 0) 2) lk_X4_90 dX4_addAgent_68 ⟨(Nat.le_of_ble_eq_true rfl), (Nat.le_of_ble_eq_true rfl)⟩ 0 rfl rfl rfl (Nat.le_of_ble_eq_true rfl) ⟨(Nat.le_of_ble_eq_true rfl), (Nat.le_of_ble_eq_true rfl)⟩ rfl ?_
            have hz : M_addAgent s p0 p1 p2 p3 = ((M_no (u2 s 0 0 0) 2).1, (M_no (u2 s 0 0 0) 2).2) := by rw [M_addAgent, if_pos h13, if_pos h23, if_pos h34, if_pos h48, if_pos h63]
            exact j_iret F hR dX4_addAgent_71 (Nat.le_of_ble_eq_true rfl) (Nat.le_of_ble_eq_true rfl) ⟨by rw [hz], by rw [hz]⟩
        · refine j_aloadn F dX4_addAgent_51 rfl ?_
          refine j_iconst F (v := 1) dX4_addAgent_52 (by decide) ?_
          refine j_dmV F hR.1 (qX4_no (kl k) hst (kD k) d (u2 s 0 0 0) 1) lk_X4_90 dX4_addAgent_53 ⟨(Nat.le_of_ble_eq_true rfl), (Nat.le_of_ble_eq_true rfl)⟩ 0 rfl rfl rfl (Nat.le_of_ble_eq_true rfl) ⟨(Nat.le_of_ble_eq_true rfl), (Nat.le_of_ble_eq_true rfl)⟩ rfl ?_
          have hz : M_addAgent s p0 p1 p2 p3 = ((M_no (u2 s 0 0 0) 1).1, (M_no (u2 s 0 0 0) 1).2) := by rw [M_addAgent, if_pos h13, if_pos h23, if_pos h34, if_neg h48]
          exact j_iret F hR dX4_addAgent_56 (Nat.le_of_ble_eq_true rfl) (Nat.le_of_ble_eq_true rfl) ⟨by rw [hz], by rw [hz]⟩
def M_open (s : S2) (p0 : Int32) (p1 : Int32) (p2 : Int32) (p3 : Int32) : Int32 × S2 := if (M_isIn p0 0 7) = true then (if (M_isIn p1 0 3) = true then (if (M_isIn p2 1 600) = true then (if (M_isIn p3 0 9) = true then (if (s 0 14) = 20 then ((M_no (u2 s 0 0 0) 2).1, (M_no (u2 s 0 0 0) 2).2) else (((s 0 14) + 1) - 1, u2 (u2 (u2 (u2 (u2 (u2 (u2 (u2 s 0 0 0) 15 (ix (s 0 14)) p0) 16 (ix (s 0 14)) p1) 17 (ix (s 0 14)) p2) 18 (ix (s 0 14)) p3) 22 (ix (s 0 14)) ((-1))) 23 (ix (s 0 14)) ((-1))) 0 14 ((s 0 14) + 1))) else ((M_no (u2 s 0 0 0) 1).1, (M_no (u2 s 0 0 0) 1).2)) else ((M_no (u2 s 0 0 0) 1).1, (M_no (u2 s 0 0 0) 1).2)) else ((M_no (u2 s 0 0 0) 1).1, (M_no (u2 s 0 0 0) 1).2)) else ((M_no (u2 s 0 0 0) 1).1, (M_no (u2 s 0 0 0) 1).2)
set_option maxHeartbeats 4000000 in
set_option maxRecDepth 100000 in
theorem qX4_open (l : Launch) (hst : l.stackTraces = false) (D : va_G) (d : Nat → Nat) (s : S2) (p0 : Int32) (p1 : Int32) (p2 : Int32) (p3 : Int32) (hI : MI s) : CM l D yX4_open cX4_open 5 (some .int) 1 22 0 0 (MW D d s) [.ref (d 0), .int p0, .int p1, .int p2, .int p3] (dP (some (.int ((M_open s p0 p1 p2 p3).1))) (MW D d (M_open s p0 p1 p2 p3).2)) := by
  refine CM_of [some (.ref (d 0)), some (.int p0), some (.int p1), some (.int p2), some (.int p3)] hst (by decide +kernel) rfl (Nat.le_of_ble_eq_true rfl) (fun k F hl hD hin hR => ?_)
  subst hl hD
  refine j_aloadn F dX4_open_0 rfl ?_
  refine j_iconst F (v := 0) dX4_open_1 (by decide) ?_
  refine pf_X4_77 F hR.1 dX4_open_2 rfl rfl 0 rfl (Nat.le_of_ble_eq_true rfl) (MW (kD k) d (u2 s 0 0 0)) (mp_0 _ _ _ _) ?_
  refine j_iloadn F dX4_open_5 rfl ?_
  refine j_iconst F (v := 0) dX4_open_6 (by decide) ?_
  refine j_bipush F (v := 7) dX4_open_7 (by decide) ?_
  refine j_rdS F (qX4_isIn (kl k) hst (kD k) p0 0 7) lk_X4_83 dX4_open_9 ⟨(Nat.le_of_ble_eq_true rfl), (Nat.le_of_ble_eq_true rfl)⟩ (fun _ h => nomatch h) rfl (Nat.le_of_ble_eq_true rfl) ⟨(Nat.le_of_ble_eq_true rfl), (Nat.le_of_ble_eq_true rfl)⟩ ?_
  refine j_ifbeq F (tgt := 46) dX4_open_12 (by decide) (fun h12 => ?_) (fun h12 => ?_)
  · refine j_aloadn F dX4_open_46 rfl ?_
    refine j_iconst F (v := 1) dX4_open_47 (by decide) ?_
    refine j_dmV F hR.1 (qX4_no (kl k) hst (kD k) d (u2 s 0 0 0) 1) lk_X4_90 dX4_open_48 ⟨(Nat.le_of_ble_eq_true rfl), (Nat.le_of_ble_eq_true rfl)⟩ 0 rfl rfl rfl (Nat.le_of_ble_eq_true rfl) ⟨(Nat.le_of_ble_eq_true rfl), (Nat.le_of_ble_eq_true rfl)⟩ rfl ?_
    have hz : M_open s p0 p1 p2 p3 = ((M_no (u2 s 0 0 0) 1).1, (M_no (u2 s 0 0 0) 1).2) := by rw [M_open, if_neg h12]
    exact j_iret F hR dX4_open_51 (Nat.le_of_ble_eq_true rfl) (Nat.le_of_ble_eq_true rfl) ⟨by rw [hz], by rw [hz]⟩
  · refine j_iloadn F dX4_open_15 rfl ?_
    refine j_iconst F (v := 0) dX4_open_16 (by decide) ?_
    refine j_iconst F (v := 3) dX4_open_17 (by decide) ?_
    refine j_rdS F (qX4_isIn (kl k) hst (kD k) p1 0 3) lk_X4_83 dX4_open_18 ⟨(Nat.le_of_ble_eq_true rfl), (Nat.le_of_ble_eq_true rfl)⟩ (fun _ h => nomatch h) rfl (Nat.le_of_ble_eq_true rfl) ⟨(Nat.le_of_ble_eq_true rfl), (Nat.le_of_ble_eq_true rfl)⟩ ?_
    refine j_ifbeq F (tgt := 46) dX4_open_21 (by decide) (fun h21 => ?_) (fun h21 => ?_)
    · refine j_aloadn F dX4_open_46 rfl ?_
      refine j_iconst F (v := 1) dX4_open_47 (by decide) ?_
      refine j_dmV F hR.1 (qX4_no (kl k) hst (kD k) d (u2 s 0 0 0) 1) lk_X4_90 dX4_open_48 ⟨(Nat.le_of_ble_eq_true rfl), (Nat.le_of_ble_eq_true rfl)⟩ 0 rfl rfl rfl (Nat.le_of_ble_eq_true rfl) ⟨(Nat.le_of_ble_eq_true rfl), (Nat.le_of_ble_eq_true rfl)⟩ rfl ?_
      have hz : M_open s p0 p1 p2 p3 = ((M_no (u2 s 0 0 0) 1).1, (M_no (u2 s 0 0 0) 1).2) := by rw [M_open, if_pos h12, if_neg h21]
      exact j_iret F hR dX4_open_51 (Nat.le_of_ble_eq_true rfl) (Nat.le_of_ble_eq_true rfl) ⟨by rw [hz], by rw [hz]⟩
    · refine j_iloadn F dX4_open_24 rfl ?_
      refine j_iconst F (v := 1) dX4_open_25 (by decide) ?_
      refine j_sipush F (v := 600) dX4_open_26 (by decide) ?_
      refine j_rdS F (qX4_isIn (kl k) hst (kD k) p2 1 600) lk_X4_83 dX4_open_29 ⟨(Nat.le_of_ble_eq_true rfl), (Nat.le_of_ble_eq_true rfl)⟩ (fun _ h => nomatch h) rfl (Nat.le_of_ble_eq_true rfl) ⟨(Nat.le_of_ble_eq_true rfl), (Nat.le_of_ble_eq_true rfl)⟩ ?_
      refine j_ifbeq F (tgt := 46) dX4_open_32 (by decide) (fun h32 => ?_) (fun h32 => ?_)
      · refine j_aloadn F dX4_open_46 rfl ?_
        refine j_iconst F (v := 1) dX4_open_47 (by decide) ?_
        refine j_dmV F hR.1 (qX4_no (kl k) hst (kD k) d (u2 s 0 0 0) 1) lk_X4_90 dX4_open_48 ⟨(Nat.le_of_ble_eq_true rfl), (Nat.le_of_ble_eq_true rfl)⟩ 0 rfl rfl rfl (Nat.le_of_ble_eq_true rfl) ⟨(Nat.le_of_ble_eq_true rfl), (Nat.le_of_ble_eq_true rfl)⟩ rfl ?_
        have hz : M_open s p0 p1 p2 p3 = ((M_no (u2 s 0 0 0) 1).1, (M_no (u2 s 0 0 0) 1).2) := by rw [M_open, if_pos h12, if_pos h21, if_neg h32]
        exact j_iret F hR dX4_open_51 (Nat.le_of_ble_eq_true rfl) (Nat.le_of_ble_eq_true rfl) ⟨by rw [hz], by rw [hz]⟩
      · refine j_iload F dX4_open_35 rfl ?_
        refine j_iconst F (v := 0) dX4_open_37 (by decide) ?_
        refine j_bipush F (v := 9) dX4_open_38 (by decide) ?_
        refine j_rdS F (qX4_isIn (kl k) hst (kD k) p3 0 9) lk_X4_83 dX4_open_40 ⟨(Nat.le_of_ble_eq_true rfl), (Nat.le_of_ble_eq_true rfl)⟩ (fun _ h => nomatch h) rfl (Nat.le_of_ble_eq_true rfl) ⟨(Nat.le_of_ble_eq_true rfl), (Nat.le_of_ble_eq_true rfl)⟩ ?_
        refine j_ifbne F (tgt := 52) dX4_open_43 (by decide) (fun h43 => ?_) (fun h43 => ?_)
        · refine j_aloadn F dX4_open_52 rfl ?_
          refine gf_X4_87 F (v := .int (s 0 14)) dX4_open_53 0 rfl rfl ?_
          refine j_bipush F (v := 20) dX4_open_56 (by decide) ?_
          refine j_icne F (tgt := 67) dX4_open_58 (by decide) (fun h58 => ?_) (fun h58 => ?_)
          · refine j_aloadn F dX4_open_67 rfl ?_
            refine gf_X4_44 F (v := .ref (d 15)) dX4_open_68 0 rfl rfl ?_
            refine j_aloadn F dX4_open_71 rfl ?_
            refine gf_X4_87 F (v := .int (s 0 14)) dX4_open_72 0 rfl rfl ?_
            refine j_iloadn F dX4_open_75 rfl ?_
            refine j_iast F hR.1 dX4_open_76 10 rfl (MI.inT hI h58) (MW (kD k) d (u2 (u2 s 0 0 0) 15 (ix (s 0 14)) p0)) (mu_15 _ _ _ _ _) ?_
            refine j_aloadn F dX4_open_77 rfl ?_
            refine gf_X4_47 F (v := .ref (d 16)) dX4_open_78 0 rfl rfl ?_
            refine j_aloadn F dX4_open_81 rfl ?_
            refine gf_X4_87 F (v := .int (s 0 14)) dX4_open_82 0 rfl rfl ?_
            refine j_iloadn F dX4_open_85 rfl ?_
            refine j_iast F hR.1 dX4_open_86 11 rfl (MI.inT hI h58) (MW (kD k) d (u2 (u2 (u2 s 0 0 0) 15 (ix (s 0 14)) p0) 16 (ix (s 0 14)) p1)) (mu_16 _ _ _ _ _) ?_
            refine j_aloadn F dX4_open_87 rfl ?_
            refine gf_X4_50 F (v := .ref (d 17)) dX4_open_88 0 rfl rfl ?_
            refine j_aloadn F dX4_open_91 rfl ?_
            refine gf_X4_87 F (v := .int (s 0 14)) dX4_open_92 0 rfl rfl ?_
            refine j_iloadn F dX4_open_95 rfl ?_
            refine j_iast F hR.1 dX4_open_96 12 rfl (MI.inT hI h58) (MW (kD k) d (u2 (u2 (u2 (u2 s 0 0 0) 15 (ix (s 0 14)) p0) 16 (ix (s 0 14)) p1) 17 (ix (s 0 14)) p2)) (mu_17 _ _ _ _ _) ?_
            refine j_aloadn F dX4_open_97 rfl ?_
            refine gf_X4_53 F (v := .ref (d 18)) dX4_open_98 0 rfl rfl ?_
            refine j_aloadn F dX4_open_101 rfl ?_
            refine gf_X4_87 F (v := .int (s 0 14)) dX4_open_102 0 rfl rfl ?_
            refine j_iload F dX4_open_105 rfl ?_
            refine j_iast F hR.1 dX4_open_107 13 rfl (MI.inT hI h58) (MW (kD k) d (u2 (u2 (u2 (u2 (u2 s 0 0 0) 15 (ix (s 0 14)) p0) 16 (ix (s 0 14)) p1) 17 (ix (s 0 14)) p2) 18 (ix (s 0 14)) p3)) (mu_18 _ _ _ _ _) ?_
            refine j_aloadn F dX4_open_108 rfl ?_
            refine gf_X4_65 F (v := .ref (d 22)) dX4_open_109 0 rfl rfl ?_
            refine j_aloadn F dX4_open_112 rfl ?_
            refine gf_X4_87 F (v := .int (s 0 14)) dX4_open_113 0 rfl rfl ?_
            refine j_iconst F (v := (-1)) dX4_open_116 (by decide) ?_
            refine j_iast F hR.1 dX4_open_117 17 rfl (MI.inT hI h58) (MW (kD k) d (u2 (u2 (u2 (u2 (u2 (u2 s 0 0 0) 15 (ix (s 0 14)) p0) 16 (ix (s 0 14)) p1) 17 (ix (s 0 14)) p2) 18 (ix (s 0 14)) p3) 22 (ix (s 0 14)) ((-1)))) (mu_22 _ _ _ _ _) ?_
            refine j_aloadn F dX4_open_118 rfl ?_
            refine gf_X4_68 F (v := .ref (d 23)) dX4_open_119 0 rfl rfl ?_
            refine j_aloadn F dX4_open_122 rfl ?_
            refine gf_X4_87 F (v := .int (s 0 14)) dX4_open_123 0 rfl rfl ?_
            refine j_iconst F (v := (-1)) dX4_open_126 (by decide) ?_
            refine j_iast F hR.1 dX4_open_127 18 rfl (MI.inT hI h58) (MW (kD k) d (u2 (u2 (u2 (u2 (u2 (u2 (u2 s 0 0 0) 15 (ix (s 0 14)) p0) 16 (ix (s 0 14)) p1) 17 (ix (s 0 14)) p2) 18 (ix (s 0 14)) p3) 22 (ix (s 0 14)) ((-1))) 23 (ix (s 0 14)) ((-1)))) (mu_23 _ _ _ _ _) ?_
            refine j_aloadn F dX4_open_128 rfl ?_
            refine j_dup F dX4_open_129 rfl ?_
            refine gf_X4_87 F (v := .int (s 0 14)) dX4_open_130 0 rfl rfl ?_
            refine j_iconst F (v := 1) dX4_open_133 (by decide) ?_
            refine j_iadd F dX4_open_134 ?_
            refine pf_X4_87 F hR.1 dX4_open_135 rfl rfl 0 rfl (Nat.le_of_ble_eq_true rfl) (MW (kD k) d (u2 (u2 (u2 (u2 (u2 (u2 (u2 (u2 s 0 0 0) 15 (ix (s 0 14)) p0) 16 (ix (s 0 14)) p1) 17 (ix (s 0 14)) p2) 18 (ix (s 0 14)) p3) 22 (ix (s 0 14)) ((-1))) 23 (ix (s 0 14)) ((-1))) 0 14 ((s 0 14) + 1))) (mp_14 _ _ _ _) ?_
            refine j_aloadn F dX4_open_138 rfl ?_
            refine gf_X4_87 F (v := .int ((s 0 14) + 1)) dX4_open_139 0 rfl rfl ?_
            refine j_iconst F (v := 1) dX4_open_142 (by decide) ?_
            refine j_isub F dX4_open_143 ?_
            have hz : M_open s p0 p1 p2 p3 = (((s 0 14) + 1) - 1, u2 (u2 (u2 (u2 (u2 (u2 (u2 (u2 s 0 0 0) 15 (ix (s 0 14)) p0) 16 (ix (s 0 14)) p1) 17 (ix (s 0 14)) p2) 18 (ix (s 0 14)) p3) 22 (ix (s 0 14)) ((-1))) 23 (ix (s 0 14)) ((-1))) 0 14 ((s 0 14) + 1)) := by rw [M_open, if_pos h12, if_pos h21, if_pos h32, if_pos h43, if_neg h58]
            exact j_iret F hR dX4_open_144 (Nat.le_of_ble_eq_true rfl) (Nat.le_of_ble_eq_true rfl) ⟨by rw [hz], by rw [hz]⟩
          · refine j_aloadn F dX4_open_61 rfl ?_
            refine j_iconst F (v := 2) dX4_open_62 (by decide) ?_
            refine j_dmV F hR.1 (qX4_no (kl k) hst (kD k) d (u2 s 0 0 0) 2) lk_X4_90 dX4_open_63 ⟨(Nat.le_of_ble_eq_true rfl), (Nat.le_of_ble_eq_true rfl)⟩ 0 rfl rfl rfl (Nat.le_of_ble_eq_true rfl) ⟨(Nat.le_of_ble_eq_true rfl), (Nat.le_of_ble_eq_true rfl)⟩ rfl ?_
            have hz : M_open s p0 p1 p2 p3 = ((M_no (u2 s 0 0 0) 2).1, (M_no (u2 s 0 0 0) 2).2) := by rw [M_open, if_pos h12, if_pos h21, if_pos h32, if_pos h43, if_pos h58]
            exact j_iret F hR dX4_open_66 (Nat.le_of_ble_eq_true rfl) (Nat.le_of_ble_eq_true rfl) ⟨by rw [hz], by rw [hz]⟩
        · refine j_aloadn F dX4_open_46 rfl ?_
          refine j_iconst F (v := 1) dX4_open_47 (by decide) ?_
          refine j_dmV F hR.1 (qX4_no (kl k) hst (kD k) d (u2 s 0 0 0) 1) lk_X4_90 dX4_open_48 ⟨(Nat.le_of_ble_eq_true rfl), (Nat.le_of_ble_eq_true rfl)⟩ 0 rfl rfl rfl (Nat.le_of_ble_eq_true rfl) ⟨(Nat.le_of_ble_eq_true rfl), (Nat.le_of_ble_eq_true rfl)⟩ rfl ?_
          have hz : M_open s p0 p1 p2 p3 = ((M_no (u2 s 0 0 0) 1).1, (M_no (u2 s 0 0 0) 1).2) := by rw [M_open, if_pos h12, if_pos h21, if_pos h32, if_neg h43]
          exact j_iret F hR dX4_open_51 (Nat.le_of_ble_eq_true rfl) (Nat.le_of_ble_eq_true rfl) ⟨by rw [hz], by rw [hz]⟩
