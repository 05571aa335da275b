theorem notMerged {s : S2} {p : Int32} (h : M_isOpen s p = true) : ¬ s 19 (ix p) = 4 := fun e => by
  rw [M_isOpen, e, if_pos (by decide)] at h
  cases h
theorem minPrio {x y : Int32} (h1 : vp_in x 4) (h2 : vp_in y 4) : vp_in (if x < y then x else y) 4 := by
  split
  · exact h1
  · exact h2
theorem prioLeave {s : S2} {p q : Int32} {t : Nat} (h : MI s) (ht : t < 20) : vp_in (M_leave (u2 s 0 0 0) p q 16 t) 4 := by
  rw [M_leave_fn (by decide) (by decide), u2_ne1 (by decide)]
  exact h.prio ht
def M_merge (s : S2) (p0 : Int32) (p1 : Int32) : Int32 × S2 := if (M_isTicket (u2 s 0 0 0) p0) = true then (if (M_isTicket (u2 s 0 0 0) p1) = true then (if p0 = p1 then ((M_no (u2 s 0 0 0) 2).1, (M_no (u2 s 0 0 0) 2).2) else if (M_isOpen (u2 s 0 0 0) p0) = true then (if (M_isOpen (u2 s 0 0 0) p1) = true then (M_customersOf (u2 (u2 (u2 (M_leave (u2 s 0 0 0) p0 4) 25 (ix p0) p1) 16 (ix p1) (if ((M_leave (u2 s 0 0 0) p0 4) 16 (ix p0)) < ((M_leave (u2 s 0 0 0) p0 4) 16 (ix p1)) then ((M_leave (u2 s 0 0 0) p0 4) 16 (ix p0)) else ((M_leave (u2 s 0 0 0) p0 4) 16 (ix p1)))) 20 (ix p1) (if ((M_leave (u2 s 0 0 0) p0 4) 20 (ix p1)) < ((M_leave (u2 s 0 0 0) p0 4) 20 (ix p0)) then ((M_leave (u2 s 0 0 0) p0 4) 20 (ix p0)) else ((M_leave (u2 s 0 0 0) p0 4) 20 (ix p1)))) p1, u2 (u2 (u2 (M_leave (u2 s 0 0 0) p0 4) 25 (ix p0) p1) 16 (ix p1) (if ((M_leave (u2 s 0 0 0) p0 4) 16 (ix p0)) < ((M_leave (u2 s 0 0 0) p0 4) 16 (ix p1)) then ((M_leave (u2 s 0 0 0) p0 4) 16 (ix p0)) else ((M_leave (u2 s 0 0 0) p0 4) 16 (ix p1)))) 20 (ix p1) (if ((M_leave (u2 s 0 0 0) p0 4) 20 (ix p1)) < ((M_leave (u2 s 0 0 0) p0 4) 20 (ix p0)) then ((M_leave (u2 s 0 0 0) p0 4) 20 (ix p0)) else ((M_leave (u2 s 0 0 0) p0 4) 20 (ix p1)))) else ((M_no (u2 s 0 0 0) 3).1, (M_no (u2 s 0 0 0) 3).2)) else ((M_no (u2 s 0 0 0) 3).1, (M_no (u2 s 0 0 0) 3).2)) else ((M_no (u2 s 0 0 0) 1).1, (M_no (u2 s 0 0 0) 1).2)) else ((M_no (u2 s 0 0 0) 1).1, (M_no (u2 s 0 0 0) 1).2)
set_option maxHeartbeats 4000000 in
set_option maxRecDepth 100000 in
theorem qX4_merge (l : Launch) (hst : l.stackTraces = false) (D : va_G) (d : Nat → Nat) (s : S2) (p0 : Int32) (p1 : Int32) (hI : MI s) : CM l D yX4_merge cX4_merge 3 (some .int) 2 46 0 0 (MW D d s) [.ref (d 0), .int p0, .int p1] (dP (some (.int ((M_merge s p0 p1).1))) (MW D d (M_merge s p0 p1).2)) := by
  refine CM_of [some (.ref (d 0)), some (.int p0), some (.int p1)] hst (by decide +kernel) rfl (Nat.le_of_ble_eq_true rfl) (fun k F hl hD hin hR => ?_)
  subst hl hD
  refine j_aloadn F dX4_merge_0 rfl ?_
  refine j_iconst F (v := 0) dX4_merge_1 (by decide) ?_
  refine pf_X4_77 F hR.1 dX4_merge_2 rfl rfl 0 rfl (Nat.le_of_ble_eq_true rfl) (MW (kD k) d (u2 s 0 0 0)) (mp_0 _ _ _ _) ?_
  refine j_aloadn F dX4_merge_5 rfl ?_
  refine j_iloadn F dX4_merge_6 rfl ?_
  refine j_rdV F (qX4_isTicket (kl k) hst (kD k) d (u2 s 0 0 0) p0) lk_X4_137 dX4_merge_7 ⟨(Nat.le_of_ble_eq_true rfl), (Nat.le_of_ble_eq_true rfl)⟩ (fun _ h => h) 0 rfl rfl rfl (Nat.le_of_ble_eq_true rfl) ⟨(Nat.le_of_ble_eq_true rfl), (Nat.le_of_ble_eq_true rfl)⟩ ?_
  refine j_ifbeq F (tgt := 21) dX4_merge_10 (by decide) (fun h10 => ?_) (fun h10 => ?_)
  · refine j_aloadn F dX4_merge_21 rfl ?_
    refine j_iconst F (v := 1) dX4_merge_22 (by decide) ?_
    refine j_dmV F hR.1 (qX4_no (kl k) hst (kD k) d (u2 s 0 0 0) 1) lk_X4_90 dX4_merge_23 ⟨(Nat.le_of_ble_eq_true rfl), (Nat.le_of_ble_eq_true rfl)⟩ 0 rfl rfl rfl (Nat.le_of_ble_eq_true rfl) ⟨(Nat.le_of_ble_eq_true rfl), (Nat.le_of_ble_eq_true rfl)⟩ rfl ?_
    have hz : M_merge s p0 p1 = ((M_no (u2 s 0 0 0) 1).1, (M_no (u2 s 0 0 0) 1).2) := by rw [M_merge, if_neg h10]
    exact j_iret F hR dX4_merge_26 (Nat.le_of_ble_eq_true rfl) (Nat.le_of_ble_eq_true rfl) ⟨by rw [hz], by rw [hz]⟩
  · refine j_aloadn F dX4_merge_13 rfl ?_
    refine j_iloadn F dX4_merge_14 rfl ?_
    refine j_rdV F (qX4_isTicket (kl k) hst (kD k) d (u2 s 0 0 0) p1) lk_X4_137 dX4_merge_15 ⟨(Nat.le_of_ble_eq_true rfl), (Nat.le_of_ble_eq_true rfl)⟩ (fun _ h => h) 0 rfl rfl rfl (Nat.le_of_ble_eq_true rfl) ⟨(Nat.le_of_ble_eq_true rfl), (Nat.le_of_ble_eq_true rfl)⟩ ?_
    refine j_ifbne F (tgt := 27) dX4_merge_18 (by decide) (fun h18 => ?_) (fun h18 => ?_)
    · refine j_iloadn F dX4_merge_27 rfl ?_
      refine j_iloadn F dX4_merge_28 rfl ?_
      refine j_icne F (tgt := 38) dX4_merge_29 (by decide) (fun h29 => ?_) (fun h29 => ?_)
      · refine j_aloadn F dX4_merge_38 rfl ?_
        refine j_iloadn F dX4_merge_39 rfl ?_
        refine j_rdV F (qX4_isOpen (kl k) hst (kD k) d (u2 s 0 0 0) p0 ((M_isTicket_in hI h10))) lk_X4_140 dX4_merge_40 ⟨(Nat.le_of_ble_eq_true rfl), (Nat.le_of_ble_eq_true rfl)⟩ (fun _ h => h) 0 rfl rfl rfl (Nat.le_of_ble_eq_true rfl) ⟨(Nat.le_of_ble_eq_true rfl), (Nat.le_of_ble_eq_true rfl)⟩ ?_
        refine j_ifbeq F (tgt := 54) dX4_merge_43 (by decide) (fun h43 => ?_) (fun h43 => ?_)
        · refine j_aloadn F dX4_merge_54 rfl ?_
          refine j_iconst F (v := 3) dX4_merge_55 (by decide) ?_
          refine j_dmV F hR.1 (qX4_no (kl k) hst (kD k) d (u2 s 0 0 0) 3) lk_X4_90 dX4_merge_56 ⟨(Nat.le_of_ble_eq_true rfl), (Nat.le_of_ble_eq_true rfl)⟩ 0 rfl rfl rfl (Nat.le_of_ble_eq_true rfl) ⟨(Nat.le_of_ble_eq_true rfl), (Nat.le_of_ble_eq_true rfl)⟩ rfl ?_
          have hz : M_merge s p0 p1 = ((M_no (u2 s 0 0 0) 3).1, (M_no (u2 s 0 0 0) 3).2) := by rw [M_merge, if_pos h10, if_pos h18, if_neg h29, if_neg h43]
          exact j_iret F hR dX4_merge_59 (Nat.le_of_ble_eq_true rfl) (Nat.le_of_ble_eq_true rfl) ⟨by rw [hz], by rw [hz]⟩
        · refine j_aloadn F dX4_merge_46 rfl ?_
          refine j_iloadn F dX4_merge_47 rfl ?_
          refine j_rdV F (qX4_isOpen (kl k) hst (kD k) d (u2 s 0 0 0) p1 ((M_isTicket_in hI h18))) lk_X4_140 dX4_merge_48 ⟨(Nat.le_of_ble_eq_true rfl), (Nat.le_of_ble_eq_true rfl)⟩ (fun _ h => h) 0 rfl rfl rfl (Nat.le_of_ble_eq_true rfl) ⟨(Nat.le_of_ble_eq_true rfl), (Nat.le_of_ble_eq_true rfl)⟩ ?_
          refine j_ifbne F (tgt := 60) dX4_merge_51 (by decide) (fun h51 => ?_) (fun h51 => ?_)
          · refine j_aloadn F dX4_merge_60 rfl ?_
            refine j_iloadn F dX4_merge_61 rfl ?_
            refine j_iconst F (v := 4) dX4_merge_62 (by decide) ?_
            refine j_dmV F hR.1 (qX4_leave (kl k) hst (kD k) d (u2 s 0 0 0) p0 4 ((MI_u0 (by decide) hI)) ((M_isTicket_in hI h10))) lk_X4_118 dX4_merge_63 ⟨(Nat.le_of_ble_eq_true rfl), (Nat.le_of_ble_eq_true rfl)⟩ 0 rfl rfl rfl (Nat.le_of_ble_eq_true rfl) ⟨(Nat.le_of_ble_eq_true rfl), (Nat.le_of_ble_eq_true rfl)⟩ rfl ?_
            refine j_aloadn F dX4_merge_66 rfl ?_
            refine gf_X4_74 F (v := .ref (d 25)) dX4_merge_67 0 rfl rfl ?_
            refine j_iloadn F dX4_merge_70 rfl ?_
            refine j_iloadn F dX4_merge_71 rfl ?_
            refine j_iast F hR.1 dX4_merge_72 20 rfl (M_isTicket_in hI h10) (MW (kD k) d (u2 (M_leave (u2 s 0 0 0) p0 4) 25 (ix p0) p1)) (mu_25 _ _ _ _ _) ?_
            refine j_aloadn F dX4_merge_73 rfl ?_
            refine gf_X4_47 F (v := .ref (d 16)) dX4_merge_74 0 rfl rfl ?_
            refine j_iloadn F dX4_merge_77 rfl ?_
            refine j_aloadn F dX4_merge_78 rfl ?_
            refine gf_X4_47 F (v := .ref (d 16)) dX4_merge_79 0 rfl rfl ?_
            refine j_iloadn F dX4_merge_82 rfl ?_
            refine j_iald F dX4_merge_83 (f := (M_leave (u2 s 0 0 0) p0 4) 16) 11 (mgq_16 (u2_ne1 (by decide))) (M_isTicket_in hI h18) ?_
            refine j_aloadn F dX4_merge_84 rfl ?_
            refine gf_X4_47 F (v := .ref (d 16)) dX4_merge_85 0 rfl rfl ?_
            refine j_iloadn F dX4_merge_88 rfl ?_
            refine j_iald F dX4_merge_89 (f := (M_leave (u2 s 0 0 0) p0 4) 16) 11 (mgq_16 (u2_ne1 (by decide))) (M_isTicket_in hI h10) ?_
            refine j_mmin F um_X4_97 us_min ui_Math ud_min dX4_merge_90 ⟨(Nat.le_of_ble_eq_true rfl), (Nat.le_of_ble_eq_true rfl), (Nat.le_of_ble_eq_true rfl), (Nat.le_of_ble_eq_true rfl)⟩ ?_
            refine j_iast F hR.1 dX4_merge_93 11 rfl (M_isTicket_in hI h18) (MW (kD k) d (u2 (u2 (M_leave (u2 s 0 0 0) p0 4) 25 (ix p0) p1) 16 (ix p1) (if ((M_leave (u2 s 0 0 0) p0 4) 16 (ix p0)) < ((M_leave (u2 s 0 0 0) p0 4) 16 (ix p1)) then ((M_leave (u2 s 0 0 0) p0 4) 16 (ix p0)) else ((M_leave (u2 s 0 0 0) p0 4) 16 (ix p1))))) (mu_16 _ _ _ _ _) ?_
            refine j_aloadn F dX4_merge_94 rfl ?_
            refine gf_X4_59 F (v := .ref (d 20)) dX4_merge_95 0 rfl rfl ?_
            refine j_iloadn F dX4_merge_98 rfl ?_
            refine j_aloadn F dX4_merge_99 rfl ?_
            refine gf_X4_59 F (v := .ref (d 20)) dX4_merge_100 0 rfl rfl ?_
            refine j_iloadn F dX4_merge_103 rfl ?_
            refine j_iald F dX4_merge_104 (f := (M_leave (u2 s 0 0 0) p0 4) 20) 15 (mgq_20 (Eq.trans (u2_ne1 (by decide)) (u2_ne1 (by decide)))) (M_isTicket_in hI h18) ?_
            refine j_aloadn F dX4_merge_105 rfl ?_
            refine gf_X4_59 F (v := .ref (d 20)) dX4_merge_106 0 rfl rfl ?_
            refine j_iloadn F dX4_merge_109 rfl ?_
            refine j_iald F dX4_merge_110 (f := (M_leave (u2 s 0 0 0) p0 4) 20) 15 (mgq_20 (Eq.trans (u2_ne1 (by decide)) (u2_ne1 (by decide)))) (M_isTicket_in hI h10) ?_
            refine j_mmax F um_X4_103 us_max ui_Math ud_max dX4_merge_111 ⟨(Nat.le_of_ble_eq_true rfl), (Nat.le_of_ble_eq_true rfl), (Nat.le_of_ble_eq_true rfl), (Nat.le_of_ble_eq_true rfl)⟩ ?_
            refine j_iast F hR.1 dX4_merge_114 15 rfl (M_isTicket_in hI h18) (MW (kD k) d (u2 (u2 (u2 (M_leave (u2 s 0 0 0) p0 4) 25 (ix p0) p1) 16 (ix p1) (if ((M_leave (u2 s 0 0 0) p0 4) 16 (ix p0)) < ((M_leave (u2 s 0 0 0) p0 4) 16 (ix p1)) then ((M_leave (u2 s 0 0 0) p0 4) 16 (ix p0)) else ((M_leave (u2 s 0 0 0) p0 4) 16 (ix p1)))) 20 (ix p1) (if ((M_leave (u2 s 0 0 0) p0 4) 20 (ix p1)) < ((M_leave (u2 s 0 0 0) p0 4) 20 (ix p0)) then ((M_leave (u2 s 0 0 0) p0 4) 20 (ix p0)) else ((M_leave (u2 s 0 0 0) p0 4) 20 (ix p1))))) (mu_20 _ _ _ _ _) ?_
            refine j_aloadn F dX4_merge_115 rfl ?_
            refine j_iloadn F dX4_merge_116 rfl ?_
            refine j_rdV F (qX4_customersOf (kl k) hst (kD k) d (u2 (u2 (u2 (M_leave (u2 s 0 0 0) p0 4) 25 (ix p0) p1) 16 (ix p1) (if ((M_leave (u2 s 0 0 0) p0 4) 16 (ix p0)) < ((M_leave (u2 s 0 0 0) p0 4) 16 (ix p1)) then ((M_leave (u2 s 0 0 0) p0 4) 16 (ix p0)) else ((M_leave (u2 s 0 0 0) p0 4) 16 (ix p1)))) 20 (ix p1) (if ((M_leave (u2 s 0 0 0) p0 4) 20 (ix p1)) < ((M_leave (u2 s 0 0 0) p0 4) 20 (ix p0)) then ((M_leave (u2 s 0 0 0) p0 4) 20 (ix p0)) else ((M_leave (u2 s 0 0 0) p0 4) 20 (ix p1)))) p1 ((MI_u2 (by decide) (MI_merge (MI_u0 (by decide) hI) (M_isTicket_in hI h10) (M_isTicket_in hI h18) h29 (notMerged h51) (minPrio (prioLeave hI (vp_lt (M_isTicket_in hI h10))) (prioLeave hI (vp_lt (M_isTicket_in hI h18)))))))) lk_X4_143 dX4_merge_117 ⟨(Nat.le_of_ble_eq_true rfl), (Nat.le_of_ble_eq_true rfl)⟩ (fun _ h => h) 0 rfl rfl rfl (Nat.le_of_ble_eq_true rfl) ⟨(Nat.le_of_ble_eq_true rfl), (Nat.le_of_ble_eq_true rfl)⟩ ?_
            have hz : M_merge s p0 p1 = (M_customersOf (u2 (u2 (u2 (M_leave (u2 s 0 0 0) p0 4) 25 (ix p0) p1) 16 (ix p1) (if ((M_leave (u2 s 0 0 0) p0 4) 16 (ix p0)) < ((M_leave (u2 s 0 0 0) p0 4) 16 (ix p1)) then ((M_leave (u2 s 0 0 0) p0 4) 16 (ix p0)) else ((M_leave (u2 s 0 0 0) p0 4) 16 (ix p1)))) 20 (ix p1) (if ((M_leave (u2 s 0 0 0) p0 4) 20 (ix p1)) < ((M_leave (u2 s 0 0 0) p0 4) 20 (ix p0)) then ((M_leave (u2 s 0 0 0) p0 4) 20 (ix p0)) else ((M_leave (u2 s 0 0 0) p0 4) 20 (ix p1)))) p1, u2 (u2 (u2 (M_leave (u2 s 0 0 0) p0 4) 25 (ix p0) p1) 16 (ix p1) (if ((M_leave (u2 s 0 0 0) p0 4) 16 (ix p0)) < ((M_leave (u2 s 0 0 0) p0 4) 16 (ix p1)) then ((M_leave (u2 s 0 0 0) p0 4) 16 (ix p0)) else ((M_leave (u2 s 0 0 0) p0 4) 16 (ix p1)))) 20 (ix p1) (if ((M_leave (u2 s 0 0 0) p0 4) 20 (ix p1)) < ((M_leave (u2 s 0 0 0) p0 4) 20 (ix p0)) then ((M_leave (u2 s 0 0 0) p0 4) 20 (ix p0)) else ((M_leave (u2 s 0 0 0) p0 4) 20 (ix p1)))) := by rw [M_merge, if_pos h10, if_pos h18, if_neg h29, if_pos h43, if_pos h51]
            exact j_iret F hR dX4_merge_120 (Nat.le_of_ble_eq_true rfl) (Nat.le_of_ble_eq_true rfl) ⟨by rw [hz], by rw [hz]⟩
          · refine j_aloadn F dX4_merge_54 rfl ?_
            refine j_iconst F (v := 3) dX4_merge_55 (by decide) ?_
            refine j_dmV F hR.1 (qX4_no (kl k) hst (kD k) d (u2 s 0 0 0) 3) lk_X4_90 dX4_merge_56 ⟨(Nat.le_of_ble_eq_true rfl), (Nat.le_of_ble_eq_true rfl)⟩ 0 rfl rfl rfl (Nat.le_of_ble_eq_true rfl) ⟨(Nat.le_of_ble_eq_true rfl), (Nat.le_of_ble_eq_true rfl)⟩ rfl ?_
            have hz : M_merge s p0 p1 = ((M_no (u2 s 0 0 0) 3).1, (M_no (u2 s 0 0 0) 3).2) := by rw [M_merge, if_pos h10, if_pos h18, if_neg h29, if_pos h43, if_neg h51]
            exact j_iret F hR dX4_merge_59 (Nat.le_of_ble_eq_true rfl) (Nat.le_of_ble_eq_true rfl) ⟨by rw [hz], by rw [hz]⟩
      · refine j_aloadn F dX4_merge_32 rfl ?_
        refine j_iconst F (v := 2) dX4_merge_33 (by decide) ?_
        refine j_dmV F hR.1 (qX4_no (kl k) hst (kD k) d (u2 s 0 0 0) 2) lk_X4_90 dX4_merge_34 ⟨(Nat.le_of_ble_eq_true rfl), (Nat.le_of_ble_eq_true rfl)⟩ 0 rfl rfl rfl (Nat.le_of_ble_eq_true rfl) ⟨(Nat.le_of_ble_eq_true rfl), (Nat.le_of_ble_eq_true rfl)⟩ rfl ?_
        have hz : M_merge s p0 p1 = ((M_no (u2 s 0 0 0) 2).1, (M_no (u2 s 0 0 0) 2).2) := by rw [M_merge, if_pos h10, if_pos h18, if_pos h29]
        exact j_iret F hR dX4_merge_37 (Nat.le_of_ble_eq_true rfl) (Nat.le_of_ble_eq_true rfl) ⟨by rw [hz], by rw [hz]⟩
    · refine j_aloadn F dX4_merge_21 rfl ?_
      refine j_iconst F (v := 1) dX4_merge_22 (by decide) ?_
      refine j_dmV F hR.1 (qX4_no (kl k) hst (kD k) d (u2 s 0 0 0) 1) lk_X4_90 dX4_merge_23 ⟨(Nat.le_of_ble_eq_true rfl), (Nat.le_of_ble_eq_true rfl)⟩ 0 rfl rfl rfl (Nat.le_of_ble_eq_true rfl) ⟨(Nat.le_of_ble_eq_true rfl), (Nat.le_of_ble_eq_true rfl)⟩ rfl ?_
      have hz : M_merge s p0 p1 = ((M_no (u2 s 0 0 0) 1).1, (M_no (u2 s 0 0 0) 1).2) := by rw [M_merge, if_pos h10, if_neg h18]
      exact j_iret F hR dX4_merge_26 (Nat.le_of_ble_eq_true rfl) (Nat.le_of_ble_eq_true rfl) ⟨by rw [hz], by rw [hz]⟩
def M_pmHB (s : S2) (i : Nat) (t : S2) : S2 := if (t 11 i) = ((-1)) then t else if (M_isThere t (nI i)) = true then t else M_leave t (t 11 i) 0
def M_pmH (s : S2) : Nat → S2
  | 0 => s
  | n + 1 => M_pmHB s n (M_pmH s n)
theorem M_pmH_s (s : S2) (n : Nat) : M_pmH s (n + 1) = M_pmHB s n (M_pmH s n) := rfl
def M_pmGB (t0 : S2) (i : Nat) (t : S2) : S2 := if (t 11 i) = ((-1)) then (if (M_isThere t (nI i)) = true then (if (M_nextOf t (nI i)) = ((-1)) then t else if (t 23 (ix (M_nextOf t (nI i)))) = ((-1)) then u2 (u2 (u2 (u2 t 11 i (M_nextOf t (nI i))) 19 (ix (M_nextOf t (nI i))) 1) 23 (ix (M_nextOf t (nI i))) (t 20 (ix (M_nextOf t (nI i))))) 22 (ix (M_nextOf t (nI i))) (nI i) else u2 (u2 (u2 t 11 i (M_nextOf t (nI i))) 19 (ix (M_nextOf t (nI i))) 1) 22 (ix (M_nextOf t (nI i))) (nI i)) else t) else t
def M_pmG (t0 : S2) : Nat → S2
  | 0 => t0
  | n + 1 => M_pmGB t0 n (M_pmG t0 n)
theorem M_pmG_s (t0 : S2) (n : Nat) : M_pmG t0 (n + 1) = M_pmGB t0 n (M_pmG t0 n) := rfl
def M_pmWB (t0 : S2) (i : Nat) (x : Int32) (t : S2) : Int32 × S2 := if (t 11 i) = ((-1)) then (x, t) else if (t 17 (ix (t 11 i))) ≤ ((u2 (u2 t 12 i ((t 12 i) + 1)) 21 (ix (t 11 i)) ((t 21 (ix (t 11 i))) + 1)) 21 (ix (t 11 i))) then (x + 1, u2 (u2 (M_leave (u2 (u2 t 12 i ((t 12 i) + 1)) 21 (ix (t 11 i)) ((t 21 (ix (t 11 i))) + 1)) (t 11 i) 3) 25 (ix (t 11 i)) (((M_leave (u2 (u2 t 12 i ((t 12 i) + 1)) 21 (ix (t 11 i)) ((t 21 (ix (t 11 i))) + 1)) (t 11 i) 3) 0 1) + 1)) 13 i (((M_leave (u2 (u2 t 12 i ((t 12 i) + 1)) 21 (ix (t 11 i)) ((t 21 (ix (t 11 i))) + 1)) (t 11 i) 3) 13 i) + 1)) else (x, u2 (u2 t 12 i ((t 12 i) + 1)) 21 (ix (t 11 i)) ((t 21 (ix (t 11 i))) + 1))
def M_pmW (t0 : S2) : Nat → Int32 × S2
  | 0 => (0, t0)
  | n + 1 => M_pmWB t0 n ((M_pmW t0 n)).1 ((M_pmW t0 n)).2
theorem M_pmW_s (t0 : S2) (n : Nat) : M_pmW t0 (n + 1) = M_pmWB t0 n ((M_pmW t0 n)).1 ((M_pmW t0 n)).2 := rfl
def M_pmAB (t0 : S2) (i : Nat) (t : S2) : S2 := if 1 < (t 19 i) then u2 t 20 i ((t 20 i) + 0) else u2 t 20 i ((t 20 i) + 1)
def M_pmA (t0 : S2) : Nat → S2
  | 0 => t0
  | n + 1 => M_pmAB t0 n (M_pmA t0 n)
theorem M_pmA_s (t0 : S2) (n : Nat) : M_pmA t0 (n + 1) = M_pmAB t0 n (M_pmA t0 n) := rfl
def M_passMinute (s : S2) : Int32 × S2 := if (M_isService (M_pmG (M_pmH s (ix (s 0 6))) (ix (s 0 6))) ((M_pmG (M_pmH s (ix (s 0 6))) (ix (s 0 6))) 0 1)) = true then ((M_pmW (M_pmA (M_pmG (M_pmH s (ix (s 0 6))) (ix (s 0 6))) (ix (s 0 14))) (ix (s 0 6))).1, u2 ((M_pmW (M_pmA (M_pmG (M_pmH s (ix (s 0 6))) (ix (s 0 6))) (ix (s 0 14))) (ix (s 0 6))).2) 0 1 ((((M_pmW (M_pmA (M_pmG (M_pmH s (ix (s 0 6))) (ix (s 0 6))) (ix (s 0 14))) (ix (s 0 6))).2) 0 1) + 1)) else ((M_pmW (M_pmG (M_pmH s (ix (s 0 6))) (ix (s 0 6))) (ix (s 0 6))).1, u2 ((M_pmW (M_pmG (M_pmH s (ix (s 0 6))) (ix (s 0 6))) (ix (s 0 6))).2) 0 1 ((((M_pmW (M_pmG (M_pmH s (ix (s 0 6))) (ix (s 0 6))) (ix (s 0 6))).2) 0 1) + 1))
set_option maxHeartbeats 4000000 in
set_option maxRecDepth 100000 in
theorem qX4_passMinute (l : Launch) (hst : l.stackTraces = false) (D : va_G) (d : Nat → Nat) (s : S2) (hI : MI s) : CM l D yX4_passMinute cX4_passMinute 4 (some .int) 3 68 0 0 (MW D d s) [.ref (d 0)] (dP (some (.int ((M_passMinute s).1))) (MW D d (M_passMinute s).2)) := by
  refine CM_of [some (.ref (d 0)), none, none, none] hst (by decide +kernel) rfl (Nat.le_of_ble_eq_true rfl) (fun k F hl hD hin hR => ?_)
  subst hl hD
  have hNA := MI.nA hI
  have eNA := MI.eA hI
  have hNT := MI.nT hI
  have eNT := MI.eT hI
  refine j_iconst F (v := 0) dX4_passMinute_0 (by decide) ?_
  refine j_istoren F [some (.ref (d 0)), some (.int 0), none, none] dX4_passMinute_1 rfl rfl rfl ?_
  refine (show ∀ (fuel i : Nat) (t : S2), (ix (s 0 6)) - i < fuel → i ≤ (ix (s 0 6)) → t = M_pmH s i → t 0 6 = nI (ix (s 0 6)) → t 0 14 = nI (ix (s 0 14)) → MI t →  J k (MW (kD k) d t) 0 0 2 [some (.ref (d 0)), some (.int (nI i)), none, none] [] from ?_) ((ix (s 0 6)) + 1) 0 s (by omega) (Nat.zero_le _) rfl eNA eNT hI
  intro fu2
  induction fu2 with
  | zero => intro i t hm; exact absurd hm (Nat.not_lt_zero _)
  | succ fu2 ih2 =>
    intro i t hm2 hi2 hc_t h6_1 h14_1 hM_1
    refine j_iloadn F dX4_passMinute_2 rfl ?_
    refine j_aloadn F dX4_passMinute_3 rfl ?_
    refine gf_X4_80 F (v := .int (nI (ix (s 0 6)))) dX4_passMinute_4 0 rfl (mfi_6 h6_1) ?_
    refine j_icgeN F (x := i) (y := (ix (s 0 6))) (tgt := 45) dX4_passMinute_7 (by decide) ⟨by omega, by omega⟩ (fun h7 => ?_) (fun h7 => ?_)
    · obtain rfl : i = (ix (s 0 6)) := by omega
      subst hc_t
      refine j_iconst F (v := 0) dX4_passMinute_45 (by decide) ?_
      refine j_istoren F [some (.ref (d 0)), some (.int 0), none, none] dX4_passMinute_46 rfl rfl rfl ?_
      refine (show ∀ (fuel i : Nat) (t : S2), (ix (s 0 6)) - i < fuel → i ≤ (ix (s 0 6)) → t = M_pmG (M_pmH s (ix (s 0 6))) i → t 0 6 = nI (ix (s 0 6)) → t 0 14 = nI (ix (s 0 14)) → MI t →  J k (MW (kD k) d t) 0 0 47 [some (.ref (d 0)), some (.int (nI i)), none, none] [] from ?_) ((ix (s 0 6)) + 1) 0 (M_pmH s (ix (s 0 6))) (by omega) (Nat.zero_le _) rfl h6_1 h14_1 hM_1
      intro fu47
      induction fu47 with
      | zero => intro i t hm; exact absurd hm (Nat.not_lt_zero _)
      | succ fu47 ih47 =>
        intro i t hm47 hi47 hc_t h6_2 h14_2 hM_2
        refine j_iloadn F dX4_passMinute_47 rfl ?_
        refine j_aloadn F dX4_passMinute_48 rfl ?_
        refine gf_X4_80 F (v := .int (nI (ix (s 0 6)))) dX4_passMinute_49 0 rfl (mfi_6 h6_2) ?_
        refine j_icgeN F (x := i) (y := (ix (s 0 6))) (tgt := 140) dX4_passMinute_52 (by decide) ⟨by omega, by omega⟩ (fun h52 => ?_) (fun h52 => ?_)
        · obtain rfl : i = (ix (s 0 6)) := by omega
          subst hc_t
          refine j_aloadn F dX4_passMinute_140 rfl ?_
          refine j_aloadn F dX4_passMinute_141 rfl ?_
          refine gf_X4_94 F (v := .int ((M_pmG (M_pmH s (ix (s 0 6))) (ix (s 0 6))) 0 1)) dX4_passMinute_142 0 rfl rfl ?_
          refine j_rdV F (qX4_isService (kl k) hst (kD k) d (M_pmG (M_pmH s (ix (s 0 6))) (ix (s 0 6))) ((M_pmG (M_pmH s (ix (s 0 6))) (ix (s 0 6))) 0 1)) lk_X4_158 dX4_passMinute_145 ⟨(Nat.le_of_ble_eq_true rfl), (Nat.le_of_ble_eq_true rfl)⟩ (fun _ h => h) 0 rfl rfl rfl (Nat.le_of_ble_eq_true rfl) ⟨(Nat.le_of_ble_eq_true rfl), (Nat.le_of_ble_eq_true rfl)⟩ ?_
          refine j_ifbeq F (tgt := 191) dX4_passMinute_148 (by decide) (fun h148 => ?_) (fun h148 => ?_)
          · refine j_iconst F (v := 0) dX4_passMinute_191 (by decide) ?_
            refine j_istoren F [some (.ref (d 0)), some (.int 0), none, none] dX4_passMinute_192 rfl rfl rfl ?_
            refine j_iconst F (v := 0) dX4_passMinute_193 (by decide) ?_
            refine j_istoren F [some (.ref (d 0)), some (.int 0), some (.int 0), none] dX4_passMinute_194 rfl rfl rfl ?_
            refine (show ∀ (fuel i : Nat) (x : Int32) (t : S2), (ix (s 0 6)) - i < fuel → i ≤ (ix (s 0 6)) → x = (M_pmW (M_pmG (M_pmH s (ix (s 0 6))) (ix (s 0 6))) i).1 → t = (M_pmW (M_pmG (M_pmH s (ix (s 0 6))) (ix (s 0 6))) i).2 → t 0 6 = nI (ix (s 0 6)) → t 0 14 = nI (ix (s 0 14)) → MI t →  J k (MW (kD k) d t) 0 0 195 [some (.ref (d 0)), some (.int x), some (.int (nI i)), none] [] from ?_) ((ix (s 0 6)) + 1) 0 0 (M_pmG (M_pmH s (ix (s 0 6))) (ix (s 0 6))) (by omega) (Nat.zero_le _) rfl rfl h6_2 h14_2 hM_2
            intro fu195
            induction fu195 with
            | zero => intro i x t hm; exact absurd hm (Nat.not_lt_zero _)
            | succ fu195 ih195 =>
              intro i x t hm195 hi195 hc_x hc_t h6_4 h14_4 hM_4
              refine j_iloadn F dX4_passMinute_195 rfl ?_
              refine j_aloadn F dX4_passMinute_196 rfl ?_
              refine gf_X4_80 F (v := .int (nI (ix (s 0 6)))) dX4_passMinute_197 0 rfl (mfi_6 h6_4) ?_
              refine j_icgeN F (x := i) (y := (ix (s 0 6))) (tgt := 293) dX4_passMinute_200 (by decide) ⟨by omega, by omega⟩ (fun h200 => ?_) (fun h200 => ?_)
              · obtain rfl : i = (ix (s 0 6)) := by omega
                subst hc_x
                subst hc_t
                refine j_aloadn F dX4_passMinute_293 rfl ?_
                refine j_dup F dX4_passMinute_294 rfl ?_
                refine gf_X4_94 F (v := .int (((M_pmW (M_pmG (M_pmH s (ix (s 0 6))) (ix (s 0 6))) (ix (s 0 6))).2) 0 1)) dX4_passMinute_295 0 rfl rfl ?_
                refine j_iconst F (v := 1) dX4_passMinute_298 (by decide) ?_
                refine j_iadd F dX4_passMinute_299 ?_
                refine pf_X4_94 F hR.1 dX4_passMinute_300 rfl rfl 0 rfl (Nat.le_of_ble_eq_true rfl) (MW (kD k) d (u2 ((M_pmW (M_pmG (M_pmH s (ix (s 0 6))) (ix (s 0 6))) (ix (s 0 6))).2) 0 1 ((((M_pmW (M_pmG (M_pmH s (ix (s 0 6))) (ix (s 0 6))) (ix (s 0 6))).2) 0 1) + 1))) (mp_1 _ _ _ _) ?_
                refine j_iloadn F dX4_passMinute_303 rfl ?_
                have hz : M_passMinute s = ((M_pmW (M_pmG (M_pmH s (ix (s 0 6))) (ix (s 0 6))) (ix (s 0 6))).1, u2 ((M_pmW (M_pmG (M_pmH s (ix (s 0 6))) (ix (s 0 6))) (ix (s 0 6))).2) 0 1 ((((M_pmW (M_pmG (M_pmH s (ix (s 0 6))) (ix (s 0 6))) (ix (s 0 6))).2) 0 1) + 1)) := by rw [M_passMinute, if_neg h148]
                exact j_iret F hR dX4_passMinute_304 (Nat.le_of_ble_eq_true rfl) (Nat.le_of_ble_eq_true rfl) ⟨by rw [hz], by rw [hz]⟩
              · refine j_aloadn F dX4_passMinute_203 rfl ?_
                refine gf_X4_35 F (v := .ref (d 11)) dX4_passMinute_204 0 rfl rfl ?_
                refine j_iloadn F dX4_passMinute_207 rfl ?_
                refine j_ialdN F dX4_passMinute_208 (f := t 11) 7 rfl ⟨(Nat.lt_of_lt_of_le h200 hNA), by decide⟩ ?_
                refine j_istoren F [some (.ref (d 0)), some (.int x), some (.int (nI i)), some (.int (t 11 i))] dX4_passMinute_209 rfl rfl rfl ?_
                refine j_iloadn F dX4_passMinute_210 rfl ?_
                refine j_iconst F (v := (-1)) dX4_passMinute_211 (by decide) ?_
                refine j_icne F (tgt := 218) dX4_passMinute_212 (by decide) (fun h212 => ?_) (fun h212 => ?_)
                · refine j_aloadn F dX4_passMinute_218 rfl ?_
                  refine gf_X4_38 F (v := .ref (d 12)) dX4_passMinute_219 0 rfl rfl ?_
                  refine j_iloadn F dX4_passMinute_222 rfl ?_
                  refine j_dup2 F dX4_passMinute_223 rfl rfl ?_
                  refine j_ialdN F dX4_passMinute_224 (f := t 12) 8 rfl ⟨(Nat.lt_of_lt_of_le h200 hNA), by decide⟩ ?_
                  refine j_iconst F (v := 1) dX4_passMinute_225 (by decide) ?_
                  refine j_iadd F dX4_passMinute_226 ?_
                  refine j_iastN F hR.1 dX4_passMinute_227 8 rfl ⟨(Nat.lt_of_lt_of_le h200 hNA), by decide⟩ (MW (kD k) d (u2 t 12 i ((t 12 i) + 1))) (mu_12 _ _ _ _ _) ?_
                  refine j_aloadn F dX4_passMinute_228 rfl ?_
                  refine gf_X4_62 F (v := .ref (d 21)) dX4_passMinute_229 0 rfl rfl ?_
                  refine j_iloadn F dX4_passMinute_232 rfl ?_
                  refine j_dup2 F dX4_passMinute_233 rfl rfl ?_
                  refine j_iald F dX4_passMinute_234 (f := t 21) 16 rfl (MI.hand hM_4 (Nat.lt_of_lt_of_le h200 hNA) h212) ?_
                  refine j_iconst F (v := 1) dX4_passMinute_235 (by decide) ?_
                  refine j_iadd F dX4_passMinute_236 ?_
                  refine j_iast F hR.1 dX4_passMinute_237 16 rfl (MI.hand hM_4 (Nat.lt_of_lt_of_le h200 hNA) h212) (MW (kD k) d (u2 (u2 t 12 i ((t 12 i) + 1)) 21 (ix (t 11 i)) ((t 21 (ix (t 11 i))) + 1))) (mu_21 _ _ _ _ _) ?_
                  refine j_aloadn F dX4_passMinute_238 rfl ?_
                  refine gf_X4_62 F (v := .ref (d 21)) dX4_passMinute_239 0 rfl rfl ?_
                  refine j_iloadn F dX4_passMinute_242 rfl ?_
                  refine j_iald F dX4_passMinute_243 (f := (u2 (u2 t 12 i ((t 12 i) + 1)) 21 (ix (t 11 i)) ((t 21 (ix (t 11 i))) + 1)) 21) 16 rfl (MI.hand hM_4 (Nat.lt_of_lt_of_le h200 hNA) h212) ?_
                  refine j_aloadn F dX4_passMinute_244 rfl ?_
                  refine gf_X4_50 F (v := .ref (d 17)) dX4_passMinute_245 0 rfl rfl ?_
                  refine j_iloadn F dX4_passMinute_248 rfl ?_
                  refine j_iald F dX4_passMinute_249 (f := t 17) 12 rfl (MI.hand hM_4 (Nat.lt_of_lt_of_le h200 hNA) h212) ?_
                  refine j_icge F (tgt := 256) dX4_passMinute_250 (by decide) (fun h250 => ?_) (fun h250 => ?_)
                  · refine j_aloadn F dX4_passMinute_256 rfl ?_
                    refine j_iloadn F dX4_passMinute_257 rfl ?_
                    refine j_iconst F (v := 3) dX4_passMinute_258 (by decide) ?_
                    refine j_dmV F hR.1 (qX4_leave (kl k) hst (kD k) d (u2 (u2 t 12 i ((t 12 i) + 1)) 21 (ix (t 11 i)) ((t 21 (ix (t 11 i))) + 1)) (t 11 i) 3 ((MI_u2 (by decide) (MI_u2 (by decide) hM_4))) ((MI.hand hM_4 (Nat.lt_of_lt_of_le h200 hNA) h212))) lk_X4_118 dX4_passMinute_259 ⟨(Nat.le_of_ble_eq_true rfl), (Nat.le_of_ble_eq_true rfl)⟩ 0 rfl rfl rfl (Nat.le_of_ble_eq_true rfl) ⟨(Nat.le_of_ble_eq_true rfl), (Nat.le_of_ble_eq_true rfl)⟩ rfl ?_
                    refine j_aloadn F dX4_passMinute_262 rfl ?_
                    refine gf_X4_74 F (v := .ref (d 25)) dX4_passMinute_263 0 rfl rfl ?_
                    refine j_iloadn F dX4_passMinute_266 rfl ?_
                    refine j_aloadn F dX4_passMinute_267 rfl ?_
                    refine gf_X4_94 F (v := .int ((M_leave (u2 (u2 t 12 i ((t 12 i) + 1)) 21 (ix (t 11 i)) ((t 21 (ix (t 11 i))) + 1)) (t 11 i) 3) 0 1)) dX4_passMinute_268 0 rfl rfl ?_
                    refine j_iconst F (v := 1) dX4_passMinute_271 (by decide) ?_
                    refine j_iadd F dX4_passMinute_272 ?_
                    refine j_iast F hR.1 dX4_passMinute_273 20 rfl (MI.hand hM_4 (Nat.lt_of_lt_of_le h200 hNA) h212) (MW (kD k) d (u2 (M_leave (u2 (u2 t 12 i ((t 12 i) + 1)) 21 (ix (t 11 i)) ((t 21 (ix (t 11 i))) + 1)) (t 11 i) 3) 25 (ix (t 11 i)) (((M_leave (u2 (u2 t 12 i ((t 12 i) + 1)) 21 (ix (t 11 i)) ((t 21 (ix (t 11 i))) + 1)) (t 11 i) 3) 0 1) + 1))) (mu_25 _ _ _ _ _) ?_
                    refine j_aloadn F dX4_passMinute_274 rfl ?_
                    refine gf_X4_41 F (v := .ref (d 13)) dX4_passMinute_275 0 rfl rfl ?_
                    refine j_iloadn F dX4_passMinute_278 rfl ?_
                    refine j_dup2 F dX4_passMinute_279 rfl rfl ?_
                    refine j_ialdN F dX4_passMinute_280 (f := (M_leave (u2 (u2 t 12 i ((t 12 i) + 1)) 21 (ix (t 11 i)) ((t 21 (ix (t 11 i))) + 1)) (t 11 i) 3) 13) 9 (mgq_13 (u2_ne1 (by decide))) ⟨(Nat.lt_of_lt_of_le h200 hNA), by decide⟩ ?_
                    refine j_iconst F (v := 1) dX4_passMinute_281 (by decide) ?_
                    refine j_iadd F dX4_passMinute_282 ?_
                    refine j_iastN F hR.1 dX4_passMinute_283 9 rfl ⟨(Nat.lt_of_lt_of_le h200 hNA), by decide⟩ (MW (kD k) d (u2 (u2 (M_leave (u2 (u2 t 12 i ((t 12 i) + 1)) 21 (ix (t 11 i)) ((t 21 (ix (t 11 i))) + 1)) (t 11 i) 3) 25 (ix (t 11 i)) (((M_leave (u2 (u2 t 12 i ((t 12 i) + 1)) 21 (ix (t 11 i)) ((t 21 (ix (t 11 i))) + 1)) (t 11 i) 3) 0 1) + 1)) 13 i (((M_leave (u2 (u2 t 12 i ((t 12 i) + 1)) 21 (ix (t 11 i)) ((t 21 (ix (t 11 i))) + 1)) (t 11 i) 3) 13 i) + 1))) (mu_13 _ _ _ _ _) ?_
                    refine j_iinc F [some (.ref (d 0)), some (.int (x + 1)), some (.int (nI i)), some (.int (t 11 i))] dX4_passMinute_284 rfl (v := x + 1) rfl rfl rfl rfl ?_
                    refine j_iincN F [some (.ref (d 0)), some (.int (x + 1)), some (.int (nI (i + 1))), some (.int (t 11 i))] dX4_passMinute_287 rfl rfl rfl rfl ?_
                    refine j_goto F (tgt := 195) dX4_passMinute_290 (by decide) ?_
                    refine j_lvw [some (.ref (d 0)), some (.int (x + 1)), some (.int (nI (i + 1))), none] ⟨rfl, rfl, rfl, trivial⟩ ?_
                    exact ih195 (i + 1) (x + 1) (u2 (u2 (M_leave (u2 (u2 t 12 i ((t 12 i) + 1)) 21 (ix (t 11 i)) ((t 21 (ix (t 11 i))) + 1)) (t 11 i) 3) 25 (ix (t 11 i)) (((M_leave (u2 (u2 t 12 i ((t 12 i) + 1)) 21 (ix (t 11 i)) ((t 21 (ix (t 11 i))) + 1)) (t 11 i) 3) 0 1) + 1)) 13 i (((M_leave (u2 (u2 t 12 i ((t 12 i) + 1)) 21 (ix (t 11 i)) ((t 21 (ix (t 11 i))) + 1)) (t 11 i) 3) 13 i) + 1)) (by omega) (by omega) (by rw [M_pmW_s, ← hc_x, ← hc_t, M_pmWB, if_neg h212, if_pos h250]) (by rw [M_pmW_s, ← hc_x, ← hc_t, M_pmWB, if_neg h212, if_pos h250]) ((by simp only [u2_ne1 (show ¬ (0:Nat) = 11 by decide), u2_ne1 (show ¬ (0:Nat) = 19 by decide), u2_ne1 (show ¬ (0:Nat) = 20 by decide), u2_ne1 (show ¬ (0:Nat) = 22 by decide), u2_ne1 (show ¬ (0:Nat) = 23 by decide), u2_ne1 (show ¬ (0:Nat) = 12 by decide), u2_ne1 (show ¬ (0:Nat) = 13 by decide), u2_ne1 (show ¬ (0:Nat) = 21 by decide), u2_ne1 (show ¬ (0:Nat) = 25 by decide), M_leave_06]; exact h6_4)) ((by simp only [u2_ne1 (show ¬ (0:Nat) = 11 by decide), u2_ne1 (show ¬ (0:Nat) = 19 by decide), u2_ne1 (show ¬ (0:Nat) = 20 by decide), u2_ne1 (show ¬ (0:Nat) = 22 by decide), u2_ne1 (show ¬ (0:Nat) = 23 by decide), u2_ne1 (show ¬ (0:Nat) = 12 by decide), u2_ne1 (show ¬ (0:Nat) = 13 by decide), u2_ne1 (show ¬ (0:Nat) = 21 by decide), u2_ne1 (show ¬ (0:Nat) = 25 by decide), M_leave_014]; exact h14_4)) ((MI_u2 (by decide) (M_leave_note (MI_u2 (by decide) (MI_u2 (by decide) hM_4)) (by decide))))
                  · refine j_goto F (tgt := 287) dX4_passMinute_253 (by decide) ?_
                    refine j_iincN F [some (.ref (d 0)), some (.int x), some (.int (nI (i + 1))), some (.int (t 11 i))] dX4_passMinute_287 rfl rfl rfl rfl ?_
                    refine j_goto F (tgt := 195) dX4_passMinute_290 (by decide) ?_
                    refine j_lvw [some (.ref (d 0)), some (.int x), some (.int (nI (i + 1))), none] ⟨rfl, rfl, rfl, trivial⟩ ?_
                    exact ih195 (i + 1) x (u2 (u2 t 12 i ((t 12 i) + 1)) 21 (ix (t 11 i)) ((t 21 (ix (t 11 i))) + 1)) (by omega) (by omega) (by rw [M_pmW_s, ← hc_x, ← hc_t, M_pmWB, if_neg h212, if_neg h250]) (by rw [M_pmW_s, ← hc_x, ← hc_t, M_pmWB, if_neg h212, if_neg h250]) ((by simp only [u2_ne1 (show ¬ (0:Nat) = 11 by decide), u2_ne1 (show ¬ (0:Nat) = 19 by decide), u2_ne1 (show ¬ (0:Nat) = 20 by decide), u2_ne1 (show ¬ (0:Nat) = 22 by decide), u2_ne1 (show ¬ (0:Nat) = 23 by decide), u2_ne1 (show ¬ (0:Nat) = 12 by decide), u2_ne1 (show ¬ (0:Nat) = 13 by decide), u2_ne1 (show ¬ (0:Nat) = 21 by decide), u2_ne1 (show ¬ (0:Nat) = 25 by decide), M_leave_06]; exact h6_4)) ((by simp only [u2_ne1 (show ¬ (0:Nat) = 11 by decide), u2_ne1 (show ¬ (0:Nat) = 19 by decide), u2_ne1 (show ¬ (0:Nat) = 20 by decide), u2_ne1 (show ¬ (0:Nat) = 22 by decide), u2_ne1 (show ¬ (0:Nat) = 23 by decide), u2_ne1 (show ¬ (0:Nat) = 12 by decide), u2_ne1 (show ¬ (0:Nat) = 13 by decide), u2_ne1 (show ¬ (0:Nat) = 21 by decide), u2_ne1 (show ¬ (0:Nat) = 25 by decide), M_leave_014]; exact h14_4)) ((MI_u2 (by decide) (MI_u2 (by decide) hM_4)))
                · refine j_goto F (tgt := 287) dX4_passMinute_215 (by decide) ?_
                  refine j_iincN F [some (.ref (d 0)), some (.int x), some (.int (nI (i + 1))), some (.int (t 11 i))] dX4_passMinute_287 rfl rfl rfl rfl ?_
                  refine j_goto F (tgt := 195) dX4_passMinute_290 (by decide) ?_
                  refine j_lvw [some (.ref (d 0)), some (.int x), some (.int (nI (i + 1))), none] ⟨rfl, rfl, rfl, trivial⟩ ?_
                  exact ih195 (i + 1) x t (by omega) (by omega) (by rw [M_pmW_s, ← hc_x, ← hc_t, M_pmWB, if_pos h212]) (by rw [M_pmW_s, ← hc_x, ← hc_t, M_pmWB, if_pos h212]) h6_4 h14_4 hM_4
          · refine j_iconst F (v := 0) dX4_passMinute_151 (by decide) ?_
            refine j_istoren F [some (.ref (d 0)), some (.int 0), none, none] dX4_passMinute_152 rfl rfl rfl ?_
            refine (show ∀ (fuel i : Nat) (t : S2), (ix (s 0 14)) - i < fuel → i ≤ (ix (s 0 14)) → t = M_pmA (M_pmG (M_pmH s (ix (s 0 6))) (ix (s 0 6))) i → t 0 6 = nI (ix (s 0 6)) → t 0 14 = nI (ix (s 0 14)) → MI t →  J k (MW (kD k) d t) 0 0 153 [some (.ref (d 0)), some (.int (nI i)), none, none] [] from ?_) ((ix (s 0 14)) + 1) 0 (M_pmG (M_pmH s (ix (s 0 6))) (ix (s 0 6))) (by omega) (Nat.zero_le _) rfl h6_2 h14_2 hM_2
            intro fu153
            induction fu153 with
            | zero => intro i t hm; exact absurd hm (Nat.not_lt_zero _)
            | succ fu153 ih153 =>
              intro i t hm153 hi153 hc_t h6_3 h14_3 hM_3
              refine j_iloadn F dX4_passMinute_153 rfl ?_
              refine j_aloadn F dX4_passMinute_154 rfl ?_
              refine gf_X4_87 F (v := .int (nI (ix (s 0 14)))) dX4_passMinute_155 0 rfl (mfi_14 h14_3) ?_
              refine j_icgeN F (x := i) (y := (ix (s 0 14))) (tgt := 191) dX4_passMinute_158 (by decide) ⟨by omega, by omega⟩ (fun h158 => ?_) (fun h158 => ?_)
              · obtain rfl : i = (ix (s 0 14)) := by omega
                subst hc_t
                refine j_iconst F (v := 0) dX4_passMinute_191 (by decide) ?_
                refine j_istoren F [some (.ref (d 0)), some (.int 0), none, none] dX4_passMinute_192 rfl rfl rfl ?_
                refine j_iconst F (v := 0) dX4_passMinute_193 (by decide) ?_
                refine j_istoren F [some (.ref (d 0)), some (.int 0), some (.int 0), none] dX4_passMinute_194 rfl rfl rfl ?_
                refine (show ∀ (fuel i : Nat) (x : Int32) (t : S2), (ix (s 0 6)) - i < fuel → i ≤ (ix (s 0 6)) → x = (M_pmW (M_pmA (M_pmG (M_pmH s (ix (s 0 6))) (ix (s 0 6))) (ix (s 0 14))) i).1 → t = (M_pmW (M_pmA (M_pmG (M_pmH s (ix (s 0 6))) (ix (s 0 6))) (ix (s 0 14))) i).2 → t 0 6 = nI (ix (s 0 6)) → t 0 14 = nI (ix (s 0 14)) → MI t →  J k (MW (kD k) d t) 0 0 195 [some (.ref (d 0)), some (.int x), some (.int (nI i)), none] [] from ?_) ((ix (s 0 6)) + 1) 0 0 (M_pmA (M_pmG (M_pmH s (ix (s 0 6))) (ix (s 0 6))) (ix (s 0 14))) (by omega) (Nat.zero_le _) rfl rfl h6_3 h14_3 hM_3
                intro fu195
                induction fu195 with
                | zero => intro i x t hm; exact absurd hm (Nat.not_lt_zero _)
                | succ fu195 ih195 =>
                  intro i x t hm195 hi195 hc_x hc_t h6_4 h14_4 hM_4
                  refine j_iloadn F dX4_passMinute_195 rfl ?_
                  refine j_aloadn F dX4_passMinute_196 rfl ?_
                  refine gf_X4_80 F (v := .int (nI (ix (s 0 6)))) dX4_passMinute_197 0 rfl (mfi_6 h6_4) ?_
                  refine j_icgeN F (x := i) (y := (ix (s 0 6))) (tgt := 293) dX4_passMinute_200 (by decide) ⟨by omega, by omega⟩ (fun h200 => ?_) (fun h200 => ?_)
                  · obtain rfl : i = (ix (s 0 6)) := by omega
                    subst hc_x
                    subst hc_t
                    refine j_aloadn F dX4_passMinute_293 rfl ?_
                    refine j_dup F dX4_passMinute_294 rfl ?_
                    refine gf_X4_94 F (v := .int (((M_pmW (M_pmA (M_pmG (M_pmH s (ix (s 0 6))) (ix (s 0 6))) (ix (s 0 14))) (ix (s 0 6))).2) 0 1)) dX4_passMinute_295 0 rfl rfl ?_
                    refine j_iconst F (v := 1) dX4_passMinute_298 (by decide) ?_
                    refine j_iadd F dX4_passMinute_299 ?_
                    refine pf_X4_94 F hR.1 dX4_passMinute_300 rfl rfl 0 rfl (Nat.le_of_ble_eq_true rfl) (MW (kD k) d (u2 ((M_pmW (M_pmA (M_pmG (M_pmH s (ix (s 0 6))) (ix (s 0 6))) (ix (s 0 14))) (ix (s 0 6))).2) 0 1 ((((M_pmW (M_pmA (M_pmG (M_pmH s (ix (s 0 6))) (ix (s 0 6))) (ix (s 0 14))) (ix (s 0 6))).2) 0 1) + 1))) (mp_1 _ _ _ _) ?_
                    refine j_iloadn F dX4_passMinute_303 rfl ?_
                    have hz : M_passMinute s = ((M_pmW (M_pmA (M_pmG (M_pmH s (ix (s 0 6))) (ix (s 0 6))) (ix (s 0 14))) (ix (s 0 6))).1, u2 ((M_pmW (M_pmA (M_pmG (M_pmH s (ix (s 0 6))) (ix (s 0 6))) (ix (s 0 14))) (ix (s 0 6))).2) 0 1 ((((M_pmW (M_pmA (M_pmG (M_pmH s (ix (s 0 6))) (ix (s 0 6))) (ix (s 0 14))) (ix (s 0 6))).2) 0 1) + 1)) := by rw [M_passMinute, if_pos h148]
                    exact j_iret F hR dX4_passMinute_304 (Nat.le_of_ble_eq_true rfl) (Nat.le_of_ble_eq_true rfl) ⟨by rw [hz], by rw [hz]⟩
                  · refine j_aloadn F dX4_passMinute_203 rfl ?_
                    refine gf_X4_35 F (v := .ref (d 11)) dX4_passMinute_204 0 rfl rfl ?_
                    refine j_iloadn F dX4_passMinute_207 rfl ?_
                    refine j_ialdN F dX4_passMinute_208 (f := t 11) 7 rfl ⟨(Nat.lt_of_lt_of_le h200 hNA), by decide⟩ ?_
                    refine j_istoren F [some (.ref (d 0)), some (.int x), some (.int (nI i)), some (.int (t 11 i))] dX4_passMinute_209 rfl rfl rfl ?_
                    refine j_iloadn F dX4_passMinute_210 rfl ?_
                    refine j_iconst F (v := (-1)) dX4_passMinute_211 (by decide) ?_
                    refine j_icne F (tgt := 218) dX4_passMinute_212 (by decide) (fun h212 => ?_) (fun h212 => ?_)
                    · refine j_aloadn F dX4_passMinute_218 rfl ?_
                      refine gf_X4_38 F (v := .ref (d 12)) dX4_passMinute_219 0 rfl rfl ?_
                      refine j_iloadn F dX4_passMinute_222 rfl ?_
                      refine j_dup2 F dX4_passMinute_223 rfl rfl ?_
                      refine j_ialdN F dX4_passMinute_224 (f := t 12) 8 rfl ⟨(Nat.lt_of_lt_of_le h200 hNA), by decide⟩ ?_
                      refine j_iconst F (v := 1) dX4_passMinute_225 (by decide) ?_
                      refine j_iadd F dX4_passMinute_226 ?_
                      refine j_iastN F hR.1 dX4_passMinute_227 8 rfl ⟨(Nat.lt_of_lt_of_le h200 hNA), by decide⟩ (MW (kD k) d (u2 t 12 i ((t 12 i) + 1))) (mu_12 _ _ _ _ _) ?_
                      refine j_aloadn F dX4_passMinute_228 rfl ?_
                      refine gf_X4_62 F (v := .ref (d 21)) dX4_passMinute_229 0 rfl rfl ?_
                      refine j_iloadn F dX4_passMinute_232 rfl ?_
                      refine j_dup2 F dX4_passMinute_233 rfl rfl ?_
                      refine j_iald F dX4_passMinute_234 (f := t 21) 16 rfl (MI.hand hM_4 (Nat.lt_of_lt_of_le h200 hNA) h212) ?_
                      refine j_iconst F (v := 1) dX4_passMinute_235 (by decide) ?_
                      refine j_iadd F dX4_passMinute_236 ?_
                      refine j_iast F hR.1 dX4_passMinute_237 16 rfl (MI.hand hM_4 (Nat.lt_of_lt_of_le h200 hNA) h212) (MW (kD k) d (u2 (u2 t 12 i ((t 12 i) + 1)) 21 (ix (t 11 i)) ((t 21 (ix (t 11 i))) + 1))) (mu_21 _ _ _ _ _) ?_
                      refine j_aloadn F dX4_passMinute_238 rfl ?_
                      refine gf_X4_62 F (v := .ref (d 21)) dX4_passMinute_239 0 rfl rfl ?_
                      refine j_iloadn F dX4_passMinute_242 rfl ?_
                      refine j_iald F dX4_passMinute_243 (f := (u2 (u2 t 12 i ((t 12 i) + 1)) 21 (ix (t 11 i)) ((t 21 (ix (t 11 i))) + 1)) 21) 16 rfl (MI.hand hM_4 (Nat.lt_of_lt_of_le h200 hNA) h212) ?_
                      refine j_aloadn F dX4_passMinute_244 rfl ?_
                      refine gf_X4_50 F (v := .ref (d 17)) dX4_passMinute_245 0 rfl rfl ?_
                      refine j_iloadn F dX4_passMinute_248 rfl ?_
                      refine j_iald F dX4_passMinute_249 (f := t 17) 12 rfl (MI.hand hM_4 (Nat.lt_of_lt_of_le h200 hNA) h212) ?_
                      refine j_icge F (tgt := 256) dX4_passMinute_250 (by decide) (fun h250 => ?_) (fun h250 => ?_)
                      · refine j_aloadn F dX4_passMinute_256 rfl ?_
                        refine j_iloadn F dX4_passMinute_257 rfl ?_
                        refine j_iconst F (v := 3) dX4_passMinute_258 (by decide) ?_
                        refine j_dmV F hR.1 (qX4_leave (kl k) hst (kD k) d (u2 (u2 t 12 i ((t 12 i) + 1)) 21 (ix (t 11 i)) ((t 21 (ix (t 11 i))) + 1)) (t 11 i) 3 ((MI_u2 (by decide) (MI_u2 (by decide) hM_4))) ((MI.hand hM_4 (Nat.lt_of_lt_of_le h200 hNA) h212))) lk_X4_118 dX4_passMinute_259 ⟨(Nat.le_of_ble_eq_true rfl), (Nat.le_of_ble_eq_true rfl)⟩ 0 rfl rfl rfl (Nat.le_of_ble_eq_true rfl) ⟨(Nat.le_of_ble_eq_true rfl), (Nat.le_of_ble_eq_true rfl)⟩ rfl ?_
                        refine j_aloadn F dX4_passMinute_262 rfl ?_
                        refine gf_X4_74 F (v := .ref (d 25)) dX4_passMinute_263 0 rfl rfl ?_
                        refine j_iloadn F dX4_passMinute_266 rfl ?_
                        refine j_aloadn F dX4_passMinute_267 rfl ?_
                        refine gf_X4_94 F (v := .int ((M_leave (u2 (u2 t 12 i ((t 12 i) + 1)) 21 (ix (t 11 i)) ((t 21 (ix (t 11 i))) + 1)) (t 11 i) 3) 0 1)) dX4_passMinute_268 0 rfl rfl ?_
                        refine j_iconst F (v := 1) dX4_passMinute_271 (by decide) ?_
                        refine j_iadd F dX4_passMinute_272 ?_
                        refine j_iast F hR.1 dX4_passMinute_273 20 rfl (MI.hand hM_4 (Nat.lt_of_lt_of_le h200 hNA) h212) (MW (kD k) d (u2 (M_leave (u2 (u2 t 12 i ((t 12 i) + 1)) 21 (ix (t 11 i)) ((t 21 (ix (t 11 i))) + 1)) (t 11 i) 3) 25 (ix (t 11 i)) (((M_leave (u2 (u2 t 12 i ((t 12 i) + 1)) 21 (ix (t 11 i)) ((t 21 (ix (t 11 i))) + 1)) (t 11 i) 3) 0 1) + 1))) (mu_25 _ _ _ _ _) ?_
                        refine j_aloadn F dX4_passMinute_274 rfl ?_
                        refine gf_X4_41 F (v := .ref (d 13)) dX4_passMinute_275 0 rfl rfl ?_
                        refine j_iloadn F dX4_passMinute_278 rfl ?_
                        refine j_dup2 F dX4_passMinute_279 rfl rfl ?_
                        refine j_ialdN F dX4_passMinute_280 (f := (M_leave (u2 (u2 t 12 i ((t 12 i) + 1)) 21 (ix (t 11 i)) ((t 21 (ix (t 11 i))) + 1)) (t 11 i) 3) 13) 9 (mgq_13 (u2_ne1 (by decide))) ⟨(Nat.lt_of_lt_of_le h200 hNA), by decide⟩ ?_
                        refine j_iconst F (v := 1) dX4_passMinute_281 (by decide) ?_
                        refine j_iadd F dX4_passMinute_282 ?_
                        refine j_iastN F hR.1 dX4_passMinute_283 9 rfl ⟨(Nat.lt_of_lt_of_le h200 hNA), by decide⟩ (MW (kD k) d (u2 (u2 (M_leave (u2 (u2 t 12 i ((t 12 i) + 1)) 21 (ix (t 11 i)) ((t 21 (ix (t 11 i))) + 1)) (t 11 i) 3) 25 (ix (t 11 i)) (((M_leave (u2 (u2 t 12 i ((t 12 i) + 1)) 21 (ix (t 11 i)) ((t 21 (ix (t 11 i))) + 1)) (t 11 i) 3) 0 1) + 1)) 13 i (((M_leave (u2 (u2 t 12 i ((t 12 i) + 1)) 21 (ix (t 11 i)) ((t 21 (ix (t 11 i))) + 1)) (t 11 i) 3) 13 i) + 1))) (mu_13 _ _ _ _ _) ?_
                        refine j_iinc F [some (.ref (d 0)), some (.int (x + 1)), some (.int (nI i)), some (.int (t 11 i))] dX4_passMinute_284 rfl (v := x + 1) rfl rfl rfl rfl ?_
                        refine j_iincN F [some (.ref (d 0)), some (.int (x + 1)), some (.int (nI (i + 1))), some (.int (t 11 i))] dX4_passMinute_287 rfl rfl rfl rfl ?_
                        refine j_goto F (tgt := 195) dX4_passMinute_290 (by decide) ?_
                        refine j_lvw [some (.ref (d 0)), some (.int (x + 1)), some (.int (nI (i + 1))), none] ⟨rfl, rfl, rfl, trivial⟩ ?_
                        exact ih195 (i + 1) (x + 1) (u2 (u2 (M_leave (u2 (u2 t 12 i ((t 12 i) + 1)) 21 (ix (t 11 i)) ((t 21 (ix (t 11 i))) + 1)) (t 11 i) 3) 25 (ix (t 11 i)) (((M_leave (u2 (u2 t 12 i ((t 12 i) + 1)) 21 (ix (t 11 i)) ((t 21 (ix (t 11 i))) + 1)) (t 11 i) 3) 0 1) + 1)) 13 i (((M_leave (u2 (u2 t 12 i ((t 12 i) + 1)) 21 (ix (t 11 i)) ((t 21 (ix (t 11 i))) + 1)) (t 11 i) 3) 13 i) + 1)) (by omega) (by omega) (by rw [M_pmW_s, ← hc_x, ← hc_t, M_pmWB, if_neg h212, if_pos h250]) (by rw [M_pmW_s, ← hc_x, ← hc_t, M_pmWB, if_neg h212, if_pos h250]) ((by simp only [u2_ne1 (show ¬ (0:Nat) = 11 by decide), u2_ne1 (show ¬ (0:Nat) = 19 by decide), u2_ne1 (show ¬ (0:Nat) = 20 by decide), u2_ne1 (show ¬ (0:Nat) = 22 by decide), u2_ne1 (show ¬ (0:Nat) = 23 by decide), u2_ne1 (show ¬ (0:Nat) = 12 by decide), u2_ne1 (show ¬ (0:Nat) = 13 by decide), u2_ne1 (show ¬ (0:Nat) = 21 by decide), u2_ne1 (show ¬ (0:Nat) = 25 by decide), M_leave_06]; exact h6_4)) ((by simp only [u2_ne1 (show ¬ (0:Nat) = 11 by decide), u2_ne1 (show ¬ (0:Nat) = 19 by decide), u2_ne1 (show ¬ (0:Nat) = 20 by decide), u2_ne1 (show ¬ (0:Nat) = 22 by decide), u2_ne1 (show ¬ (0:Nat) = 23 by decide), u2_ne1 (show ¬ (0:Nat) = 12 by decide), u2_ne1 (show ¬ (0:Nat) = 13 by decide), u2_ne1 (show ¬ (0:Nat) = 21 by decide), u2_ne1 (show ¬ (0:Nat) = 25 by decide), M_leave_014]; exact h14_4)) ((MI_u2 (by decide) (M_leave_note (MI_u2 (by decide) (MI_u2 (by decide) hM_4)) (by decide))))
                      · refine j_goto F (tgt := 287) dX4_passMinute_253 (by decide) ?_
                        refine j_iincN F [some (.ref (d 0)), some (.int x), some (.int (nI (i + 1))), some (.int (t 11 i))] dX4_passMinute_287 rfl rfl rfl rfl ?_
                        refine j_goto F (tgt := 195) dX4_passMinute_290 (by decide) ?_
                        refine j_lvw [some (.ref (d 0)), some (.int x), some (.int (nI (i + 1))), none] ⟨rfl, rfl, rfl, trivial⟩ ?_
                        exact ih195 (i + 1) x (u2 (u2 t 12 i ((t 12 i) + 1)) 21 (ix (t 11 i)) ((t 21 (ix (t 11 i))) + 1)) (by omega) (by omega) (by rw [M_pmW_s, ← hc_x, ← hc_t, M_pmWB, if_neg h212, if_neg h250]) (by rw [M_pmW_s, ← hc_x, ← hc_t, M_pmWB, if_neg h212, if_neg h250]) ((by simp only [u2_ne1 (show ¬ (0:Nat) = 11 by decide), u2_ne1 (show ¬ (0:Nat) = 19 by decide), u2_ne1 (show ¬ (0:Nat) = 20 by decide), u2_ne1 (show ¬ (0:Nat) = 22 by decide), u2_ne1 (show ¬ (0:Nat) = 23 by decide), u2_ne1 (show ¬ (0:Nat) = 12 by decide), u2_ne1 (show ¬ (0:Nat) = 13 by decide), u2_ne1 (show ¬ (0:Nat) = 21 by decide), u2_ne1 (show ¬ (0:Nat) = 25 by decide), M_leave_06]; exact h6_4)) ((by simp only [u2_ne1 (show ¬ (0:Nat) = 11 by decide), u2_ne1 (show ¬ (0:Nat) = 19 by decide), u2_ne1 (show ¬ (0:Nat) = 20 by decide), u2_ne1 (show ¬ (0:Nat) = 22 by decide), u2_ne1 (show ¬ (0:Nat) = 23 by decide), u2_ne1 (show ¬ (0:Nat) = 12 by decide), u2_ne1 (show ¬ (0:Nat) = 13 by decide), u2_ne1 (show ¬ (0:Nat) = 21 by decide), u2_ne1 (show ¬ (0:Nat) = 25 by decide), M_leave_014]; exact h14_4)) ((MI_u2 (by decide) (MI_u2 (by decide) hM_4)))
                    · refine j_goto F (tgt := 287) dX4_passMinute_215 (by decide) ?_
                      refine j_iincN F [some (.ref (d 0)), some (.int x), some (.int (nI (i + 1))), some (.int (t 11 i))] dX4_passMinute_287 rfl rfl rfl rfl ?_
                      refine j_goto F (tgt := 195) dX4_passMinute_290 (by decide) ?_
                      refine j_lvw [some (.ref (d 0)), some (.int x), some (.int (nI (i + 1))), none] ⟨rfl, rfl, rfl, trivial⟩ ?_
                      exact ih195 (i + 1) x t (by omega) (by omega) (by rw [M_pmW_s, ← hc_x, ← hc_t, M_pmWB, if_pos h212]) (by rw [M_pmW_s, ← hc_x, ← hc_t, M_pmWB, if_pos h212]) h6_4 h14_4 hM_4
              · refine j_aloadn F dX4_passMinute_161 rfl ?_
                refine gf_X4_59 F (v := .ref (d 20)) dX4_passMinute_162 0 rfl rfl ?_
                refine j_iloadn F dX4_passMinute_165 rfl ?_
                refine j_dup2 F dX4_passMinute_166 rfl rfl ?_
                refine j_ialdN F dX4_passMinute_167 (f := t 20) 15 rfl ⟨(Nat.lt_of_lt_of_le h158 hNT), by decide⟩ ?_
                refine j_aloadn F dX4_passMinute_168 rfl ?_
                refine gf_X4_56 F (v := .ref (d 19)) dX4_passMinute_169 0 rfl rfl ?_
                refine j_iloadn F dX4_passMinute_172 rfl ?_
                refine j_ialdN F dX4_passMinute_173 (f := t 19) 14 rfl ⟨(Nat.lt_of_lt_of_le h158 hNT), by decide⟩ ?_
                refine j_iconst F (v := 1) dX4_passMinute_174 (by decide) ?_
                refine j_icgt F (tgt := 182) dX4_passMinute_175 (by decide) (fun h175 => ?_) (fun h175 => ?_)
                · refine j_iconst F (v := 0) dX4_passMinute_182 (by decide) ?_
                  refine j_iadd F dX4_passMinute_183 ?_
                  refine j_iastN F hR.1 dX4_passMinute_184 15 rfl ⟨(Nat.lt_of_lt_of_le h158 hNT), by decide⟩ (MW (kD k) d (u2 t 20 i ((t 20 i) + 0))) (mu_20 _ _ _ _ _) ?_
                  refine j_iincN F [some (.ref (d 0)), some (.int (nI (i + 1))), none, none] dX4_passMinute_185 rfl rfl rfl rfl ?_
                  refine j_goto F (tgt := 153) dX4_passMinute_188 (by decide) ?_
                  exact ih153 (i + 1) (u2 t 20 i ((t 20 i) + 0)) (by omega) (by omega) (by rw [M_pmA_s, ← hc_t, M_pmAB, if_pos h175]) ((by simp only [u2_ne1 (show ¬ (0:Nat) = 11 by decide), u2_ne1 (show ¬ (0:Nat) = 19 by decide), u2_ne1 (show ¬ (0:Nat) = 20 by decide), u2_ne1 (show ¬ (0:Nat) = 22 by decide), u2_ne1 (show ¬ (0:Nat) = 23 by decide), u2_ne1 (show ¬ (0:Nat) = 12 by decide), u2_ne1 (show ¬ (0:Nat) = 13 by decide), u2_ne1 (show ¬ (0:Nat) = 21 by decide), u2_ne1 (show ¬ (0:Nat) = 25 by decide), M_leave_06]; exact h6_3)) ((by simp only [u2_ne1 (show ¬ (0:Nat) = 11 by decide), u2_ne1 (show ¬ (0:Nat) = 19 by decide), u2_ne1 (show ¬ (0:Nat) = 20 by decide), u2_ne1 (show ¬ (0:Nat) = 22 by decide), u2_ne1 (show ¬ (0:Nat) = 23 by decide), u2_ne1 (show ¬ (0:Nat) = 12 by decide), u2_ne1 (show ¬ (0:Nat) = 13 by decide), u2_ne1 (show ¬ (0:Nat) = 21 by decide), u2_ne1 (show ¬ (0:Nat) = 25 by decide), M_leave_014]; exact h14_3)) ((MI_u2 (by decide) hM_3))
                · refine j_iconst F (v := 1) dX4_passMinute_178 (by decide) ?_
                  refine j_goto F (tgt := 183) dX4_passMinute_179 (by decide) ?_
                  refine j_iadd F dX4_passMinute_183 ?_
                  refine j_iastN F hR.1 dX4_passMinute_184 15 rfl ⟨(Nat.lt_of_lt_of_le h158 hNT), by decide⟩ (MW (kD k) d (u2 t 20 i ((t 20 i) + 1))) (mu_20 _ _ _ _ _) ?_
                  refine j_iincN F [some (.ref (d 0)), some (.int (nI (i + 1))), none, none] dX4_passMinute_185 rfl rfl rfl rfl ?_
                  refine j_goto F (tgt := 153) dX4_passMinute_188 (by decide) ?_
                  exact ih153 (i + 1) (u2 t 20 i ((t 20 i) + 1)) (by omega) (by omega) (by rw [M_pmA_s, ← hc_t, M_pmAB, if_neg h175]) ((by simp only [u2_ne1 (show ¬ (0:Nat) = 11 by decide), u2_ne1 (show ¬ (0:Nat) = 19 by decide), u2_ne1 (show ¬ (0:Nat) = 20 by decide), u2_ne1 (show ¬ (0:Nat) = 22 by decide), u2_ne1 (show ¬ (0:Nat) = 23 by decide), u2_ne1 (show ¬ (0:Nat) = 12 by decide), u2_ne1 (show ¬ (0:Nat) = 13 by decide), u2_ne1 (show ¬ (0:Nat) = 21 by decide), u2_ne1 (show ¬ (0:Nat) = 25 by decide), M_leave_06]; exact h6_3)) ((by simp only [u2_ne1 (show ¬ (0:Nat) = 11 by decide), u2_ne1 (show ¬ (0:Nat) = 19 by decide), u2_ne1 (show ¬ (0:Nat) = 20 by decide), u2_ne1 (show ¬ (0:Nat) = 22 by decide), u2_ne1 (show ¬ (0:Nat) = 23 by decide), u2_ne1 (show ¬ (0:Nat) = 12 by decide), u2_ne1 (show ¬ (0:Nat) = 13 by decide), u2_ne1 (show ¬ (0:Nat) = 21 by decide), u2_ne1 (show ¬ (0:Nat) = 25 by decide), M_leave_014]; exact h14_3)) ((MI_u2 (by decide) hM_3))
        · refine j_aloadn F dX4_passMinute_55 rfl ?_
          refine gf_X4_35 F (v := .ref (d 11)) dX4_passMinute_56 0 rfl rfl ?_
          refine j_iloadn F dX4_passMinute_59 rfl ?_
          refine j_ialdN F dX4_passMinute_60 (f := t 11) 7 rfl ⟨(Nat.lt_of_lt_of_le h52 hNA), by decide⟩ ?_
          refine j_iconst F (v := (-1)) dX4_passMinute_61 (by decide) ?_
          refine j_icne F (tgt := 81) dX4_passMinute_62 (by decide) (fun h62 => ?_) (fun h62 => ?_)
          · refine j_iconst F (v := (-1)) dX4_passMinute_81 (by decide) ?_
            refine j_istoren F [some (.ref (d 0)), some (.int (nI i)), some (.int ((-1))), none] dX4_passMinute_82 rfl rfl rfl ?_
            refine j_iloadn F dX4_passMinute_83 rfl ?_
            refine j_iconst F (v := (-1)) dX4_passMinute_84 (by decide) ?_
            refine j_icne F (tgt := 91) dX4_passMinute_85 (by decide) (fun h85 => ?_) (fun h85 => ?_)
            · exact absurd h85 (by decide)
            · refine j_goto F (tgt := 134) dX4_passMinute_88 (by decide) ?_
              refine j_iincN F [some (.ref (d 0)), some (.int (nI (i + 1))), some (.int ((-1))), none] dX4_passMinute_134 rfl rfl rfl rfl ?_
              refine j_goto F (tgt := 47) dX4_passMinute_137 (by decide) ?_
              refine j_lvw [some (.ref (d 0)), some (.int (nI (i + 1))), none, none] ⟨rfl, rfl, trivial⟩ ?_
              exact ih47 (i + 1) t (by omega) (by omega) (by rw [M_pmG_s, ← hc_t, M_pmGB, if_neg h62]) h6_2 h14_2 hM_2
          · refine j_aloadn F dX4_passMinute_65 rfl ?_
            refine j_iloadn F dX4_passMinute_66 rfl ?_
            refine j_rdV F (qX4_isThere (kl k) hst (kD k) d t (nI i) ((vp_in_nI (Nat.lt_of_lt_of_le h52 hNA) (by decide)))) lk_X4_122 dX4_passMinute_67 ⟨(Nat.le_of_ble_eq_true rfl), (Nat.le_of_ble_eq_true rfl)⟩ (fun _ h => h) 0 rfl rfl rfl (Nat.le_of_ble_eq_true rfl) ⟨(Nat.le_of_ble_eq_true rfl), (Nat.le_of_ble_eq_true rfl)⟩ ?_
            refine j_ifbeq F (tgt := 81) dX4_passMinute_70 (by decide) (fun h70 => ?_) (fun h70 => ?_)
            · refine j_iconst F (v := (-1)) dX4_passMinute_81 (by decide) ?_
              refine j_istoren F [some (.ref (d 0)), some (.int (nI i)), some (.int ((-1))), none] dX4_passMinute_82 rfl rfl rfl ?_
              refine j_iloadn F dX4_passMinute_83 rfl ?_
              refine j_iconst F (v := (-1)) dX4_passMinute_84 (by decide) ?_
              refine j_icne F (tgt := 91) dX4_passMinute_85 (by decide) (fun h85 => ?_) (fun h85 => ?_)
              · exact absurd h85 (by decide)
              · refine j_goto F (tgt := 134) dX4_passMinute_88 (by decide) ?_
                refine j_iincN F [some (.ref (d 0)), some (.int (nI (i + 1))), some (.int ((-1))), none] dX4_passMinute_134 rfl rfl rfl rfl ?_
                refine j_goto F (tgt := 47) dX4_passMinute_137 (by decide) ?_
                refine j_lvw [some (.ref (d 0)), some (.int (nI (i + 1))), none, none] ⟨rfl, rfl, trivial⟩ ?_
                exact ih47 (i + 1) t (by omega) (by omega) (by rw [M_pmG_s, ← hc_t, M_pmGB, if_pos h62, if_neg h70]) h6_2 h14_2 hM_2
            · refine j_aloadn F dX4_passMinute_73 rfl ?_
              refine j_iloadn F dX4_passMinute_74 rfl ?_
              refine j_rdV F (qX4_nextOf (kl k) hst (kD k) d t (nI i) hM_2 ((vp_in_nI (Nat.lt_of_lt_of_le h52 hNA) (by decide)))) lk_X4_134 dX4_passMinute_75 ⟨(Nat.le_of_ble_eq_true rfl), (Nat.le_of_ble_eq_true rfl)⟩ (fun _ h => h) 0 rfl rfl rfl (Nat.le_of_ble_eq_true rfl) ⟨(Nat.le_of_ble_eq_true rfl), (Nat.le_of_ble_eq_true rfl)⟩ ?_
              refine j_goto F (tgt := 82) dX4_passMinute_78 (by decide) ?_
              refine j_istoren F [some (.ref (d 0)), some (.int (nI i)), some (.int (M_nextOf t (nI i))), none] dX4_passMinute_82 rfl rfl rfl ?_
              refine j_iloadn F dX4_passMinute_83 rfl ?_
              refine j_iconst F (v := (-1)) dX4_passMinute_84 (by decide) ?_
              refine j_icne F (tgt := 91) dX4_passMinute_85 (by decide) (fun h85 => ?_) (fun h85 => ?_)
              · refine j_aloadn F dX4_passMinute_91 rfl ?_
                refine gf_X4_35 F (v := .ref (d 11)) dX4_passMinute_92 0 rfl rfl ?_
                refine j_iloadn F dX4_passMinute_95 rfl ?_
                refine j_iloadn F dX4_passMinute_96 rfl ?_
                refine j_iastN F hR.1 dX4_passMinute_97 7 rfl ⟨(Nat.lt_of_lt_of_le h52 hNA), by decide⟩ (MW (kD k) d (u2 t 11 i (M_nextOf t (nI i)))) (mu_11 _ _ _ _ _) ?_
                refine j_aloadn F dX4_passMinute_98 rfl ?_
                refine gf_X4_56 F (v := .ref (d 19)) dX4_passMinute_99 0 rfl rfl ?_
                refine j_iloadn F dX4_passMinute_102 rfl ?_
                refine j_iconst F (v := 1) dX4_passMinute_103 (by decide) ?_
                refine j_iast F hR.1 dX4_passMinute_104 14 rfl ((M_nextOf_in hM_2).resolve_left h85) (MW (kD k) d (u2 (u2 t 11 i (M_nextOf t (nI i))) 19 (ix (M_nextOf t (nI i))) 1)) (mu_19 _ _ _ _ _) ?_
                refine j_aloadn F dX4_passMinute_105 rfl ?_
                refine gf_X4_68 F (v := .ref (d 23)) dX4_passMinute_106 0 rfl rfl ?_
                refine j_iloadn F dX4_passMinute_109 rfl ?_
                refine j_iald F dX4_passMinute_110 (f := t 23) 18 rfl ((M_nextOf_in hM_2).resolve_left h85) ?_
                refine j_iconst F (v := (-1)) dX4_passMinute_111 (by decide) ?_
                refine j_icne F (tgt := 127) dX4_passMinute_112 (by decide) (fun h112 => ?_) (fun h112 => ?_)
                · refine j_aloadn F dX4_passMinute_127 rfl ?_
                  refine gf_X4_65 F (v := .ref (d 22)) dX4_passMinute_128 0 rfl rfl ?_
                  refine j_iloadn F dX4_passMinute_131 rfl ?_
                  refine j_iloadn F dX4_passMinute_132 rfl ?_
                  refine j_iast F hR.1 dX4_passMinute_133 17 rfl ((M_nextOf_in hM_2).resolve_left h85) (MW (kD k) d (u2 (u2 (u2 t 11 i (M_nextOf t (nI i))) 19 (ix (M_nextOf t (nI i))) 1) 22 (ix (M_nextOf t (nI i))) (nI i))) (mu_22 _ _ _ _ _) ?_
                  refine j_iincN F [some (.ref (d 0)), some (.int (nI (i + 1))), some (.int (M_nextOf t (nI i))), none] dX4_passMinute_134 rfl rfl rfl rfl ?_
                  refine j_goto F (tgt := 47) dX4_passMinute_137 (by decide) ?_
                  refine j_lvw [some (.ref (d 0)), some (.int (nI (i + 1))), none, none] ⟨rfl, rfl, trivial⟩ ?_
                  exact ih47 (i + 1) (u2 (u2 (u2 t 11 i (M_nextOf t (nI i))) 19 (ix (M_nextOf t (nI i))) 1) 22 (ix (M_nextOf t (nI i))) (nI i)) (by omega) (by omega) (by rw [M_pmG_s, ← hc_t, M_pmGB, if_pos h62, if_pos h70, if_neg h85, if_neg h112]) ((by simp only [u2_ne1 (show ¬ (0:Nat) = 11 by decide), u2_ne1 (show ¬ (0:Nat) = 19 by decide), u2_ne1 (show ¬ (0:Nat) = 20 by decide), u2_ne1 (show ¬ (0:Nat) = 22 by decide), u2_ne1 (show ¬ (0:Nat) = 23 by decide), u2_ne1 (show ¬ (0:Nat) = 12 by decide), u2_ne1 (show ¬ (0:Nat) = 13 by decide), u2_ne1 (show ¬ (0:Nat) = 21 by decide), u2_ne1 (show ¬ (0:Nat) = 25 by decide), M_leave_06]; exact h6_2)) ((by simp only [u2_ne1 (show ¬ (0:Nat) = 11 by decide), u2_ne1 (show ¬ (0:Nat) = 19 by decide), u2_ne1 (show ¬ (0:Nat) = 20 by decide), u2_ne1 (show ¬ (0:Nat) = 22 by decide), u2_ne1 (show ¬ (0:Nat) = 23 by decide), u2_ne1 (show ¬ (0:Nat) = 12 by decide), u2_ne1 (show ¬ (0:Nat) = 13 by decide), u2_ne1 (show ¬ (0:Nat) = 21 by decide), u2_ne1 (show ¬ (0:Nat) = 25 by decide), M_leave_014]; exact h14_2)) ((MI_u2 (by decide) (MI_state (MI_hand hM_2 (Or.inr ((M_nextOf_in hM_2).resolve_left h85))) (by decide))))
                · refine j_aloadn F dX4_passMinute_115 rfl ?_
                  refine gf_X4_68 F (v := .ref (d 23)) dX4_passMinute_116 0 rfl rfl ?_
                  refine j_iloadn F dX4_passMinute_119 rfl ?_
                  refine j_aloadn F dX4_passMinute_120 rfl ?_
                  refine gf_X4_59 F (v := .ref (d 20)) dX4_passMinute_121 0 rfl rfl ?_
                  refine j_iloadn F dX4_passMinute_124 rfl ?_
                  refine j_iald F dX4_passMinute_125 (f := t 20) 15 rfl ((M_nextOf_in hM_2).resolve_left h85) ?_
                  refine j_iast F hR.1 dX4_passMinute_126 18 rfl ((M_nextOf_in hM_2).resolve_left h85) (MW (kD k) d (u2 (u2 (u2 t 11 i (M_nextOf t (nI i))) 19 (ix (M_nextOf t (nI i))) 1) 23 (ix (M_nextOf t (nI i))) (t 20 (ix (M_nextOf t (nI i)))))) (mu_23 _ _ _ _ _) ?_
                  refine j_aloadn F dX4_passMinute_127 rfl ?_
                  refine gf_X4_65 F (v := .ref (d 22)) dX4_passMinute_128 0 rfl rfl ?_
                  refine j_iloadn F dX4_passMinute_131 rfl ?_
                  refine j_iloadn F dX4_passMinute_132 rfl ?_
                  refine j_iast F hR.1 dX4_passMinute_133 17 rfl ((M_nextOf_in hM_2).resolve_left h85) (MW (kD k) d (u2 (u2 (u2 (u2 t 11 i (M_nextOf t (nI i))) 19 (ix (M_nextOf t (nI i))) 1) 23 (ix (M_nextOf t (nI i))) (t 20 (ix (M_nextOf t (nI i))))) 22 (ix (M_nextOf t (nI i))) (nI i))) (mu_22 _ _ _ _ _) ?_
                  refine j_iincN F [some (.ref (d 0)), some (.int (nI (i + 1))), some (.int (M_nextOf t (nI i))), none] dX4_passMinute_134 rfl rfl rfl rfl ?_
                  refine j_goto F (tgt := 47) dX4_passMinute_137 (by decide) ?_
                  refine j_lvw [some (.ref (d 0)), some (.int (nI (i + 1))), none, none] ⟨rfl, rfl, trivial⟩ ?_
                  exact ih47 (i + 1) (u2 (u2 (u2 (u2 t 11 i (M_nextOf t (nI i))) 19 (ix (M_nextOf t (nI i))) 1) 23 (ix (M_nextOf t (nI i))) (t 20 (ix (M_nextOf t (nI i))))) 22 (ix (M_nextOf t (nI i))) (nI i)) (by omega) (by omega) (by rw [M_pmG_s, ← hc_t, M_pmGB, if_pos h62, if_pos h70, if_neg h85, if_pos h112]) ((by simp only [u2_ne1 (show ¬ (0:Nat) = 11 by decide), u2_ne1 (show ¬ (0:Nat) = 19 by decide), u2_ne1 (show ¬ (0:Nat) = 20 by decide), u2_ne1 (show ¬ (0:Nat) = 22 by decide), u2_ne1 (show ¬ (0:Nat) = 23 by decide), u2_ne1 (show ¬ (0:Nat) = 12 by decide), u2_ne1 (show ¬ (0:Nat) = 13 by decide), u2_ne1 (show ¬ (0:Nat) = 21 by decide), u2_ne1 (show ¬ (0:Nat) = 25 by decide), M_leave_06]; exact h6_2)) ((by simp only [u2_ne1 (show ¬ (0:Nat) = 11 by decide), u2_ne1 (show ¬ (0:Nat) = 19 by decide), u2_ne1 (show ¬ (0:Nat) = 20 by decide), u2_ne1 (show ¬ (0:Nat) = 22 by decide), u2_ne1 (show ¬ (0:Nat) = 23 by decide), u2_ne1 (show ¬ (0:Nat) = 12 by decide), u2_ne1 (show ¬ (0:Nat) = 13 by decide), u2_ne1 (show ¬ (0:Nat) = 21 by decide), u2_ne1 (show ¬ (0:Nat) = 25 by decide), M_leave_014]; exact h14_2)) ((MI_u2 (by decide) (MI_u2 (by decide) (MI_state (MI_hand hM_2 (Or.inr ((M_nextOf_in hM_2).resolve_left h85))) (by decide)))))
              · refine j_goto F (tgt := 134) dX4_passMinute_88 (by decide) ?_
                refine j_iincN F [some (.ref (d 0)), some (.int (nI (i + 1))), some (.int (M_nextOf t (nI i))), none] dX4_passMinute_134 rfl rfl rfl rfl ?_
                refine j_goto F (tgt := 47) dX4_passMinute_137 (by decide) ?_
                refine j_lvw [some (.ref (d 0)), some (.int (nI (i + 1))), none, none] ⟨rfl, rfl, trivial⟩ ?_
                exact ih47 (i + 1) t (by omega) (by omega) (by rw [M_pmG_s, ← hc_t, M_pmGB, if_pos h62, if_pos h70, if_pos h85]) h6_2 h14_2 hM_2
    · refine j_aloadn F dX4_passMinute_10 rfl ?_
      refine gf_X4_35 F (v := .ref (d 11)) dX4_passMinute_11 0 rfl rfl ?_
      refine j_iloadn F dX4_passMinute_14 rfl ?_
      refine j_ialdN F dX4_passMinute_15 (f := t 11) 7 rfl ⟨(Nat.lt_of_lt_of_le h7 hNA), by decide⟩ ?_
      refine j_iconst F (v := (-1)) dX4_passMinute_16 (by decide) ?_
      refine j_iceq F (tgt := 39) dX4_passMinute_17 (by decide) (fun h17 => ?_) (fun h17 => ?_)
      · refine j_iincN F [some (.ref (d 0)), some (.int (nI (i + 1))), none, none] dX4_passMinute_39 rfl rfl rfl rfl ?_
        refine j_goto F (tgt := 2) dX4_passMinute_42 (by decide) ?_
        exact ih2 (i + 1) t (by omega) (by omega) (by rw [M_pmH_s, ← hc_t, M_pmHB, if_pos h17]) h6_1 h14_1 hM_1
      · refine j_aloadn F dX4_passMinute_20 rfl ?_
        refine j_iloadn F dX4_passMinute_21 rfl ?_
        refine j_rdV F (qX4_isThere (kl k) hst (kD k) d t (nI i) ((vp_in_nI (Nat.lt_of_lt_of_le h7 hNA) (by decide)))) lk_X4_122 dX4_passMinute_22 ⟨(Nat.le_of_ble_eq_true rfl), (Nat.le_of_ble_eq_true rfl)⟩ (fun _ h => h) 0 rfl rfl rfl (Nat.le_of_ble_eq_true rfl) ⟨(Nat.le_of_ble_eq_true rfl), (Nat.le_of_ble_eq_true rfl)⟩ ?_
        refine j_ifbne F (tgt := 39) dX4_passMinute_25 (by decide) (fun h25 => ?_) (fun h25 => ?_)
        · refine j_iincN F [some (.ref (d 0)), some (.int (nI (i + 1))), none, none] dX4_passMinute_39 rfl rfl rfl rfl ?_
          refine j_goto F (tgt := 2) dX4_passMinute_42 (by decide) ?_
          exact ih2 (i + 1) t (by omega) (by omega) (by rw [M_pmH_s, ← hc_t, M_pmHB, if_neg h17, if_pos h25]) h6_1 h14_1 hM_1
        · refine j_aloadn F dX4_passMinute_28 rfl ?_
          refine j_aloadn F dX4_passMinute_29 rfl ?_
          refine gf_X4_35 F (v := .ref (d 11)) dX4_passMinute_30 0 rfl rfl ?_
          refine j_iloadn F dX4_passMinute_33 rfl ?_
          refine j_ialdN F dX4_passMinute_34 (f := t 11) 7 rfl ⟨(Nat.lt_of_lt_of_le h7 hNA), by decide⟩ ?_
          refine j_iconst F (v := 0) dX4_passMinute_35 (by decide) ?_
          refine j_dmV F hR.1 (qX4_leave (kl k) hst (kD k) d t (t 11 i) 0 hM_1 ((MI.hand hM_1 (Nat.lt_of_lt_of_le h7 hNA) h17))) lk_X4_118 dX4_passMinute_36 ⟨(Nat.le_of_ble_eq_true rfl), (Nat.le_of_ble_eq_true rfl)⟩ 0 rfl rfl rfl (Nat.le_of_ble_eq_true rfl) ⟨(Nat.le_of_ble_eq_true rfl), (Nat.le_of_ble_eq_true rfl)⟩ rfl ?_
          refine j_iincN F [some (.ref (d 0)), some (.int (nI (i + 1))), none, none] dX4_passMinute_39 rfl rfl rfl rfl ?_
          refine j_goto F (tgt := 2) dX4_passMinute_42 (by decide) ?_
          exact ih2 (i + 1) (M_leave t (t 11 i) 0) (by omega) (by omega) (by rw [M_pmH_s, ← hc_t, M_pmHB, if_neg h17, if_neg h25]) ((by simp only [u2_ne1 (show ¬ (0:Nat) = 11 by decide), u2_ne1 (show ¬ (0:Nat) = 19 by decide), u2_ne1 (show ¬ (0:Nat) = 20 by decide), u2_ne1 (show ¬ (0:Nat) = 22 by decide), u2_ne1 (show ¬ (0:Nat) = 23 by decide), u2_ne1 (show ¬ (0:Nat) = 12 by decide), u2_ne1 (show ¬ (0:Nat) = 13 by decide), u2_ne1 (show ¬ (0:Nat) = 21 by decide), u2_ne1 (show ¬ (0:Nat) = 25 by decide), M_leave_06]; exact h6_1)) ((by simp only [u2_ne1 (show ¬ (0:Nat) = 11 by decide), u2_ne1 (show ¬ (0:Nat) = 19 by decide), u2_ne1 (show ¬ (0:Nat) = 20 by decide), u2_ne1 (show ¬ (0:Nat) = 22 by decide), u2_ne1 (show ¬ (0:Nat) = 23 by decide), u2_ne1 (show ¬ (0:Nat) = 12 by decide), u2_ne1 (show ¬ (0:Nat) = 13 by decide), u2_ne1 (show ¬ (0:Nat) = 21 by decide), u2_ne1 (show ¬ (0:Nat) = 25 by decide), M_leave_014]; exact h14_1)) ((MI_leave hM_1 (by decide)))
