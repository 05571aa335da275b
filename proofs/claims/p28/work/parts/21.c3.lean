/-! THE CLASS'S METHODS that the law calls, save those that make a thing -/
theorem sv0 {p0 p1 : Int32} (h1 : ¬ p0 < 0) (h6 : ¬ p1 < p0) (h12 : p1 ≤ 99999) : vp_in p0 100001 := by
  have e : (99999 : Int32).toInt = 99999 := by decide
  have e0 : (0 : Int32).toInt = 0 := by decide
  rw [Int32.lt_iff_toInt_lt, e0] at h1
  rw [Int32.lt_iff_toInt_lt] at h6
  rw [Int32.le_iff_toInt_le, e] at h12
  exact vp_in_iff.mpr ⟨by omega, by omega⟩
theorem sv1 {p0 p1 : Int32} (h1 : ¬ p0 < 0) (h6 : ¬ p1 < p0) (h12 : p1 ≤ 99999) : vp_in p1 100001 := by
  have e : (99999 : Int32).toInt = 99999 := by decide
  have e0 : (0 : Int32).toInt = 0 := by decide
  rw [Int32.lt_iff_toInt_lt, e0] at h1
  rw [Int32.lt_iff_toInt_lt] at h6
  rw [Int32.le_iff_toInt_le, e] at h12
  exact vp_in_iff.mpr ⟨by omega, by omega⟩
def C_setHours (na nt : Nat) (v : S2) (r : R2) (p0 : Int32) (p1 : Int32) : Nat × Bool × S2 × R2 := if (C_isSpanOfDay p0 p1) = true then (if p0 = (v 0 1) then (if p1 = (v 0 2) then (0, false, u2 (u2 v 0 1 p0) 0 2 p1, r) else (0, true, u2 (u2 v 0 1 p0) 0 2 p1, r)) else (0, true, u2 (u2 v 0 1 p0) 0 2 p1, r)) else (1, false, v, r)
set_option maxHeartbeats 4000000 in
set_option maxRecDepth 100000 in
theorem qX3_setHours (l : Launch) (hst : l.stackTraces = false) (D : va_G) (G : CG) (v : S2) (r : R2) (p0 : Int32) (p1 : Int32) : CX l D yX3_setHours cX3_setHours 4 (some .boolean) 6 90 1 6 (CW D G v r) [.ref (G.1 0 0), .int p0, .int p1] (fun u w => (C_setHours (nA G) (nT G) v r p0 p1).1 = 0 ∧ u = some (.int (b1 ((C_setHours (nA G) (nT G) v r p0 p1).2.1))) ∧ w = CW D G (C_setHours (nA G) (nT G) v r p0 p1).2.2.1 (C_setHours (nA G) (nT G) v r p0 p1).2.2.2) (fun E => (C_setHours (nA G) (nT G) v r p0 p1).1 ≠ 0 ∧ E = xE (C_setHours (nA G) (nT G) v r p0 p1).1) := by
  refine CX_of [some (.ref (G.1 0 0)), some (.int p0), some (.int p1), none] hst (by decide +kernel) rfl (Nat.le_of_ble_eq_true rfl) (fun k F hl hD hR hX hNT => ?_)
  subst hl hD
  refine j_iloadn F dX3_setHours_0 rfl ?_
  refine j_iloadn F dX3_setHours_1 rfl ?_
  refine j_rdS F (qX3_isSpanOfDay (kl k) hst (kD k) p0 p1) lk_X3_37 dX3_setHours_2 ⟨(Nat.le_of_ble_eq_true rfl), (Nat.le_of_ble_eq_true rfl)⟩ (fun _ h => nomatch h) rfl (Nat.le_of_ble_eq_true rfl) ⟨(Nat.le_of_ble_eq_true rfl), (Nat.le_of_ble_eq_true rfl)⟩ ?_
  refine j_ifbne F (tgt := 18) dX3_setHours_5 (by decide) (fun h5 => ?_) (fun h5 => ?_)
  · refine j_iloadn F dX3_setHours_18 rfl ?_
    refine j_aloadn F dX3_setHours_19 rfl ?_
    refine gf_X3_10 F (v := .ref (G.1 0 1)) dX3_setHours_20 0 rfl rfl ?_
    refine gf_X3_48 F (v := .int (v 0 1)) dX3_setHours_23 1 rfl rfl ?_
    refine j_icne F (tgt := 40) dX3_setHours_26 (by decide) (fun h26 => ?_) (fun h26 => ?_)
    · refine j_iconst F (v := 1) dX3_setHours_40 (by decide) ?_
      refine j_goto F (tgt := 45) dX3_setHours_41 (by decide) ?_
      refine j_istoren F [some (.ref (G.1 0 0)), some (.int p0), some (.int p1), some (.int 1)] dX3_setHours_45 rfl rfl rfl ?_
      refine j_aloadn F dX3_setHours_46 rfl ?_
      refine gf_X3_10 F (v := .ref (G.1 0 1)) dX3_setHours_47 0 rfl rfl ?_
      refine j_iloadn F dX3_setHours_50 rfl ?_
      refine pf_X3_48 F hR.1 dX3_setHours_51 rfl rfl 1 rfl (Nat.le_of_ble_eq_true rfl) (CW (kD k) G (u2 v 0 1 p0) r) cs_1 ?_
      refine j_aloadn F dX3_setHours_54 rfl ?_
      refine gf_X3_10 F (v := .ref (G.1 0 1)) dX3_setHours_55 0 rfl rfl ?_
      refine j_iloadn F dX3_setHours_58 rfl ?_
      refine pf_X3_51 F hR.1 dX3_setHours_59 rfl rfl 1 rfl (Nat.le_of_ble_eq_true rfl) (CW (kD k) G (u2 (u2 v 0 1 p0) 0 2 p1) r) cs_2 ?_
      refine j_iloadn F dX3_setHours_62 rfl ?_
      have hz : C_setHours (nA G) (nT G) v r p0 p1 = (0, true, u2 (u2 v 0 1 p0) 0 2 p1, r) := by rw [C_setHours, if_pos h5, if_neg h26]
      exact j_zret F (b := true) hR dX3_setHours_63 (Nat.le_of_ble_eq_true rfl) (Nat.le_of_ble_eq_true rfl) rfl ⟨by rw [hz], by rw [hz], by rw [hz]⟩
    · refine j_iloadn F dX3_setHours_29 rfl ?_
      refine j_aloadn F dX3_setHours_30 rfl ?_
      refine gf_X3_10 F (v := .ref (G.1 0 1)) dX3_setHours_31 0 rfl rfl ?_
      refine gf_X3_51 F (v := .int (v 0 2)) dX3_setHours_34 1 rfl rfl ?_
      refine j_iceq F (tgt := 44) dX3_setHours_37 (by decide) (fun h37 => ?_) (fun h37 => ?_)
      · refine j_iconst F (v := 0) dX3_setHours_44 (by decide) ?_
        refine j_istoren F [some (.ref (G.1 0 0)), some (.int p0), some (.int p1), some (.int 0)] dX3_setHours_45 rfl rfl rfl ?_
        refine j_aloadn F dX3_setHours_46 rfl ?_
        refine gf_X3_10 F (v := .ref (G.1 0 1)) dX3_setHours_47 0 rfl rfl ?_
        refine j_iloadn F dX3_setHours_50 rfl ?_
        refine pf_X3_48 F hR.1 dX3_setHours_51 rfl rfl 1 rfl (Nat.le_of_ble_eq_true rfl) (CW (kD k) G (u2 v 0 1 p0) r) cs_1 ?_
        refine j_aloadn F dX3_setHours_54 rfl ?_
        refine gf_X3_10 F (v := .ref (G.1 0 1)) dX3_setHours_55 0 rfl rfl ?_
        refine j_iloadn F dX3_setHours_58 rfl ?_
        refine pf_X3_51 F hR.1 dX3_setHours_59 rfl rfl 1 rfl (Nat.le_of_ble_eq_true rfl) (CW (kD k) G (u2 (u2 v 0 1 p0) 0 2 p1) r) cs_2 ?_
        refine j_iloadn F dX3_setHours_62 rfl ?_
        have hz : C_setHours (nA G) (nT G) v r p0 p1 = (0, false, u2 (u2 v 0 1 p0) 0 2 p1, r) := by rw [C_setHours, if_pos h5, if_pos h26, if_pos h37]
        exact j_zret F (b := false) hR dX3_setHours_63 (Nat.le_of_ble_eq_true rfl) (Nat.le_of_ble_eq_true rfl) rfl ⟨by rw [hz], by rw [hz], by rw [hz]⟩
      · refine j_iconst F (v := 1) dX3_setHours_40 (by decide) ?_
        refine j_goto F (tgt := 45) dX3_setHours_41 (by decide) ?_
        refine j_istoren F [some (.ref (G.1 0 0)), some (.int p0), some (.int p1), some (.int 1)] dX3_setHours_45 rfl rfl rfl ?_
        refine j_aloadn F dX3_setHours_46 rfl ?_
        refine gf_X3_10 F (v := .ref (G.1 0 1)) dX3_setHours_47 0 rfl rfl ?_
        refine j_iloadn F dX3_setHours_50 rfl ?_
        refine pf_X3_48 F hR.1 dX3_setHours_51 rfl rfl 1 rfl (Nat.le_of_ble_eq_true rfl) (CW (kD k) G (u2 v 0 1 p0) r) cs_1 ?_
        refine j_aloadn F dX3_setHours_54 rfl ?_
        refine gf_X3_10 F (v := .ref (G.1 0 1)) dX3_setHours_55 0 rfl rfl ?_
        refine j_iloadn F dX3_setHours_58 rfl ?_
        refine pf_X3_51 F hR.1 dX3_setHours_59 rfl rfl 1 rfl (Nat.le_of_ble_eq_true rfl) (CW (kD k) G (u2 (u2 v 0 1 p0) 0 2 p1) r) cs_2 ?_
        refine j_iloadn F dX3_setHours_62 rfl ?_
        have hz : C_setHours (nA G) (nT G) v r p0 p1 = (0, true, u2 (u2 v 0 1 p0) 0 2 p1, r) := by rw [C_setHours, if_pos h5, if_pos h26, if_neg h37]
        exact j_zret F (b := true) hR dX3_setHours_63 (Nat.le_of_ble_eq_true rfl) (Nat.le_of_ble_eq_true rfl) rfl ⟨by rw [hz], by rw [hz], by rw [hz]⟩
  · have hz : C_setHours (nA G) (nT G) v r p0 p1 = (1, false, v, r) := by rw [C_setHours, if_neg h5]
    exact j_throw F hX hNT lt_eA (text := "no such hours") (by decide +kernel) ⟨by rw [hz]; exact (Nat.succ_ne_zero _), by rw [hz]; rfl⟩ dX3_setHours_8 dX3_setHours_11 dX3_setHours_12 dX3_setHours_14 dX3_setHours_17 ⟨(Nat.le_of_ble_eq_true rfl), (Nat.le_of_ble_eq_true rfl), (Nat.le_of_ble_eq_true rfl), (Nat.le_of_ble_eq_true rfl)⟩ (Nat.le_of_ble_eq_true rfl) (Nat.le_of_ble_eq_true rfl)
def C_setTargets (na nt : Nat) (v : S2) (r : R2) (p0 : Int32) (p1 : Int32) (p2 : Int32) : Nat × Int32 × S2 × R2 := if (C_isPriority p0) = true then (if p1 < 1 then (1, 0, v, r) else if 9999 < p1 then (1, 0, v, r) else if p2 < p1 then (1, 0, v, r) else if p2 ≤ 9999 then (0, v 2 (ix p0), u2 (u2 v 1 (ix p0) p1) 2 (ix p0) p2, r) else (1, 0, v, r)) else (2, 0, v, r)
set_option maxHeartbeats 4000000 in
set_option maxRecDepth 100000 in
theorem qX3_setTargets (l : Launch) (hst : l.stackTraces = false) (D : va_G) (G : CG) (v : S2) (r : R2) (p0 : Int32) (p1 : Int32) (p2 : Int32) : CX l D yX3_setTargets cX3_setTargets 5 (some .int) 6 90 1 6 (CW D G v r) [.ref (G.1 0 0), .int p0, .int p1, .int p2] (fun u w => (C_setTargets (nA G) (nT G) v r p0 p1 p2).1 = 0 ∧ u = some (.int ((C_setTargets (nA G) (nT G) v r p0 p1 p2).2.1)) ∧ w = CW D G (C_setTargets (nA G) (nT G) v r p0 p1 p2).2.2.1 (C_setTargets (nA G) (nT G) v r p0 p1 p2).2.2.2) (fun E => (C_setTargets (nA G) (nT G) v r p0 p1 p2).1 ≠ 0 ∧ E = xE (C_setTargets (nA G) (nT G) v r p0 p1 p2).1) := by
  refine CX_of [some (.ref (G.1 0 0)), some (.int p0), some (.int p1), some (.int p2), none] hst (by decide +kernel) rfl (Nat.le_of_ble_eq_true rfl) (fun k F hl hD hR hX hNT => ?_)
  subst hl hD
  refine j_iloadn F dX3_setTargets_0 rfl ?_
  refine j_rdS F (qX3_isPriority (kl k) hst (kD k) p0) lk_X3_54 dX3_setTargets_1 ⟨(Nat.le_of_ble_eq_true rfl), (Nat.le_of_ble_eq_true rfl)⟩ (fun _ h => nomatch h) rfl (Nat.le_of_ble_eq_true rfl) ⟨(Nat.le_of_ble_eq_true rfl), (Nat.le_of_ble_eq_true rfl)⟩ ?_
  refine j_ifbne F (tgt := 17) dX3_setTargets_4 (by decide) (fun h4 => ?_) (fun h4 => ?_)
  · refine j_iloadn F dX3_setTargets_17 rfl ?_
    refine j_iconst F (v := 1) dX3_setTargets_18 (by decide) ?_
    refine j_iclt F (tgt := 41) dX3_setTargets_19 (by decide) (fun h19 => ?_) (fun h19 => ?_)
    · have hz : C_setTargets (nA G) (nT G) v r p0 p1 p2 = (1, 0, v, r) := by rw [C_setTargets, if_pos h4, if_pos h19]
      exact j_throw F hX hNT lt_eA (text := "no such targets") (by decide +kernel) ⟨by rw [hz]; exact (Nat.succ_ne_zero _), by rw [hz]; rfl⟩ dX3_setTargets_41 dX3_setTargets_44 dX3_setTargets_45 dX3_setTargets_47 dX3_setTargets_50 ⟨(Nat.le_of_ble_eq_true rfl), (Nat.le_of_ble_eq_true rfl), (Nat.le_of_ble_eq_true rfl), (Nat.le_of_ble_eq_true rfl)⟩ (Nat.le_of_ble_eq_true rfl) (Nat.le_of_ble_eq_true rfl)
    · refine j_iloadn F dX3_setTargets_22 rfl ?_
      refine j_sipush F (v := 9999) dX3_setTargets_23 (by decide) ?_
      refine j_icgt F (tgt := 41) dX3_setTargets_26 (by decide) (fun h26 => ?_) (fun h26 => ?_)
      · have hz : C_setTargets (nA G) (nT G) v r p0 p1 p2 = (1, 0, v, r) := by rw [C_setTargets, if_pos h4, if_neg h19, if_pos h26]
        exact j_throw F hX hNT lt_eA (text := "no such targets") (by decide +kernel) ⟨by rw [hz]; exact (Nat.succ_ne_zero _), by rw [hz]; rfl⟩ dX3_setTargets_41 dX3_setTargets_44 dX3_setTargets_45 dX3_setTargets_47 dX3_setTargets_50 ⟨(Nat.le_of_ble_eq_true rfl), (Nat.le_of_ble_eq_true rfl), (Nat.le_of_ble_eq_true rfl), (Nat.le_of_ble_eq_true rfl)⟩ (Nat.le_of_ble_eq_true rfl) (Nat.le_of_ble_eq_true rfl)
      · refine j_iloadn F dX3_setTargets_29 rfl ?_
        refine j_iloadn F dX3_setTargets_30 rfl ?_
        refine j_iclt F (tgt := 41) dX3_setTargets_31 (by decide) (fun h31 => ?_) (fun h31 => ?_)
        · have hz : C_setTargets (nA G) (nT G) v r p0 p1 p2 = (1, 0, v, r) := by rw [C_setTargets, if_pos h4, if_neg h19, if_neg h26, if_pos h31]
          exact j_throw F hX hNT lt_eA (text := "no such targets") (by decide +kernel) ⟨by rw [hz]; exact (Nat.succ_ne_zero _), by rw [hz]; rfl⟩ dX3_setTargets_41 dX3_setTargets_44 dX3_setTargets_45 dX3_setTargets_47 dX3_setTargets_50 ⟨(Nat.le_of_ble_eq_true rfl), (Nat.le_of_ble_eq_true rfl), (Nat.le_of_ble_eq_true rfl), (Nat.le_of_ble_eq_true rfl)⟩ (Nat.le_of_ble_eq_true rfl) (Nat.le_of_ble_eq_true rfl)
        · refine j_iloadn F dX3_setTargets_34 rfl ?_
          refine j_sipush F (v := 9999) dX3_setTargets_35 (by decide) ?_
          refine j_icle F (tgt := 51) dX3_setTargets_38 (by decide) (fun h38 => ?_) (fun h38 => ?_)
          · refine j_aloadn F dX3_setTargets_51 rfl ?_
            refine gf_X3_20 F (v := .ref (G.1 0 3)) dX3_setTargets_52 0 rfl rfl ?_
            refine j_iloadn F dX3_setTargets_55 rfl ?_
            refine j_iald F dX3_setTargets_56 (f := v 2) 3 rfl (C_isPriority_in h4) ?_
            refine j_istore F [some (.ref (G.1 0 0)), some (.int p0), some (.int p1), some (.int p2), some (.int (v 2 (ix p0)))] dX3_setTargets_57 rfl rfl rfl ?_
            refine j_aloadn F dX3_setTargets_59 rfl ?_
            refine gf_X3_16 F (v := .ref (G.1 0 2)) dX3_setTargets_60 0 rfl rfl ?_
            refine j_iloadn F dX3_setTargets_63 rfl ?_
            refine j_iloadn F dX3_setTargets_64 rfl ?_
            refine j_iast F hR.1 dX3_setTargets_65 2 rfl (C_isPriority_in h4) (CW (kD k) G (u2 v 1 (ix p0) p1) r) cs_an ?_
            refine j_aloadn F dX3_setTargets_66 rfl ?_
            refine gf_X3_20 F (v := .ref (G.1 0 3)) dX3_setTargets_67 0 rfl rfl ?_
            refine j_iloadn F dX3_setTargets_70 rfl ?_
            refine j_iloadn F dX3_setTargets_71 rfl ?_
            refine j_iast F hR.1 dX3_setTargets_72 3 rfl (C_isPriority_in h4) (CW (kD k) G (u2 (u2 v 1 (ix p0) p1) 2 (ix p0) p2) r) cs_so ?_
            refine j_iload F dX3_setTargets_73 rfl ?_
            have hz : C_setTargets (nA G) (nT G) v r p0 p1 p2 = (0, v 2 (ix p0), u2 (u2 v 1 (ix p0) p1) 2 (ix p0) p2, r) := by rw [C_setTargets, if_pos h4, if_neg h19, if_neg h26, if_neg h31, if_pos h38]
            exact j_iret F hR dX3_setTargets_75 (Nat.le_of_ble_eq_true rfl) (Nat.le_of_ble_eq_true rfl) ⟨by rw [hz], by rw [hz], by rw [hz]⟩
          · have hz : C_setTargets (nA G) (nT G) v r p0 p1 p2 = (1, 0, v, r) := by rw [C_setTargets, if_pos h4, if_neg h19, if_neg h26, if_neg h31, if_neg h38]
            exact j_throw F hX hNT lt_eA (text := "no such targets") (by decide +kernel) ⟨by rw [hz]; exact (Nat.succ_ne_zero _), by rw [hz]; rfl⟩ dX3_setTargets_41 dX3_setTargets_44 dX3_setTargets_45 dX3_setTargets_47 dX3_setTargets_50 ⟨(Nat.le_of_ble_eq_true rfl), (Nat.le_of_ble_eq_true rfl), (Nat.le_of_ble_eq_true rfl), (Nat.le_of_ble_eq_true rfl)⟩ (Nat.le_of_ble_eq_true rfl) (Nat.le_of_ble_eq_true rfl)
  · have hz : C_setTargets (nA G) (nT G) v r p0 p1 p2 = (2, 0, v, r) := by rw [C_setTargets, if_neg h4]
    exact j_throw F hX hNT lt_eI (text := "no such priority") (by decide +kernel) ⟨by rw [hz]; exact (Nat.succ_ne_zero _), by rw [hz]; rfl⟩ dX3_setTargets_7 dX3_setTargets_10 dX3_setTargets_11 dX3_setTargets_13 dX3_setTargets_16 ⟨(Nat.le_of_ble_eq_true rfl), (Nat.le_of_ble_eq_true rfl), (Nat.le_of_ble_eq_true rfl), (Nat.le_of_ble_eq_true rfl)⟩ (Nat.le_of_ble_eq_true rfl) (Nat.le_of_ble_eq_true rfl)
def C_now (na nt : Nat) (v : S2) (r : R2) : Int32 := v 0 0
set_option maxHeartbeats 4000000 in
set_option maxRecDepth 100000 in
theorem qX3_now (l : Launch) (hst : l.stackTraces = false) (D : va_G) (G : CG) (v : S2) (r : R2) : CR l D yX3_now cX3_now 1 (some .int) 0 0 (CW D G v r) [.ref (G.1 0 0)] (.int (C_now (nA G) (nT G) v r)) := by
  refine CR_of [some (.ref (G.1 0 0))] hst (by decide +kernel) rfl (Nat.le_of_ble_eq_true rfl) (fun k F hl hD hR => ?_)
  subst hl hD
  refine j_aloadn F dX3_now_0 rfl ?_
  refine gf_X3_33 F (v := .int (v 0 0)) dX3_now_1 0 rfl rfl ?_
  exact j_iretR F hR dX3_now_4 (congrArg Value.int (show C_now (nA G) (nT G) v r = v 0 0 from rfl))
def C_service (na nt : Nat) (v : S2) (r : R2) (p0 : Int32) (p1 : Int32) : Nat × Int32 × S2 × R2 := if p0 < 0 then (1, 0, v, r) else if p1 < p0 then (1, 0, v, r) else if p1 ≤ 99999 then (0, C_H_minutesBetween na nt v r p0 p1, v, r) else (1, 0, v, r)
set_option maxHeartbeats 4000000 in
set_option maxRecDepth 100000 in
theorem qX3_service (l : Launch) (hst : l.stackTraces = false) (D : va_G) (G : CG) (v : S2) (r : R2) (p0 : Int32) (p1 : Int32) : CX l D yX3_service cX3_service 3 (some .int) 6 90 1 6 (CW D G v r) [.ref (G.1 0 0), .int p0, .int p1] (fun u w => (C_service (nA G) (nT G) v r p0 p1).1 = 0 ∧ u = some (.int ((C_service (nA G) (nT G) v r p0 p1).2.1)) ∧ w = CW D G (C_service (nA G) (nT G) v r p0 p1).2.2.1 (C_service (nA G) (nT G) v r p0 p1).2.2.2) (fun E => (C_service (nA G) (nT G) v r p0 p1).1 ≠ 0 ∧ E = xE (C_service (nA G) (nT G) v r p0 p1).1) := by
  refine CX_of [some (.ref (G.1 0 0)), some (.int p0), some (.int p1)] hst (by decide +kernel) rfl (Nat.le_of_ble_eq_true rfl) (fun k F hl hD hR hX hNT => ?_)
  subst hl hD
  refine j_iloadn F dX3_service_0 rfl ?_
  refine j_iflt F (tgt := 15) dX3_service_1 (by decide) (fun h1 => ?_) (fun h1 => ?_)
  · have hz : C_service (nA G) (nT G) v r p0 p1 = (1, 0, v, r) := by rw [C_service, if_pos h1]
    exact j_throw F hX hNT lt_eA (text := "no such span of minutes") (by decide +kernel) ⟨by rw [hz]; exact (Nat.succ_ne_zero _), by rw [hz]; rfl⟩ dX3_service_15 dX3_service_18 dX3_service_19 dX3_service_21 dX3_service_24 ⟨(Nat.le_of_ble_eq_true rfl), (Nat.le_of_ble_eq_true rfl), (Nat.le_of_ble_eq_true rfl), (Nat.le_of_ble_eq_true rfl)⟩ (Nat.le_of_ble_eq_true rfl) (Nat.le_of_ble_eq_true rfl)
  · refine j_iloadn F dX3_service_4 rfl ?_
    refine j_iloadn F dX3_service_5 rfl ?_
    refine j_iclt F (tgt := 15) dX3_service_6 (by decide) (fun h6 => ?_) (fun h6 => ?_)
    · have hz : C_service (nA G) (nT G) v r p0 p1 = (1, 0, v, r) := by rw [C_service, if_neg h1, if_pos h6]
      exact j_throw F hX hNT lt_eA (text := "no such span of minutes") (by decide +kernel) ⟨by rw [hz]; exact (Nat.succ_ne_zero _), by rw [hz]; rfl⟩ dX3_service_15 dX3_service_18 dX3_service_19 dX3_service_21 dX3_service_24 ⟨(Nat.le_of_ble_eq_true rfl), (Nat.le_of_ble_eq_true rfl), (Nat.le_of_ble_eq_true rfl), (Nat.le_of_ble_eq_true rfl)⟩ (Nat.le_of_ble_eq_true rfl) (Nat.le_of_ble_eq_true rfl)
    · refine j_iloadn F dX3_service_9 rfl ?_
      refine j_ldc F uc_X3_65 dX3_service_10 ?_
      refine j_icle F (tgt := 25) dX3_service_12 (by decide) (fun h12 => ?_) (fun h12 => ?_)
      · refine j_aloadn F dX3_service_25 rfl ?_
        refine gf_X3_10 F (v := .ref (G.1 0 1)) dX3_service_26 0 rfl rfl ?_
        refine j_iloadn F dX3_service_29 rfl ?_
        refine j_iloadn F dX3_service_30 rfl ?_
        refine j_rdV F (qX1_minutesBetween (kl k) hst (kD k) G v r p0 p1 ((sv0 h1 h6 h12)) ((sv1 h1 h6 h12))) lk_X3_68 dX3_service_31 ⟨(Nat.le_of_ble_eq_true rfl), (Nat.le_of_ble_eq_true rfl)⟩ (fun _ h => h) 1 rfl rfl rfl (Nat.le_of_ble_eq_true rfl) ⟨(Nat.le_of_ble_eq_true rfl), (Nat.le_of_ble_eq_true rfl)⟩ ?_
        have hz : C_service (nA G) (nT G) v r p0 p1 = (0, C_H_minutesBetween (nA G) (nT G) v r p0 p1, v, r) := by rw [C_service, if_neg h1, if_neg h6, if_pos h12]
        exact j_iret F hR dX3_service_34 (Nat.le_of_ble_eq_true rfl) (Nat.le_of_ble_eq_true rfl) ⟨by rw [hz], by rw [hz], by rw [hz]⟩
      · have hz : C_service (nA G) (nT G) v r p0 p1 = (1, 0, v, r) := by rw [C_service, if_neg h1, if_neg h6, if_neg h12]
        exact j_throw F hX hNT lt_eA (text := "no such span of minutes") (by decide +kernel) ⟨by rw [hz]; exact (Nat.succ_ne_zero _), by rw [hz]; rfl⟩ dX3_service_15 dX3_service_18 dX3_service_19 dX3_service_21 dX3_service_24 ⟨(Nat.le_of_ble_eq_true rfl), (Nat.le_of_ble_eq_true rfl), (Nat.le_of_ble_eq_true rfl), (Nat.le_of_ble_eq_true rfl)⟩ (Nat.le_of_ble_eq_true rfl) (Nat.le_of_ble_eq_true rfl)
def C_setSkills (na nt : Nat) (v : S2) (r : R2) (p0 : Int32) (p1 : Int32) : Nat × Int32 × S2 × R2 := if inR p0 na = true then (if (C_isSetOfSkills p1) = true then (if r 15 (ix p0) = none then (0, v 14 (ix p0), u2 v 14 (ix p0) p1, r) else if (C_A_hasSkill na nt (u2 v 14 (ix p0) p1) r (ix p0) (v 21 (gd (r 15 (ix p0))))) = true then (0, v 14 (ix p0), u2 v 14 (ix p0) p1, r) else (0, v 14 (ix p0), (C_handBack na nt (u2 v 14 (ix p0) p1) r (gd (r 15 (ix p0)))).1, (C_handBack na nt (u2 v 14 (ix p0) p1) r (gd (r 15 (ix p0)))).2)) else (1, 0, v, r)) else (2, 0, v, r)
def C_agent (na nt : Nat) (v : S2) (r : R2) (p0 : Int32) (p1 : Int32) : Nat × Int32 × S2 × R2 := if inR p0 na = true then (if p1 < 0 then (2, 0, v, r) else if p1 < 4 then (0, C_toldOfAgent na nt v r (ix p0) p1, v, r) else (2, 0, v, r)) else (2, 0, v, r)
set_option maxHeartbeats 4000000 in
set_option maxRecDepth 100000 in
theorem qX3_agent (l : Launch) (hst : l.stackTraces = false) (D : va_G) (G : CG) (v : S2) (r : R2) (p0 : Int32) (p1 : Int32) (hG : GI D G) (hC : CI G v r) : CX l D yX3_agent cX3_agent 4 (some .int) 7 131 2 12 (CW D G v r) [.ref (G.1 0 0), .int p0, .int p1] (fun u w => (C_agent (nA G) (nT G) v r p0 p1).1 = 0 ∧ u = some (.int ((C_agent (nA G) (nT G) v r p0 p1).2.1)) ∧ w = CW D G (C_agent (nA G) (nT G) v r p0 p1).2.2.1 (C_agent (nA G) (nT G) v r p0 p1).2.2.2) (fun E => (C_agent (nA G) (nT G) v r p0 p1).1 ≠ 0 ∧ E = xE (C_agent (nA G) (nT G) v r p0 p1).1) := by
  refine CX_of [some (.ref (G.1 0 0)), some (.int p0), some (.int p1), none] hst (by decide +kernel) rfl (Nat.le_of_ble_eq_true rfl) (fun k F hl hD hR hX hNT => ?_)
  subst hl hD
  refine j_aloadn F dX3_agent_0 rfl ?_
  refine j_iloadn F dX3_agent_1 rfl ?_
  refine j_cxV0 F hR.1 (qX3_agentAt (kl k) hst (kD k) G v r p0 hG) lk_X3_98 dX3_agent_2 ⟨(Nat.le_of_ble_eq_true rfl), (Nat.le_of_ble_eq_true rfl)⟩ 0 rfl rfl rfl (Nat.le_of_ble_eq_true rfl) ⟨(Nat.le_of_ble_eq_true rfl), (Nat.le_of_ble_eq_true rfl)⟩ (fun u w1 hp => ?_) (fun E hE => ?_)
  · obtain ⟨h2, rfl, rfl⟩ := hp
    refine j_st [.ref (aA G (ix p0))] rfl ?_
    refine j_astoren F [some (.ref (G.1 0 0)), some (.int p0), some (.int p1), some (.ref (aA G (ix p0)))] dX3_agent_5 rfl rfl rfl ?_
    refine j_iloadn F dX3_agent_6 rfl ?_
    refine j_iflt F (tgt := 15) dX3_agent_7 (by decide) (fun h7 => ?_) (fun h7 => ?_)
    · have hz : C_agent (nA G) (nT G) v r p0 p1 = (2, 0, v, r) := by rw [C_agent, if_pos h2, if_pos h7]
      exact j_throw F hX hNT lt_eI (text := "no such thing is told of an agent") (by decide +kernel) ⟨by rw [hz]; exact (Nat.succ_ne_zero _), by rw [hz]; rfl⟩ dX3_agent_15 dX3_agent_18 dX3_agent_19 dX3_agent_21 dX3_agent_24 ⟨(Nat.le_of_ble_eq_true rfl), (Nat.le_of_ble_eq_true rfl), (Nat.le_of_ble_eq_true rfl), (Nat.le_of_ble_eq_true rfl)⟩ (Nat.le_of_ble_eq_true rfl) (Nat.le_of_ble_eq_true rfl)
    · refine j_iloadn F dX3_agent_10 rfl ?_
      refine j_iconst F (v := 4) dX3_agent_11 (by decide) ?_
      refine j_iclt F (tgt := 25) dX3_agent_12 (by decide) (fun h12 => ?_) (fun h12 => ?_)
      · refine j_aloadn F dX3_agent_25 rfl ?_
        refine j_aloadn F dX3_agent_26 rfl ?_
        refine j_iloadn F dX3_agent_27 rfl ?_
        refine j_rdV F (qX3_toldOfAgent (kl k) hst (kD k) G v r (ix p0) p1 hC ((vp_lt (inR_iff.mp h2)))) lk_X3_125 dX3_agent_28 ⟨(Nat.le_of_ble_eq_true rfl), (Nat.le_of_ble_eq_true rfl)⟩ (fun _ h => h) 0 rfl rfl rfl (Nat.le_of_ble_eq_true rfl) ⟨(Nat.le_of_ble_eq_true rfl), (Nat.le_of_ble_eq_true rfl)⟩ ?_
        have hz : C_agent (nA G) (nT G) v r p0 p1 = (0, C_toldOfAgent (nA G) (nT G) v r (ix p0) p1, v, r) := by rw [C_agent, if_pos h2, if_neg h7, if_pos h12]
        exact j_iret F hR dX3_agent_31 (Nat.le_of_ble_eq_true rfl) (Nat.le_of_ble_eq_true rfl) ⟨by rw [hz], by rw [hz], by rw [hz]⟩
      · have hz : C_agent (nA G) (nT G) v r p0 p1 = (2, 0, v, r) := by rw [C_agent, if_pos h2, if_neg h7, if_neg h12]
        exact j_throw F hX hNT lt_eI (text := "no such thing is told of an agent") (by decide +kernel) ⟨by rw [hz]; exact (Nat.succ_ne_zero _), by rw [hz]; rfl⟩ dX3_agent_15 dX3_agent_18 dX3_agent_19 dX3_agent_21 dX3_agent_24 ⟨(Nat.le_of_ble_eq_true rfl), (Nat.le_of_ble_eq_true rfl), (Nat.le_of_ble_eq_true rfl), (Nat.le_of_ble_eq_true rfl)⟩ (Nat.le_of_ble_eq_true rfl) (Nat.le_of_ble_eq_true rfl)
  · obtain ⟨h2, rfl⟩ := hE
    have hz : C_agent (nA G) (nT G) v r p0 p1 = (2, 0, v, r) := by rw [C_agent, if_neg h2]
    exact jx_out F hX hNT ⟨by rw [hz]; exact (Nat.succ_ne_zero _), by rw [hz]; rfl⟩ (Nat.le_of_ble_eq_true rfl) (Nat.le_of_ble_eq_true rfl)
def C_next (na nt : Nat) (v : S2) (r : R2) (p0 : Int32) : Nat × Int32 × S2 × R2 := if inR p0 na = true then (0, C_numberOfTicket na nt v r (C_firstByLiking na nt v r (ix p0)), v, r) else (2, 0, v, r)
def C_setPriority (na nt : Nat) (v : S2) (r : R2) (p0 : Int32) (p1 : Int32) : Nat × Int32 × S2 × R2 := if inR p0 nt = true then (if (C_isPriority p1) = true then (if (v 24 (ix p0)) = 4 then (3, 0, v, r) else (0, v 22 (ix p0), u2 v 22 (ix p0) p1, r)) else (1, 0, v, r)) else (2, 0, v, r)
def C_pause (na nt : Nat) (v : S2) (r : R2) (p0 : Int32) : Nat × Int32 × S2 × R2 := if inR p0 nt = true then (if (v 24 (ix p0)) = 0 then (0, (((C_takeFromHolder na nt v r (ix p0)).1) 23 (ix p0)) - (((C_takeFromHolder na nt v r (ix p0)).1) 26 (ix p0)), u2 (u2 ((C_takeFromHolder na nt v r (ix p0)).1) 24 (ix p0) 2) 29 (ix p0) (((C_takeFromHolder na nt v r (ix p0)).1) 0 0), (C_takeFromHolder na nt v r (ix p0)).2) else if (v 24 (ix p0)) = 1 then (0, (((C_takeFromHolder na nt v r (ix p0)).1) 23 (ix p0)) - (((C_takeFromHolder na nt v r (ix p0)).1) 26 (ix p0)), u2 (u2 ((C_takeFromHolder na nt v r (ix p0)).1) 24 (ix p0) 2) 29 (ix p0) (((C_takeFromHolder na nt v r (ix p0)).1) 0 0), (C_takeFromHolder na nt v r (ix p0)).2) else (3, 0, v, r)) else (2, 0, v, r)
set_option maxHeartbeats 4000000 in
set_option maxRecDepth 100000 in
theorem qX3_pause (l : Launch) (hst : l.stackTraces = false) (D : va_G) (G : CG) (v : S2) (r : R2) (p0 : Int32) (hG : GI D G) (hC : CI G v r) : CX l D yX3_pause cX3_pause 3 (some .int) 7 131 2 12 (CW D G v r) [.ref (G.1 0 0), .int p0] (fun u w => (C_pause (nA G) (nT G) v r p0).1 = 0 ∧ u = some (.int ((C_pause (nA G) (nT G) v r p0).2.1)) ∧ w = CW D G (C_pause (nA G) (nT G) v r p0).2.2.1 (C_pause (nA G) (nT G) v r p0).2.2.2) (fun E => (C_pause (nA G) (nT G) v r p0).1 ≠ 0 ∧ E = xE (C_pause (nA G) (nT G) v r p0).1) := by
  refine CX_of [some (.ref (G.1 0 0)), some (.int p0), none] hst (by decide +kernel) rfl (Nat.le_of_ble_eq_true rfl) (fun k F hl hD hR hX hNT => ?_)
  subst hl hD
  refine j_aloadn F dX3_pause_0 rfl ?_
  refine j_iloadn F dX3_pause_1 rfl ?_
  refine j_cxV0 F hR.1 (qX3_ticketAt (kl k) hst (kD k) G v r p0 hG) lk_X3_143 dX3_pause_2 ⟨(Nat.le_of_ble_eq_true rfl), (Nat.le_of_ble_eq_true rfl)⟩ 0 rfl rfl rfl (Nat.le_of_ble_eq_true rfl) ⟨(Nat.le_of_ble_eq_true rfl), (Nat.le_of_ble_eq_true rfl)⟩ (fun u w1 hp => ?_) (fun E hE => ?_)
  · obtain ⟨h2, rfl, rfl⟩ := hp
    refine j_st [.ref (aT G (ix p0))] rfl ?_
    refine j_astoren F [some (.ref (G.1 0 0)), some (.int p0), some (.ref (aT G (ix p0)))] dX3_pause_5 rfl rfl rfl ?_
    refine j_aloadn F dX3_pause_6 rfl ?_
    refine gf_X3_147 F (v := .int (v 24 (ix p0))) dX3_pause_7 (4 + nA G + (ix p0)) (cg_T (vp_lt (inR_iff.mp h2))) rfl ?_
    refine j_ifeq F (tgt := 31) dX3_pause_10 (by decide) (fun h10 => ?_) (fun h10 => ?_)
    · refine j_aloadn F dX3_pause_31 rfl ?_
      refine j_dmS F hR.1 (qX3_takeFromHolder (kl k) hst (kD k) G v r (ix p0) hC ((vp_lt (inR_iff.mp h2)))) lk_X3_157 dX3_pause_32 ⟨(Nat.le_of_ble_eq_true rfl), (Nat.le_of_ble_eq_true rfl)⟩ rfl (Nat.le_of_ble_eq_true rfl) ⟨(Nat.le_of_ble_eq_true rfl), (Nat.le_of_ble_eq_true rfl)⟩ rfl ?_
      refine j_aloadn F dX3_pause_35 rfl ?_
      refine j_iconst F (v := 2) dX3_pause_36 (by decide) ?_
      refine pf_X3_147 F hR.1 dX3_pause_37 rfl rfl (4 + nA G + (ix p0)) (cg_T (vp_lt (inR_iff.mp h2))) (Nat.le_of_ble_eq_true rfl) (CW (kD k) G (u2 ((C_takeFromHolder (nA G) (nT G) v r (ix p0)).1) 24 (ix p0) 2) ((C_takeFromHolder (nA G) (nT G) v r (ix p0)).2)) (csT_4 (vp_lt (inR_iff.mp h2))) ?_
      refine j_aloadn F dX3_pause_40 rfl ?_
      refine j_aloadn F dX3_pause_41 rfl ?_
      refine gf_X3_33 F (v := .int (((C_takeFromHolder (nA G) (nT G) v r (ix p0)).1) 0 0)) dX3_pause_42 0 rfl (dfi_5 (u2_ne1 (by decide))) ?_
      refine pf_X3_160 F hR.1 dX3_pause_45 rfl rfl (4 + nA G + (ix p0)) (cg_T (vp_lt (inR_iff.mp h2))) (Nat.le_of_ble_eq_true rfl) (CW (kD k) G (u2 (u2 ((C_takeFromHolder (nA G) (nT G) v r (ix p0)).1) 24 (ix p0) 2) 29 (ix p0) (((C_takeFromHolder (nA G) (nT G) v r (ix p0)).1) 0 0)) ((C_takeFromHolder (nA G) (nT G) v r (ix p0)).2)) (csT_9 (vp_lt (inR_iff.mp h2))) ?_
      refine j_aloadn F dX3_pause_48 rfl ?_
      refine gf_X3_163 F (v := .int (((C_takeFromHolder (nA G) (nT G) v r (ix p0)).1) 23 (ix p0))) dX3_pause_49 (4 + nA G + (ix p0)) (cg_T (vp_lt (inR_iff.mp h2))) (tfi_3 (Eq.trans (u2_ne1 (by decide)) (u2_ne1 (by decide)))) ?_
      refine j_aloadn F dX3_pause_52 rfl ?_
      refine gf_X3_166 F (v := .int (((C_takeFromHolder (nA G) (nT G) v r (ix p0)).1) 26 (ix p0))) dX3_pause_53 (4 + nA G + (ix p0)) (cg_T (vp_lt (inR_iff.mp h2))) (tfi_6 (Eq.trans (u2_ne1 (by decide)) (u2_ne1 (by decide)))) ?_
      refine j_isub F dX3_pause_56 ?_
      have hz : C_pause (nA G) (nT G) v r p0 = (0, (((C_takeFromHolder (nA G) (nT G) v r (ix p0)).1) 23 (ix p0)) - (((C_takeFromHolder (nA G) (nT G) v r (ix p0)).1) 26 (ix p0)), u2 (u2 ((C_takeFromHolder (nA G) (nT G) v r (ix p0)).1) 24 (ix p0) 2) 29 (ix p0) (((C_takeFromHolder (nA G) (nT G) v r (ix p0)).1) 0 0), (C_takeFromHolder (nA G) (nT G) v r (ix p0)).2) := by rw [C_pause, if_pos h2, if_pos h10]
      exact j_iret F hR dX3_pause_57 (Nat.le_of_ble_eq_true rfl) (Nat.le_of_ble_eq_true rfl) ⟨by rw [hz], by rw [hz], by rw [hz]⟩
    · refine j_aloadn F dX3_pause_13 rfl ?_
      refine gf_X3_147 F (v := .int (v 24 (ix p0))) dX3_pause_14 (4 + nA G + (ix p0)) (cg_T (vp_lt (inR_iff.mp h2))) rfl ?_
      refine j_iconst F (v := 1) dX3_pause_17 (by decide) ?_
      refine j_iceq F (tgt := 31) dX3_pause_18 (by decide) (fun h18 => ?_) (fun h18 => ?_)
      · refine j_aloadn F dX3_pause_31 rfl ?_
        refine j_dmS F hR.1 (qX3_takeFromHolder (kl k) hst (kD k) G v r (ix p0) hC ((vp_lt (inR_iff.mp h2)))) lk_X3_157 dX3_pause_32 ⟨(Nat.le_of_ble_eq_true rfl), (Nat.le_of_ble_eq_true rfl)⟩ rfl (Nat.le_of_ble_eq_true rfl) ⟨(Nat.le_of_ble_eq_true rfl), (Nat.le_of_ble_eq_true rfl)⟩ rfl ?_
        refine j_aloadn F dX3_pause_35 rfl ?_
        refine j_iconst F (v := 2) dX3_pause_36 (by decide) ?_
        refine pf_X3_147 F hR.1 dX3_pause_37 rfl rfl (4 + nA G + (ix p0)) (cg_T (vp_lt (inR_iff.mp h2))) (Nat.le_of_ble_eq_true rfl) (CW (kD k) G (u2 ((C_takeFromHolder (nA G) (nT G) v r (ix p0)).1) 24 (ix p0) 2) ((C_takeFromHolder (nA G) (nT G) v r (ix p0)).2)) (csT_4 (vp_lt (inR_iff.mp h2))) ?_
        refine j_aloadn F dX3_pause_40 rfl ?_
        refine j_aloadn F dX3_pause_41 rfl ?_
        refine gf_X3_33 F (v := .int (((C_takeFromHolder (nA G) (nT G) v r (ix p0)).1) 0 0)) dX3_pause_42 0 rfl (dfi_5 (u2_ne1 (by decide))) ?_
        refine pf_X3_160 F hR.1 dX3_pause_45 rfl rfl (4 + nA G + (ix p0)) (cg_T (vp_lt (inR_iff.mp h2))) (Nat.le_of_ble_eq_true rfl) (CW (kD k) G (u2 (u2 ((C_takeFromHolder (nA G) (nT G) v r (ix p0)).1) 24 (ix p0) 2) 29 (ix p0) (((C_takeFromHolder (nA G) (nT G) v r (ix p0)).1) 0 0)) ((C_takeFromHolder (nA G) (nT G) v r (ix p0)).2)) (csT_9 (vp_lt (inR_iff.mp h2))) ?_
        refine j_aloadn F dX3_pause_48 rfl ?_
        refine gf_X3_163 F (v := .int (((C_takeFromHolder (nA G) (nT G) v r (ix p0)).1) 23 (ix p0))) dX3_pause_49 (4 + nA G + (ix p0)) (cg_T (vp_lt (inR_iff.mp h2))) (tfi_3 (Eq.trans (u2_ne1 (by decide)) (u2_ne1 (by decide)))) ?_
        refine j_aloadn F dX3_pause_52 rfl ?_
        refine gf_X3_166 F (v := .int (((C_takeFromHolder (nA G) (nT G) v r (ix p0)).1) 26 (ix p0))) dX3_pause_53 (4 + nA G + (ix p0)) (cg_T (vp_lt (inR_iff.mp h2))) (tfi_6 (Eq.trans (u2_ne1 (by decide)) (u2_ne1 (by decide)))) ?_
        refine j_isub F dX3_pause_56 ?_
        have hz : C_pause (nA G) (nT G) v r p0 = (0, (((C_takeFromHolder (nA G) (nT G) v r (ix p0)).1) 23 (ix p0)) - (((C_takeFromHolder (nA G) (nT G) v r (ix p0)).1) 26 (ix p0)), u2 (u2 ((C_takeFromHolder (nA G) (nT G) v r (ix p0)).1) 24 (ix p0) 2) 29 (ix p0) (((C_takeFromHolder (nA G) (nT G) v r (ix p0)).1) 0 0), (C_takeFromHolder (nA G) (nT G) v r (ix p0)).2) := by rw [C_pause, if_pos h2, if_neg h10, if_pos h18]
        exact j_iret F hR dX3_pause_57 (Nat.le_of_ble_eq_true rfl) (Nat.le_of_ble_eq_true rfl) ⟨by rw [hz], by rw [hz], by rw [hz]⟩
      · have hz : C_pause (nA G) (nT G) v r p0 = (3, 0, v, r) := by rw [C_pause, if_pos h2, if_neg h10, if_neg h18]
        exact j_throw F hX hNT lt_eS (text := "the ticket is neither waiting nor worked at") (by decide +kernel) ⟨by rw [hz]; exact (Nat.succ_ne_zero _), by rw [hz]; rfl⟩ dX3_pause_21 dX3_pause_24 dX3_pause_25 dX3_pause_27 dX3_pause_30 ⟨(Nat.le_of_ble_eq_true rfl), (Nat.le_of_ble_eq_true rfl), (Nat.le_of_ble_eq_true rfl), (Nat.le_of_ble_eq_true rfl)⟩ (Nat.le_of_ble_eq_true rfl) (Nat.le_of_ble_eq_true rfl)
  · obtain ⟨h2, rfl⟩ := hE
    have hz : C_pause (nA G) (nT G) v r p0 = (2, 0, v, r) := by rw [C_pause, if_neg h2]
    exact jx_out F hX hNT ⟨by rw [hz]; exact (Nat.succ_ne_zero _), by rw [hz]; rfl⟩ (Nat.le_of_ble_eq_true rfl) (Nat.le_of_ble_eq_true rfl)
def C_resume (na nt : Nat) (v : S2) (r : R2) (p0 : Int32) : Nat × Int32 × S2 × R2 := if inR p0 nt = true then (if (v 24 (ix p0)) = 2 then (0, (v 0 0) - (v 29 (ix p0)), u2 v 24 (ix p0) 0, r) else (3, 0, v, r)) else (2, 0, v, r)
set_option maxHeartbeats 4000000 in
set_option maxRecDepth 100000 in
theorem qX3_resume (l : Launch) (hst : l.stackTraces = false) (D : va_G) (G : CG) (v : S2) (r : R2) (p0 : Int32) (hG : GI D G) : CX l D yX3_resume cX3_resume 3 (some .int) 7 131 2 12 (CW D G v r) [.ref (G.1 0 0), .int p0] (fun u w => (C_resume (nA G) (nT G) v r p0).1 = 0 ∧ u = some (.int ((C_resume (nA G) (nT G) v r p0).2.1)) ∧ w = CW D G (C_resume (nA G) (nT G) v r p0).2.2.1 (C_resume (nA G) (nT G) v r p0).2.2.2) (fun E => (C_resume (nA G) (nT G) v r p0).1 ≠ 0 ∧ E = xE (C_resume (nA G) (nT G) v r p0).1) := by
  refine CX_of [some (.ref (G.1 0 0)), some (.int p0), none] hst (by decide +kernel) rfl (Nat.le_of_ble_eq_true rfl) (fun k F hl hD hR hX hNT => ?_)
  subst hl hD
  refine j_aloadn F dX3_resume_0 rfl ?_
  refine j_iloadn F dX3_resume_1 rfl ?_
  refine j_cxV0 F hR.1 (qX3_ticketAt (kl k) hst (kD k) G v r p0 hG) lk_X3_143 dX3_resume_2 ⟨(Nat.le_of_ble_eq_true rfl), (Nat.le_of_ble_eq_true rfl)⟩ 0 rfl rfl rfl (Nat.le_of_ble_eq_true rfl) ⟨(Nat.le_of_ble_eq_true rfl), (Nat.le_of_ble_eq_true rfl)⟩ (fun u w1 hp => ?_) (fun E hE => ?_)
  · obtain ⟨h2, rfl, rfl⟩ := hp
    refine j_st [.ref (aT G (ix p0))] rfl ?_
    refine j_astoren F [some (.ref (G.1 0 0)), some (.int p0), some (.ref (aT G (ix p0)))] dX3_resume_5 rfl rfl rfl ?_
    refine j_aloadn F dX3_resume_6 rfl ?_
    refine gf_X3_147 F (v := .int (v 24 (ix p0))) dX3_resume_7 (4 + nA G + (ix p0)) (cg_T (vp_lt (inR_iff.mp h2))) rfl ?_
    refine j_iconst F (v := 2) dX3_resume_10 (by decide) ?_
    refine j_iceq F (tgt := 24) dX3_resume_11 (by decide) (fun h11 => ?_) (fun h11 => ?_)
    · refine j_aloadn F dX3_resume_24 rfl ?_
      refine j_iconst F (v := 0) dX3_resume_25 (by decide) ?_
      refine pf_X3_147 F hR.1 dX3_resume_26 rfl rfl (4 + nA G + (ix p0)) (cg_T (vp_lt (inR_iff.mp h2))) (Nat.le_of_ble_eq_true rfl) (CW (kD k) G (u2 v 24 (ix p0) 0) r) (csT_4 (vp_lt (inR_iff.mp h2))) ?_
      refine j_aloadn F dX3_resume_29 rfl ?_
      refine gf_X3_33 F (v := .int (v 0 0)) dX3_resume_30 0 rfl rfl ?_
      refine j_aloadn F dX3_resume_33 rfl ?_
      refine gf_X3_160 F (v := .int (v 29 (ix p0))) dX3_resume_34 (4 + nA G + (ix p0)) (cg_T (vp_lt (inR_iff.mp h2))) rfl ?_
      refine j_isub F dX3_resume_37 ?_
      have hz : C_resume (nA G) (nT G) v r p0 = (0, (v 0 0) - (v 29 (ix p0)), u2 v 24 (ix p0) 0, r) := by rw [C_resume, if_pos h2, if_pos h11]
      exact j_iret F hR dX3_resume_38 (Nat.le_of_ble_eq_true rfl) (Nat.le_of_ble_eq_true rfl) ⟨by rw [hz], by rw [hz], by rw [hz]⟩
    · have hz : C_resume (nA G) (nT G) v r p0 = (3, 0, v, r) := by rw [C_resume, if_pos h2, if_neg h11]
      exact j_throw F hX hNT lt_eS (text := "the ticket is not paused") (by decide +kernel) ⟨by rw [hz]; exact (Nat.succ_ne_zero _), by rw [hz]; rfl⟩ dX3_resume_14 dX3_resume_17 dX3_resume_18 dX3_resume_20 dX3_resume_23 ⟨(Nat.le_of_ble_eq_true rfl), (Nat.le_of_ble_eq_true rfl), (Nat.le_of_ble_eq_true rfl), (Nat.le_of_ble_eq_true rfl)⟩ (Nat.le_of_ble_eq_true rfl) (Nat.le_of_ble_eq_true rfl)
  · obtain ⟨h2, rfl⟩ := hE
    have hz : C_resume (nA G) (nT G) v r p0 = (2, 0, v, r) := by rw [C_resume, if_neg h2]
    exact jx_out F hX hNT ⟨by rw [hz]; exact (Nat.succ_ne_zero _), by rw [hz]; rfl⟩ (Nat.le_of_ble_eq_true rfl) (Nat.le_of_ble_eq_true rfl)
def C_merge (na nt : Nat) (v : S2) (r : R2) (p0 : Int32) (p1 : Int32) : Nat × Int32 × S2 × R2 := if inR p0 nt = true then (if inR p1 nt = true then (if p0 = p1 then (1, 0, v, r) else if (C_T_isOpen na nt v r (ix p0)) = true then (if (C_T_isOpen na nt v r (ix p1)) = true then (0, (u2 (u2 (u2 (u2 ((C_takeFromHolder na nt v r (ix p0)).1) 24 (ix p0) 4) 22 (ix p1) (if (((C_takeFromHolder na nt v r (ix p0)).1) 22 (ix p0)) < (((C_takeFromHolder na nt v r (ix p0)).1) 22 (ix p1)) then (((C_takeFromHolder na nt v r (ix p0)).1) 22 (ix p0)) else (((C_takeFromHolder na nt v r (ix p0)).1) 22 (ix p1)))) 25 (ix p1) (if (((C_takeFromHolder na nt v r (ix p0)).1) 25 (ix p1)) < (((C_takeFromHolder na nt v r (ix p0)).1) 25 (ix p0)) then (((C_takeFromHolder na nt v r (ix p0)).1) 25 (ix p0)) else (((C_takeFromHolder na nt v r (ix p0)).1) 25 (ix p1)))) 31 (ix p1) ((((C_takeFromHolder na nt v r (ix p0)).1) 31 (ix p1)) ||| (((C_takeFromHolder na nt v r (ix p0)).1) 31 (ix p0)))) 31 (ix p1), u2 (u2 (u2 (u2 ((C_takeFromHolder na nt v r (ix p0)).1) 24 (ix p0) 4) 22 (ix p1) (if (((C_takeFromHolder na nt v r (ix p0)).1) 22 (ix p0)) < (((C_takeFromHolder na nt v r (ix p0)).1) 22 (ix p1)) then (((C_takeFromHolder na nt v r (ix p0)).1) 22 (ix p0)) else (((C_takeFromHolder na nt v r (ix p0)).1) 22 (ix p1)))) 25 (ix p1) (if (((C_takeFromHolder na nt v r (ix p0)).1) 25 (ix p1)) < (((C_takeFromHolder na nt v r (ix p0)).1) 25 (ix p0)) then (((C_takeFromHolder na nt v r (ix p0)).1) 25 (ix p0)) else (((C_takeFromHolder na nt v r (ix p0)).1) 25 (ix p1)))) 31 (ix p1) ((((C_takeFromHolder na nt v r (ix p0)).1) 31 (ix p1)) ||| (((C_takeFromHolder na nt v r (ix p0)).1) 31 (ix p0))), u3 ((C_takeFromHolder na nt v r (ix p0)).2) 34 (ix p0) (some (ix p1))) else (3, 0, v, r)) else (3, 0, v, r)) else (2, 0, v, r)) else (2, 0, v, r)
set_option maxHeartbeats 4000000 in
set_option maxRecDepth 100000 in
theorem qX3_merge (l : Launch) (hst : l.stackTraces = false) (D : va_G) (G : CG) (v : S2) (r : R2) (p0 : Int32) (p1 : Int32) (hG : GI D G) (hC : CI G v r) : CX l D yX3_merge cX3_merge 5 (some .int) 7 131 3 18 (CW D G v r) [.ref (G.1 0 0), .int p0, .int p1] (fun u w => (C_merge (nA G) (nT G) v r p0 p1).1 = 0 ∧ u = some (.int ((C_merge (nA G) (nT G) v r p0 p1).2.1)) ∧ w = CW D G (C_merge (nA G) (nT G) v r p0 p1).2.2.1 (C_merge (nA G) (nT G) v r p0 p1).2.2.2) (fun E => (C_merge (nA G) (nT G) v r p0 p1).1 ≠ 0 ∧ E = xE (C_merge (nA G) (nT G) v r p0 p1).1) := by
  refine CX_of [some (.ref (G.1 0 0)), some (.int p0), some (.int p1), none, none] hst (by decide +kernel) rfl (Nat.le_of_ble_eq_true rfl) (fun k F hl hD hR hX hNT => ?_)
  subst hl hD
  refine j_aloadn F dX3_merge_0 rfl ?_
  refine j_iloadn F dX3_merge_1 rfl ?_
  refine j_cxV0 F hR.1 (qX3_ticketAt (kl k) hst (kD k) G v r p0 hG) lk_X3_143 dX3_merge_2 ⟨(Nat.le_of_ble_eq_true rfl), (Nat.le_of_ble_eq_true rfl)⟩ 0 rfl rfl rfl (Nat.le_of_ble_eq_true rfl) ⟨(Nat.le_of_ble_eq_true rfl), (Nat.le_of_ble_eq_true rfl)⟩ (fun u w1 hp => ?_) (fun E hE => ?_)
  · obtain ⟨h2, rfl, rfl⟩ := hp
    refine j_st [.ref (aT G (ix p0))] rfl ?_
    refine j_astoren F [some (.ref (G.1 0 0)), some (.int p0), some (.int p1), some (.ref (aT G (ix p0))), none] dX3_merge_5 rfl rfl rfl ?_
    refine j_aloadn F dX3_merge_6 rfl ?_
    refine j_iloadn F dX3_merge_7 rfl ?_
    refine j_cxV0 F hR.1 (qX3_ticketAt (kl k) hst (kD k) G v r p1 hG) lk_X3_143 dX3_merge_8 ⟨(Nat.le_of_ble_eq_true rfl), (Nat.le_of_ble_eq_true rfl)⟩ 0 rfl rfl rfl (Nat.le_of_ble_eq_true rfl) ⟨(Nat.le_of_ble_eq_true rfl), (Nat.le_of_ble_eq_true rfl)⟩ (fun u w1 hp => ?_) (fun E hE => ?_)
    · obtain ⟨h8, rfl, rfl⟩ := hp
      refine j_st [.ref (aT G (ix p1))] rfl ?_
      refine j_astore F [some (.ref (G.1 0 0)), some (.int p0), some (.int p1), some (.ref (aT G (ix p0))), some (.ref (aT G (ix p1)))] dX3_merge_11 rfl rfl rfl ?_
      refine j_iloadn F dX3_merge_13 rfl ?_
      refine j_iloadn F dX3_merge_14 rfl ?_
      refine j_icne F (tgt := 28) dX3_merge_15 (by decide) (fun h15 => ?_) (fun h15 => ?_)
      · refine j_aloadn F dX3_merge_28 rfl ?_
        refine j_rdV F (qX2_isOpen (kl k) hst (kD k) G v r (ix p0) ((vp_lt (inR_iff.mp h2)))) lk_X3_173 dX3_merge_29 ⟨(Nat.le_of_ble_eq_true rfl), (Nat.le_of_ble_eq_true rfl)⟩ (fun _ h => h) (4 + nA G + (ix p0)) (cg_T (vp_lt (inR_iff.mp h2))) rfl rfl (Nat.le_of_ble_eq_true rfl) ⟨(Nat.le_of_ble_eq_true rfl), (Nat.le_of_ble_eq_true rfl)⟩ ?_
        refine j_ifbeq F (tgt := 43) dX3_merge_32 (by decide) (fun h32 => ?_) (fun h32 => ?_)
        · have hz : C_merge (nA G) (nT G) v r p0 p1 = (3, 0, v, r) := by rw [C_merge, if_pos h2, if_pos h8, if_neg h15, if_neg h32]
          exact j_throw F hX hNT lt_eS (text := "one of the tickets is not open") (by decide +kernel) ⟨by rw [hz]; exact (Nat.succ_ne_zero _), by rw [hz]; rfl⟩ dX3_merge_43 dX3_merge_46 dX3_merge_47 dX3_merge_49 dX3_merge_52 ⟨(Nat.le_of_ble_eq_true rfl), (Nat.le_of_ble_eq_true rfl), (Nat.le_of_ble_eq_true rfl), (Nat.le_of_ble_eq_true rfl)⟩ (Nat.le_of_ble_eq_true rfl) (Nat.le_of_ble_eq_true rfl)
        · refine j_aload F dX3_merge_35 rfl ?_
          refine j_rdV F (qX2_isOpen (kl k) hst (kD k) G v r (ix p1) ((vp_lt (inR_iff.mp h8)))) lk_X3_173 dX3_merge_37 ⟨(Nat.le_of_ble_eq_true rfl), (Nat.le_of_ble_eq_true rfl)⟩ (fun _ h => h) (4 + nA G + (ix p1)) (cg_T (vp_lt (inR_iff.mp h8))) rfl rfl (Nat.le_of_ble_eq_true rfl) ⟨(Nat.le_of_ble_eq_true rfl), (Nat.le_of_ble_eq_true rfl)⟩ ?_
          refine j_ifbne F (tgt := 53) dX3_merge_40 (by decide) (fun h40 => ?_) (fun h40 => ?_)
          · refine j_aloadn F dX3_merge_53 rfl ?_
            refine j_dmS F hR.1 (qX3_takeFromHolder (kl k) hst (kD k) G v r (ix p0) hC ((vp_lt (inR_iff.mp h2)))) lk_X3_157 dX3_merge_54 ⟨(Nat.le_of_ble_eq_true rfl), (Nat.le_of_ble_eq_true rfl)⟩ rfl (Nat.le_of_ble_eq_true rfl) ⟨(Nat.le_of_ble_eq_true rfl), (Nat.le_of_ble_eq_true rfl)⟩ rfl ?_
            refine j_aloadn F dX3_merge_57 rfl ?_
            refine j_iconst F (v := 4) dX3_merge_58 (by decide) ?_
            refine pf_X3_147 F hR.1 dX3_merge_59 rfl rfl (4 + nA G + (ix p0)) (cg_T (vp_lt (inR_iff.mp h2))) (Nat.le_of_ble_eq_true rfl) (CW (kD k) G (u2 ((C_takeFromHolder (nA G) (nT G) v r (ix p0)).1) 24 (ix p0) 4) ((C_takeFromHolder (nA G) (nT G) v r (ix p0)).2)) (csT_4 (vp_lt (inR_iff.mp h2))) ?_
            refine j_aloadn F dX3_merge_62 rfl ?_
            refine j_aload F dX3_merge_63 rfl ?_
            refine pf_X3_179 F hR.1 dX3_merge_65 rfl rfl (4 + nA G + (ix p0)) (cg_T (vp_lt (inR_iff.mp h2))) (Nat.le_of_ble_eq_true rfl) (CW (kD k) G (u2 ((C_takeFromHolder (nA G) (nT G) v r (ix p0)).1) 24 (ix p0) 4) (u3 ((C_takeFromHolder (nA G) (nT G) v r (ix p0)).2) 34 (ix p0) (some (ix p1)))) (csT_14 (x := some (ix p1)) (vp_lt (inR_iff.mp h2))) ?_
            refine j_aload F dX3_merge_68 rfl ?_
            refine j_aload F dX3_merge_70 rfl ?_
            refine gf_X3_152 F (v := .int (((C_takeFromHolder (nA G) (nT G) v r (ix p0)).1) 22 (ix p1))) dX3_merge_72 (4 + nA G + (ix p1)) (cg_T (vp_lt (inR_iff.mp h8))) (tfi_2 (u2_ne1 (by decide))) ?_
            refine j_aloadn F dX3_merge_75 rfl ?_
            refine gf_X3_152 F (v := .int (((C_takeFromHolder (nA G) (nT G) v r (ix p0)).1) 22 (ix p0))) dX3_merge_76 (4 + nA G + (ix p0)) (cg_T (vp_lt (inR_iff.mp h2))) (tfi_2 (u2_ne1 (by decide))) ?_
            refine j_mmin F um_X3_182 us_min ui_Math ud_min dX3_merge_79 ⟨(Nat.le_of_ble_eq_true rfl), (Nat.le_of_ble_eq_true rfl), (Nat.le_of_ble_eq_true rfl), (Nat.le_of_ble_eq_true rfl)⟩ ?_
            refine pf_X3_152 F hR.1 dX3_merge_82 rfl rfl (4 + nA G + (ix p1)) (cg_T (vp_lt (inR_iff.mp h8))) (Nat.le_of_ble_eq_true rfl) (CW (kD k) G (u2 (u2 ((C_takeFromHolder (nA G) (nT G) v r (ix p0)).1) 24 (ix p0) 4) 22 (ix p1) (if (((C_takeFromHolder (nA G) (nT G) v r (ix p0)).1) 22 (ix p0)) < (((C_takeFromHolder (nA G) (nT G) v r (ix p0)).1) 22 (ix p1)) then (((C_takeFromHolder (nA G) (nT G) v r (ix p0)).1) 22 (ix p0)) else (((C_takeFromHolder (nA G) (nT G) v r (ix p0)).1) 22 (ix p1)))) (u3 ((C_takeFromHolder (nA G) (nT G) v r (ix p0)).2) 34 (ix p0) (some (ix p1)))) (csT_2 (vp_lt (inR_iff.mp h8))) ?_
            refine j_aload F dX3_merge_85 rfl ?_
            refine j_aload F dX3_merge_87 rfl ?_
            refine gf_X3_187 F (v := .int (((C_takeFromHolder (nA G) (nT G) v r (ix p0)).1) 25 (ix p1))) dX3_merge_89 (4 + nA G + (ix p1)) (cg_T (vp_lt (inR_iff.mp h8))) (tfi_5 (Eq.trans (u2_ne1 (by decide)) (u2_ne1 (by decide)))) ?_
            refine j_aloadn F dX3_merge_92 rfl ?_
            refine gf_X3_187 F (v := .int (((C_takeFromHolder (nA G) (nT G) v r (ix p0)).1) 25 (ix p0))) dX3_merge_93 (4 + nA G + (ix p0)) (cg_T (vp_lt (inR_iff.mp h2))) (tfi_5 (Eq.trans (u2_ne1 (by decide)) (u2_ne1 (by decide)))) ?_
            refine j_mmax F um_X3_190 us_max ui_Math ud_max dX3_merge_96 ⟨(Nat.le_of_ble_eq_true rfl), (Nat.le_of_ble_eq_true rfl), (Nat.le_of_ble_eq_true rfl), (Nat.le_of_ble_eq_true rfl)⟩ ?_
            refine pf_X3_187 F hR.1 dX3_merge_99 rfl rfl (4 + nA G + (ix p1)) (cg_T (vp_lt (inR_iff.mp h8))) (Nat.le_of_ble_eq_true rfl) (CW (kD k) G (u2 (u2 (u2 ((C_takeFromHolder (nA G) (nT G) v r (ix p0)).1) 24 (ix p0) 4) 22 (ix p1) (if (((C_takeFromHolder (nA G) (nT G) v r (ix p0)).1) 22 (ix p0)) < (((C_takeFromHolder (nA G) (nT G) v r (ix p0)).1) 22 (ix p1)) then (((C_takeFromHolder (nA G) (nT G) v r (ix p0)).1) 22 (ix p0)) else (((C_takeFromHolder (nA G) (nT G) v r (ix p0)).1) 22 (ix p1)))) 25 (ix p1) (if (((C_takeFromHolder (nA G) (nT G) v r (ix p0)).1) 25 (ix p1)) < (((C_takeFromHolder (nA G) (nT G) v r (ix p0)).1) 25 (ix p0)) then (((C_takeFromHolder (nA G) (nT G) v r (ix p0)).1) 25 (ix p0)) else (((C_takeFromHolder (nA G) (nT G) v r (ix p0)).1) 25 (ix p1)))) (u3 ((C_takeFromHolder (nA G) (nT G) v r (ix p0)).2) 34 (ix p0) (some (ix p1)))) (csT_5 (vp_lt (inR_iff.mp h8))) ?_
            refine j_aload F dX3_merge_102 rfl ?_
            refine j_dup F dX3_merge_104 rfl ?_
            refine gf_X3_193 F (v := .int (((C_takeFromHolder (nA G) (nT G) v r (ix p0)).1) 31 (ix p1))) dX3_merge_105 (4 + nA G + (ix p1)) (cg_T (vp_lt (inR_iff.mp h8))) (tfi_11 (Eq.trans (u2_ne1 (by decide)) (Eq.trans (u2_ne1 (by decide)) (u2_ne1 (by decide))))) ?_
            refine j_aloadn F dX3_merge_108 rfl ?_
            refine gf_X3_193 F (v := .int (((C_takeFromHolder (nA G) (nT G) v r (ix p0)).1) 31 (ix p0))) dX3_merge_109 (4 + nA G + (ix p0)) (cg_T (vp_lt (inR_iff.mp h2))) (tfi_11 (Eq.trans (u2_ne1 (by decide)) (Eq.trans (u2_ne1 (by decide)) (u2_ne1 (by decide))))) ?_
            refine j_ior F dX3_merge_112 ?_
            refine pf_X3_193 F hR.1 dX3_merge_113 rfl rfl (4 + nA G + (ix p1)) (cg_T (vp_lt (inR_iff.mp h8))) (Nat.le_of_ble_eq_true rfl) (CW (kD k) G (u2 (u2 (u2 (u2 ((C_takeFromHolder (nA G) (nT G) v r (ix p0)).1) 24 (ix p0) 4) 22 (ix p1) (if (((C_takeFromHolder (nA G) (nT G) v r (ix p0)).1) 22 (ix p0)) < (((C_takeFromHolder (nA G) (nT G) v r (ix p0)).1) 22 (ix p1)) then (((C_takeFromHolder (nA G) (nT G) v r (ix p0)).1) 22 (ix p0)) else (((C_takeFromHolder (nA G) (nT G) v r (ix p0)).1) 22 (ix p1)))) 25 (ix p1) (if (((C_takeFromHolder (nA G) (nT G) v r (ix p0)).1) 25 (ix p1)) < (((C_takeFromHolder (nA G) (nT G) v r (ix p0)).1) 25 (ix p0)) then (((C_takeFromHolder (nA G) (nT G) v r (ix p0)).1) 25 (ix p0)) else (((C_takeFromHolder (nA G) (nT G) v r (ix p0)).1) 25 (ix p1)))) 31 (ix p1) ((((C_takeFromHolder (nA G) (nT G) v r (ix p0)).1) 31 (ix p1)) ||| (((C_takeFromHolder (nA G) (nT G) v r (ix p0)).1) 31 (ix p0)))) (u3 ((C_takeFromHolder (nA G) (nT G) v r (ix p0)).2) 34 (ix p0) (some (ix p1)))) (csT_11 (vp_lt (inR_iff.mp h8))) ?_
            refine j_aload F dX3_merge_116 rfl ?_
            refine gf_X3_193 F (v := .int ((u2 (u2 (u2 (u2 ((C_takeFromHolder (nA G) (nT G) v r (ix p0)).1) 24 (ix p0) 4) 22 (ix p1) (if (((C_takeFromHolder (nA G) (nT G) v r (ix p0)).1) 22 (ix p0)) < (((C_takeFromHolder (nA G) (nT G) v r (ix p0)).1) 22 (ix p1)) then (((C_takeFromHolder (nA G) (nT G) v r (ix p0)).1) 22 (ix p0)) else (((C_takeFromHolder (nA G) (nT G) v r (ix p0)).1) 22 (ix p1)))) 25 (ix p1) (if (((C_takeFromHolder (nA G) (nT G) v r (ix p0)).1) 25 (ix p1)) < (((C_takeFromHolder (nA G) (nT G) v r (ix p0)).1) 25 (ix p0)) then (((C_takeFromHolder (nA G) (nT G) v r (ix p0)).1) 25 (ix p0)) else (((C_takeFromHolder (nA G) (nT G) v r (ix p0)).1) 25 (ix p1)))) 31 (ix p1) ((((C_takeFromHolder (nA G) (nT G) v r (ix p0)).1) 31 (ix p1)) ||| (((C_takeFromHolder (nA G) (nT G) v r (ix p0)).1) 31 (ix p0)))) 31 (ix p1))) dX3_merge_118 (4 + nA G + (ix p1)) (cg_T (vp_lt (inR_iff.mp h8))) rfl ?_
            have hz : C_merge (nA G) (nT G) v r p0 p1 = (0, (u2 (u2 (u2 (u2 ((C_takeFromHolder (nA G) (nT G) v r (ix p0)).1) 24 (ix p0) 4) 22 (ix p1) (if (((C_takeFromHolder (nA G) (nT G) v r (ix p0)).1) 22 (ix p0)) < (((C_takeFromHolder (nA G) (nT G) v r (ix p0)).1) 22 (ix p1)) then (((C_takeFromHolder (nA G) (nT G) v r (ix p0)).1) 22 (ix p0)) else (((C_takeFromHolder (nA G) (nT G) v r (ix p0)).1) 22 (ix p1)))) 25 (ix p1) (if (((C_takeFromHolder (nA G) (nT G) v r (ix p0)).1) 25 (ix p1)) < (((C_takeFromHolder (nA G) (nT G) v r (ix p0)).1) 25 (ix p0)) then (((C_takeFromHolder (nA G) (nT G) v r (ix p0)).1) 25 (ix p0)) else (((C_takeFromHolder (nA G) (nT G) v r (ix p0)).1) 25 (ix p1)))) 31 (ix p1) ((((C_takeFromHolder (nA G) (nT G) v r (ix p0)).1) 31 (ix p1)) ||| (((C_takeFromHolder (nA G) (nT G) v r (ix p0)).1) 31 (ix p0)))) 31 (ix p1), u2 (u2 (u2 (u2 ((C_takeFromHolder (nA G) (nT G) v r (ix p0)).1) 24 (ix p0) 4) 22 (ix p1) (if (((C_takeFromHolder (nA G) (nT G) v r (ix p0)).1) 22 (ix p0)) < (((C_takeFromHolder (nA G) (nT G) v r (ix p0)).1) 22 (ix p1)) then (((C_takeFromHolder (nA G) (nT G) v r (ix p0)).1) 22 (ix p0)) else (((C_takeFromHolder (nA G) (nT G) v r (ix p0)).1) 22 (ix p1)))) 25 (ix p1) (if (((C_takeFromHolder (nA G) (nT G) v r (ix p0)).1) 25 (ix p1)) < (((C_takeFromHolder (nA G) (nT G) v r (ix p0)).1) 25 (ix p0)) then (((C_takeFromHolder (nA G) (nT G) v r (ix p0)).1) 25 (ix p0)) else (((C_takeFromHolder (nA G) (nT G) v r (ix p0)).1) 25 (ix p1)))) 31 (ix p1) ((((C_takeFromHolder (nA G) (nT G) v r (ix p0)).1) 31 (ix p1)) ||| (((C_takeFromHolder (nA G) (nT G) v r (ix p0)).1) 31 (ix p0))), u3 ((C_takeFromHolder (nA G) (nT G) v r (ix p0)).2) 34 (ix p0) (some (ix p1))) := by rw [C_merge, if_pos h2, if_pos h8, if_neg h15, if_pos h32, if_pos h40]
            exact j_iret F hR dX3_merge_121 (Nat.le_of_ble_eq_true rfl) (Nat.le_of_ble_eq_true rfl) ⟨by rw [hz], by rw [hz], by rw [hz]⟩
          · have hz : C_merge (nA G) (nT G) v r p0 p1 = (3, 0, v, r) := by rw [C_merge, if_pos h2, if_pos h8, if_neg h15, if_pos h32, if_neg h40]
            exact j_throw F hX hNT lt_eS (text := "one of the tickets is not open") (by decide +kernel) ⟨by rw [hz]; exact (Nat.succ_ne_zero _), by rw [hz]; rfl⟩ dX3_merge_43 dX3_merge_46 dX3_merge_47 dX3_merge_49 dX3_merge_52 ⟨(Nat.le_of_ble_eq_true rfl), (Nat.le_of_ble_eq_true rfl), (Nat.le_of_ble_eq_true rfl), (Nat.le_of_ble_eq_true rfl)⟩ (Nat.le_of_ble_eq_true rfl) (Nat.le_of_ble_eq_true rfl)
      · have hz : C_merge (nA G) (nT G) v r p0 p1 = (1, 0, v, r) := by rw [C_merge, if_pos h2, if_pos h8, if_pos h15]
        exact j_throw F hX hNT lt_eA (text := "a ticket is not merged into itself") (by decide +kernel) ⟨by rw [hz]; exact (Nat.succ_ne_zero _), by rw [hz]; rfl⟩ dX3_merge_18 dX3_merge_21 dX3_merge_22 dX3_merge_24 dX3_merge_27 ⟨(Nat.le_of_ble_eq_true rfl), (Nat.le_of_ble_eq_true rfl), (Nat.le_of_ble_eq_true rfl), (Nat.le_of_ble_eq_true rfl)⟩ (Nat.le_of_ble_eq_true rfl) (Nat.le_of_ble_eq_true rfl)
    · obtain ⟨h8, rfl⟩ := hE
      have hz : C_merge (nA G) (nT G) v r p0 p1 = (2, 0, v, r) := by rw [C_merge, if_pos h2, if_neg h8]
      exact jx_out F hX hNT ⟨by rw [hz]; exact (Nat.succ_ne_zero _), by rw [hz]; rfl⟩ (Nat.le_of_ble_eq_true rfl) (Nat.le_of_ble_eq_true rfl)
  · obtain ⟨h2, rfl⟩ := hE
    have hz : C_merge (nA G) (nT G) v r p0 p1 = (2, 0, v, r) := by rw [C_merge, if_neg h2]
    exact jx_out F hX hNT ⟨by rw [hz]; exact (Nat.succ_ne_zero _), by rw [hz]; rfl⟩ (Nat.le_of_ble_eq_true rfl) (Nat.le_of_ble_eq_true rfl)
def C_reopen (na nt : Nat) (v : S2) (r : R2) (p0 : Int32) (p1 : Int32) : Nat × Int32 × S2 × R2 := if inR p0 nt = true then (if p1 < 1 then (1, 0, v, r) else if p1 ≤ 300 then (if (v 24 (ix p0)) = 3 then (if ((v 0 0) - (v 30 (ix p0))) < 7200 then (0, (u2 (u2 v 24 (ix p0) 0) 23 (ix p0) ((v 23 (ix p0)) + p1)) 23 (ix p0), u2 (u2 (u2 v 24 (ix p0) 0) 23 (ix p0) ((v 23 (ix p0)) + p1)) 28 (ix p0) ((v 28 (ix p0)) + 1), r) else (3, 0, v, r)) else (3, 0, v, r)) else (1, 0, v, r)) else (2, 0, v, r)
set_option maxHeartbeats 4000000 in
set_option maxRecDepth 100000 in
theorem qX3_reopen (l : Launch) (hst : l.stackTraces = false) (D : va_G) (G : CG) (v : S2) (r : R2) (p0 : Int32) (p1 : Int32) (hG : GI D G) : CX l D yX3_reopen cX3_reopen 4 (some .int) 7 131 2 12 (CW D G v r) [.ref (G.1 0 0), .int p0, .int p1] (fun u w => (C_reopen (nA G) (nT G) v r p0 p1).1 = 0 ∧ u = some (.int ((C_reopen (nA G) (nT G) v r p0 p1).2.1)) ∧ w = CW D G (C_reopen (nA G) (nT G) v r p0 p1).2.2.1 (C_reopen (nA G) (nT G) v r p0 p1).2.2.2) (fun E => (C_reopen (nA G) (nT G) v r p0 p1).1 ≠ 0 ∧ E = xE (C_reopen (nA G) (nT G) v r p0 p1).1) := by
  refine CX_of [some (.ref (G.1 0 0)), some (.int p0), some (.int p1), none] hst (by decide +kernel) rfl (Nat.le_of_ble_eq_true rfl) (fun k F hl hD hR hX hNT => ?_)
  subst hl hD
  refine j_aloadn F dX3_reopen_0 rfl ?_
  refine j_iloadn F dX3_reopen_1 rfl ?_
  refine j_cxV0 F hR.1 (qX3_ticketAt (kl k) hst (kD k) G v r p0 hG) lk_X3_143 dX3_reopen_2 ⟨(Nat.le_of_ble_eq_true rfl), (Nat.le_of_ble_eq_true rfl)⟩ 0 rfl rfl rfl (Nat.le_of_ble_eq_true rfl) ⟨(Nat.le_of_ble_eq_true rfl), (Nat.le_of_ble_eq_true rfl)⟩ (fun u w1 hp => ?_) (fun E hE => ?_)
  · obtain ⟨h2, rfl, rfl⟩ := hp
    refine j_st [.ref (aT G (ix p0))] rfl ?_
    refine j_astoren F [some (.ref (G.1 0 0)), some (.int p0), some (.int p1), some (.ref (aT G (ix p0)))] dX3_reopen_5 rfl rfl rfl ?_
    refine j_iloadn F dX3_reopen_6 rfl ?_
    refine j_iconst F (v := 1) dX3_reopen_7 (by decide) ?_
    refine j_iclt F (tgt := 18) dX3_reopen_8 (by decide) (fun h8 => ?_) (fun h8 => ?_)
    · have hz : C_reopen (nA G) (nT G) v r p0 p1 = (1, 0, v, r) := by rw [C_reopen, if_pos h2, if_pos h8]
      exact j_throw F hX hNT lt_eA (text := "no such greater effort") (by decide +kernel) ⟨by rw [hz]; exact (Nat.succ_ne_zero _), by rw [hz]; rfl⟩ dX3_reopen_18 dX3_reopen_21 dX3_reopen_22 dX3_reopen_24 dX3_reopen_27 ⟨(Nat.le_of_ble_eq_true rfl), (Nat.le_of_ble_eq_true rfl), (Nat.le_of_ble_eq_true rfl), (Nat.le_of_ble_eq_true rfl)⟩ (Nat.le_of_ble_eq_true rfl) (Nat.le_of_ble_eq_true rfl)
    · refine j_iloadn F dX3_reopen_11 rfl ?_
      refine j_sipush F (v := 300) dX3_reopen_12 (by decide) ?_
      refine j_icle F (tgt := 28) dX3_reopen_15 (by decide) (fun h15 => ?_) (fun h15 => ?_)
      · refine j_aloadn F dX3_reopen_28 rfl ?_
        refine gf_X3_147 F (v := .int (v 24 (ix p0))) dX3_reopen_29 (4 + nA G + (ix p0)) (cg_T (vp_lt (inR_iff.mp h2))) rfl ?_
        refine j_iconst F (v := 3) dX3_reopen_32 (by decide) ?_
        refine j_icne F (tgt := 51) dX3_reopen_33 (by decide) (fun h33 => ?_) (fun h33 => ?_)
        · have hz : C_reopen (nA G) (nT G) v r p0 p1 = (3, 0, v, r) := by rw [C_reopen, if_pos h2, if_neg h8, if_pos h15, if_neg h33]
          exact j_throw F hX hNT lt_eS (text := "the ticket is not solved, or was so long ago") (by decide +kernel) ⟨by rw [hz]; exact (Nat.succ_ne_zero _), by rw [hz]; rfl⟩ dX3_reopen_51 dX3_reopen_54 dX3_reopen_55 dX3_reopen_57 dX3_reopen_60 ⟨(Nat.le_of_ble_eq_true rfl), (Nat.le_of_ble_eq_true rfl), (Nat.le_of_ble_eq_true rfl), (Nat.le_of_ble_eq_true rfl)⟩ (Nat.le_of_ble_eq_true rfl) (Nat.le_of_ble_eq_true rfl)
        · refine j_aloadn F dX3_reopen_36 rfl ?_
          refine gf_X3_33 F (v := .int (v 0 0)) dX3_reopen_37 0 rfl rfl ?_
          refine j_aloadn F dX3_reopen_40 rfl ?_
          refine gf_X3_198 F (v := .int (v 30 (ix p0))) dX3_reopen_41 (4 + nA G + (ix p0)) (cg_T (vp_lt (inR_iff.mp h2))) rfl ?_
          refine j_isub F dX3_reopen_44 ?_
          refine j_sipush F (v := 7200) dX3_reopen_45 (by decide) ?_
          refine j_iclt F (tgt := 61) dX3_reopen_48 (by decide) (fun h48 => ?_) (fun h48 => ?_)
          · refine j_aloadn F dX3_reopen_61 rfl ?_
            refine j_iconst F (v := 0) dX3_reopen_62 (by decide) ?_
            refine pf_X3_147 F hR.1 dX3_reopen_63 rfl rfl (4 + nA G + (ix p0)) (cg_T (vp_lt (inR_iff.mp h2))) (Nat.le_of_ble_eq_true rfl) (CW (kD k) G (u2 v 24 (ix p0) 0) r) (csT_4 (vp_lt (inR_iff.mp h2))) ?_
            refine j_aloadn F dX3_reopen_66 rfl ?_
            refine j_dup F dX3_reopen_67 rfl ?_
            refine gf_X3_163 F (v := .int (v 23 (ix p0))) dX3_reopen_68 (4 + nA G + (ix p0)) (cg_T (vp_lt (inR_iff.mp h2))) rfl ?_
            refine j_iloadn F dX3_reopen_71 rfl ?_
            refine j_iadd F dX3_reopen_72 ?_
            refine pf_X3_163 F hR.1 dX3_reopen_73 rfl rfl (4 + nA G + (ix p0)) (cg_T (vp_lt (inR_iff.mp h2))) (Nat.le_of_ble_eq_true rfl) (CW (kD k) G (u2 (u2 v 24 (ix p0) 0) 23 (ix p0) ((v 23 (ix p0)) + p1)) r) (csT_3 (vp_lt (inR_iff.mp h2))) ?_
            refine j_aloadn F dX3_reopen_76 rfl ?_
            refine j_dup F dX3_reopen_77 rfl ?_
            refine gf_X3_203 F (v := .int (v 28 (ix p0))) dX3_reopen_78 (4 + nA G + (ix p0)) (cg_T (vp_lt (inR_iff.mp h2))) rfl ?_
            refine j_iconst F (v := 1) dX3_reopen_81 (by decide) ?_
            refine j_iadd F dX3_reopen_82 ?_
            refine pf_X3_203 F hR.1 dX3_reopen_83 rfl rfl (4 + nA G + (ix p0)) (cg_T (vp_lt (inR_iff.mp h2))) (Nat.le_of_ble_eq_true rfl) (CW (kD k) G (u2 (u2 (u2 v 24 (ix p0) 0) 23 (ix p0) ((v 23 (ix p0)) + p1)) 28 (ix p0) ((v 28 (ix p0)) + 1)) r) (csT_8 (vp_lt (inR_iff.mp h2))) ?_
            refine j_aloadn F dX3_reopen_86 rfl ?_
            refine gf_X3_163 F (v := .int ((u2 (u2 v 24 (ix p0) 0) 23 (ix p0) ((v 23 (ix p0)) + p1)) 23 (ix p0))) dX3_reopen_87 (4 + nA G + (ix p0)) (cg_T (vp_lt (inR_iff.mp h2))) (tfi_3 (u2_ne1 (by decide))) ?_
            have hz : C_reopen (nA G) (nT G) v r p0 p1 = (0, (u2 (u2 v 24 (ix p0) 0) 23 (ix p0) ((v 23 (ix p0)) + p1)) 23 (ix p0), u2 (u2 (u2 v 24 (ix p0) 0) 23 (ix p0) ((v 23 (ix p0)) + p1)) 28 (ix p0) ((v 28 (ix p0)) + 1), r) := by rw [C_reopen, if_pos h2, if_neg h8, if_pos h15, if_pos h33, if_pos h48]
            exact j_iret F hR dX3_reopen_90 (Nat.le_of_ble_eq_true rfl) (Nat.le_of_ble_eq_true rfl) ⟨by rw [hz], by rw [hz], by rw [hz]⟩
          · have hz : C_reopen (nA G) (nT G) v r p0 p1 = (3, 0, v, r) := by rw [C_reopen, if_pos h2, if_neg h8, if_pos h15, if_pos h33, if_neg h48]
            exact j_throw F hX hNT lt_eS (text := "the ticket is not solved, or was so long ago") (by decide +kernel) ⟨by rw [hz]; exact (Nat.succ_ne_zero _), by rw [hz]; rfl⟩ dX3_reopen_51 dX3_reopen_54 dX3_reopen_55 dX3_reopen_57 dX3_reopen_60 ⟨(Nat.le_of_ble_eq_true rfl), (Nat.le_of_ble_eq_true rfl), (Nat.le_of_ble_eq_true rfl), (Nat.le_of_ble_eq_true rfl)⟩ (Nat.le_of_ble_eq_true rfl) (Nat.le_of_ble_eq_true rfl)
      · have hz : C_reopen (nA G) (nT G) v r p0 p1 = (1, 0, v, r) := by rw [C_reopen, if_pos h2, if_neg h8, if_neg h15]
        exact j_throw F hX hNT lt_eA (text := "no such greater effort") (by decide +kernel) ⟨by rw [hz]; exact (Nat.succ_ne_zero _), by rw [hz]; rfl⟩ dX3_reopen_18 dX3_reopen_21 dX3_reopen_22 dX3_reopen_24 dX3_reopen_27 ⟨(Nat.le_of_ble_eq_true rfl), (Nat.le_of_ble_eq_true rfl), (Nat.le_of_ble_eq_true rfl), (Nat.le_of_ble_eq_true rfl)⟩ (Nat.le_of_ble_eq_true rfl) (Nat.le_of_ble_eq_true rfl)
  · obtain ⟨h2, rfl⟩ := hE
    have hz : C_reopen (nA G) (nT G) v r p0 p1 = (2, 0, v, r) := by rw [C_reopen, if_neg h2]
    exact jx_out F hX hNT ⟨by rw [hz]; exact (Nat.succ_ne_zero _), by rw [hz]; rfl⟩ (Nat.le_of_ble_eq_true rfl) (Nat.le_of_ble_eq_true rfl)
def C_ticketCount (na nt : Nat) (v : S2) (r : R2) : Int32 := nI nt
def C_ticket (na nt : Nat) (v : S2) (r : R2) (p0 : Int32) (p1 : Int32) : Nat × Int32 × S2 × R2 := if inR p0 nt = true then (if p1 < 0 then (2, 0, v, r) else if p1 < 8 then (0, C_toldOfTicket na nt v r (ix p0) p1, v, r) else (2, 0, v, r)) else (2, 0, v, r)
set_option maxHeartbeats 4000000 in
set_option maxRecDepth 100000 in
theorem qX3_ticket (l : Launch) (hst : l.stackTraces = false) (D : va_G) (G : CG) (v : S2) (r : R2) (p0 : Int32) (p1 : Int32) (hG : GI D G) (hC : CI G v r) : CX l D yX3_ticket cX3_ticket 4 (some .int) 7 131 2 12 (CW D G v r) [.ref (G.1 0 0), .int p0, .int p1] (fun u w => (C_ticket (nA G) (nT G) v r p0 p1).1 = 0 ∧ u = some (.int ((C_ticket (nA G) (nT G) v r p0 p1).2.1)) ∧ w = CW D G (C_ticket (nA G) (nT G) v r p0 p1).2.2.1 (C_ticket (nA G) (nT G) v r p0 p1).2.2.2) (fun E => (C_ticket (nA G) (nT G) v r p0 p1).1 ≠ 0 ∧ E = xE (C_ticket (nA G) (nT G) v r p0 p1).1) := by
  refine CX_of [some (.ref (G.1 0 0)), some (.int p0), some (.int p1), none] hst (by decide +kernel) rfl (Nat.le_of_ble_eq_true rfl) (fun k F hl hD hR hX hNT => ?_)
  subst hl hD
  refine j_aloadn F dX3_ticket_0 rfl ?_
  refine j_iloadn F dX3_ticket_1 rfl ?_
  refine j_cxV0 F hR.1 (qX3_ticketAt (kl k) hst (kD k) G v r p0 hG) lk_X3_143 dX3_ticket_2 ⟨(Nat.le_of_ble_eq_true rfl), (Nat.le_of_ble_eq_true rfl)⟩ 0 rfl rfl rfl (Nat.le_of_ble_eq_true rfl) ⟨(Nat.le_of_ble_eq_true rfl), (Nat.le_of_ble_eq_true rfl)⟩ (fun u w1 hp => ?_) (fun E hE => ?_)
  · obtain ⟨h2, rfl, rfl⟩ := hp
    refine j_st [.ref (aT G (ix p0))] rfl ?_
    refine j_astoren F [some (.ref (G.1 0 0)), some (.int p0), some (.int p1), some (.ref (aT G (ix p0)))] dX3_ticket_5 rfl rfl rfl ?_
    refine j_iloadn F dX3_ticket_6 rfl ?_
    refine j_iflt F (tgt := 16) dX3_ticket_7 (by decide) (fun h7 => ?_) (fun h7 => ?_)
    · have hz : C_ticket (nA G) (nT G) v r p0 p1 = (2, 0, v, r) := by rw [C_ticket, if_pos h2, if_pos h7]
      exact j_throw F hX hNT lt_eI (text := "no such thing is told of a ticket") (by decide +kernel) ⟨by rw [hz]; exact (Nat.succ_ne_zero _), by rw [hz]; rfl⟩ dX3_ticket_16 dX3_ticket_19 dX3_ticket_20 dX3_ticket_22 dX3_ticket_25 ⟨(Nat.le_of_ble_eq_true rfl), (Nat.le_of_ble_eq_true rfl), (Nat.le_of_ble_eq_true rfl), (Nat.le_of_ble_eq_true rfl)⟩ (Nat.le_of_ble_eq_true rfl) (Nat.le_of_ble_eq_true rfl)
    · refine j_iloadn F dX3_ticket_10 rfl ?_
      refine j_bipush F (v := 8) dX3_ticket_11 (by decide) ?_
      refine j_iclt F (tgt := 26) dX3_ticket_13 (by decide) (fun h13 => ?_) (fun h13 => ?_)
      · refine j_aloadn F dX3_ticket_26 rfl ?_
        refine j_iloadn F dX3_ticket_27 rfl ?_
        refine j_rdS F (qX3_toldOfTicket (kl k) hst (kD k) G v r (ix p0) p1 hC ((vp_lt (inR_iff.mp h2)))) lk_X3_208 dX3_ticket_28 ⟨(Nat.le_of_ble_eq_true rfl), (Nat.le_of_ble_eq_true rfl)⟩ (fun _ h => h) rfl (Nat.le_of_ble_eq_true rfl) ⟨(Nat.le_of_ble_eq_true rfl), (Nat.le_of_ble_eq_true rfl)⟩ ?_
        have hz : C_ticket (nA G) (nT G) v r p0 p1 = (0, C_toldOfTicket (nA G) (nT G) v r (ix p0) p1, v, r) := by rw [C_ticket, if_pos h2, if_neg h7, if_pos h13]
        exact j_iret F hR dX3_ticket_31 (Nat.le_of_ble_eq_true rfl) (Nat.le_of_ble_eq_true rfl) ⟨by rw [hz], by rw [hz], by rw [hz]⟩
      · have hz : C_ticket (nA G) (nT G) v r p0 p1 = (2, 0, v, r) := by rw [C_ticket, if_pos h2, if_neg h7, if_neg h13]
        exact j_throw F hX hNT lt_eI (text := "no such thing is told of a ticket") (by decide +kernel) ⟨by rw [hz]; exact (Nat.succ_ne_zero _), by rw [hz]; rfl⟩ dX3_ticket_16 dX3_ticket_19 dX3_ticket_20 dX3_ticket_22 dX3_ticket_25 ⟨(Nat.le_of_ble_eq_true rfl), (Nat.le_of_ble_eq_true rfl), (Nat.le_of_ble_eq_true rfl), (Nat.le_of_ble_eq_true rfl)⟩ (Nat.le_of_ble_eq_true rfl) (Nat.le_of_ble_eq_true rfl)
  · obtain ⟨h2, rfl⟩ := hE
    have hz : C_ticket (nA G) (nT G) v r p0 p1 = (2, 0, v, r) := by rw [C_ticket, if_neg h2]
    exact jx_out F hX hNT ⟨by rw [hz]; exact (Nat.succ_ne_zero _), by rw [hz]; rfl⟩ (Nat.le_of_ble_eq_true rfl) (Nat.le_of_ble_eq_true rfl)
def C_main (na nt : Nat) (v : S2) (r : R2) (p0 : Int32) : Nat × Int32 × S2 × R2 := if inR p0 nt = true then (0, v 20 (C_mainOf na nt v r (ix p0)), v, r) else (2, 0, v, r)
def C_customers (na nt : Nat) (v : S2) (r : R2) (p0 : Int32) : Nat × Int32 × S2 × R2 := if inR p0 nt = true then (0, v 31 (ix p0), v, r) else (2, 0, v, r)
def C_due (na nt : Nat) (v : S2) (r : R2) (p0 : Int32) : Nat × Int32 × S2 × R2 := if inR p0 nt = true then (if (v 24 (ix p0)) = 4 then (0, (-1), v, r) else if 0 ≤ (C_slackOf na nt v r (ix p0)) then (0, C_H_minuteOfService na nt v r (v 0 0) ((C_slackOf na nt v r (ix p0)) + 1), v, r) else (0, (-1), v, r)) else (2, 0, v, r)