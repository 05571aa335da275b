theorem ud_X3_dayOfWeek : Cond.code yX3_dayOfWeek cX3_dayOfWeek 1 (some .int) ∈ Uw := Uw_of (i := 193) (by decide +kernel) (by decide +kernel)
theorem us_X3_dayOfWeek : Cond.static yX3_dayOfWeek ∈ Uw := Uw_of (i := 192) (by decide +kernel) (by decide +kernel)
theorem dd_X3_dayOfWeek : yX3_dayOfWeek.cls ≠ "java/lang/invoke/MethodHandle" ∧ yX3_dayOfWeek.cls ≠ "java/lang/invoke/VarHandle" ∧ (parseMethodDescriptor yX3_dayOfWeek.desc).map (fun d => d.parameters.length) = some 1 := by decide +kernel
/-! THE CLASS'S METHODS, by program: C_.. what each does, qX.. that its code does it -/
def gd (o : Option Nat) : Nat := o.getD 0
theorem gd_some {o : Option Nat} (h : ¬ o = none) : o = some (gd o) := by cases o with
  | none => exact absurd rfl h
  | some a => rfl
theorem rf_some {o : Option Nat} {f : Nat → Nat} {a : Nat} (h : o.map f = some a) : a = f (gd o) ∧ ¬ o = none := by
  obtain ⟨b, rfl, e⟩ := map_some h
  exact ⟨e, by simp⟩
def C_isPriority (p0 : Int32) : Bool := if p0 < 0 then false else if 4 ≤ p0 then false else true
set_option maxHeartbeats 4000000 in
set_option maxRecDepth 100000 in
theorem qX3_isPriority (l : Launch) (hst : l.stackTraces = false) (D : va_G) (p0 : Int32) : CR l D yX3_isPriority cX3_isPriority 1 (some .boolean) 0 0 [] [.int p0] (.int (b1 (C_isPriority p0))) := by
  refine CR_of [some (.int p0)] hst (by decide +kernel) rfl (Nat.le_of_ble_eq_true rfl) (fun k F hl hD hR => ?_)
  subst hl hD
  refine j_iloadn F dX3_isPriority_0 rfl ?_
  refine j_iflt F (tgt := 13) dX3_isPriority_1 (by decide) (fun h1 => ?_) (fun h1 => ?_)
  · refine j_iconst F (v := 0) dX3_isPriority_13 (by decide) ?_
    exact j_zretR F (b := false) hR dX3_isPriority_14 rfl (congrArg (fun z => Value.int (b1 z)) (show C_isPriority p0 = false from by rw [C_isPriority, if_pos h1]))
  · refine j_iloadn F dX3_isPriority_4 rfl ?_
    refine j_iconst F (v := 4) dX3_isPriority_5 (by decide) ?_
    refine j_icge F (tgt := 13) dX3_isPriority_6 (by decide) (fun h6 => ?_) (fun h6 => ?_)
    · refine j_iconst F (v := 0) dX3_isPriority_13 (by decide) ?_
      exact j_zretR F (b := false) hR dX3_isPriority_14 rfl (congrArg (fun z => Value.int (b1 z)) (show C_isPriority p0 = false from by rw [C_isPriority, if_neg h1, if_pos h6]))
    · refine j_iconst F (v := 1) dX3_isPriority_9 (by decide) ?_
      refine j_goto F (tgt := 14) dX3_isPriority_10 (by decide) ?_
      exact j_zretR F (b := true) hR dX3_isPriority_14 rfl (congrArg (fun z => Value.int (b1 z)) (show C_isPriority p0 = true from by rw [C_isPriority, if_neg h1, if_neg h6]))
def C_isSetOfSkills (p0 : Int32) : Bool := if p0 < 0 then false else if 255 < p0 then false else true
set_option maxHeartbeats 4000000 in
set_option maxRecDepth 100000 in
theorem qX3_isSetOfSkills (l : Launch) (hst : l.stackTraces = false) (D : va_G) (p0 : Int32) : CR l D yX3_isSetOfSkills cX3_isSetOfSkills 1 (some .boolean) 0 0 [] [.int p0] (.int (b1 (C_isSetOfSkills p0))) := by
  refine CR_of [some (.int p0)] hst (by decide +kernel) rfl (Nat.le_of_ble_eq_true rfl) (fun k F hl hD hR => ?_)
  subst hl hD
  refine j_iloadn F dX3_isSetOfSkills_0 rfl ?_
  refine j_iflt F (tgt := 15) dX3_isSetOfSkills_1 (by decide) (fun h1 => ?_) (fun h1 => ?_)
  · refine j_iconst F (v := 0) dX3_isSetOfSkills_15 (by decide) ?_
    exact j_zretR F (b := false) hR dX3_isSetOfSkills_16 rfl (congrArg (fun z => Value.int (b1 z)) (show C_isSetOfSkills p0 = false from by rw [C_isSetOfSkills, if_pos h1]))
  · refine j_iloadn F dX3_isSetOfSkills_4 rfl ?_
    refine j_sipush F (v := 255) dX3_isSetOfSkills_5 (by decide) ?_
    refine j_icgt F (tgt := 15) dX3_isSetOfSkills_8 (by decide) (fun h8 => ?_) (fun h8 => ?_)
    · refine j_iconst F (v := 0) dX3_isSetOfSkills_15 (by decide) ?_
      exact j_zretR F (b := false) hR dX3_isSetOfSkills_16 rfl (congrArg (fun z => Value.int (b1 z)) (show C_isSetOfSkills p0 = false from by rw [C_isSetOfSkills, if_neg h1, if_pos h8]))
    · refine j_iconst F (v := 1) dX3_isSetOfSkills_11 (by decide) ?_
      refine j_goto F (tgt := 16) dX3_isSetOfSkills_12 (by decide) ?_
      exact j_zretR F (b := true) hR dX3_isSetOfSkills_16 rfl (congrArg (fun z => Value.int (b1 z)) (show C_isSetOfSkills p0 = true from by rw [C_isSetOfSkills, if_neg h1, if_neg h8]))
def C_isSpanOfDay (p0 : Int32) (p1 : Int32) : Bool := if p0 < 0 then false else if 1440 ≤ p0 then false else if p1 ≤ p0 then false else if 1440 < p1 then false else true
set_option maxHeartbeats 4000000 in
set_option maxRecDepth 100000 in
theorem qX3_isSpanOfDay (l : Launch) (hst : l.stackTraces = false) (D : va_G) (p0 : Int32) (p1 : Int32) : CR l D yX3_isSpanOfDay cX3_isSpanOfDay 2 (some .boolean) 0 0 [] [.int p0, .int p1] (.int (b1 (C_isSpanOfDay p0 p1))) := by
  refine CR_of [some (.int p0), some (.int p1)] hst (by decide +kernel) rfl (Nat.le_of_ble_eq_true rfl) (fun k F hl hD hR => ?_)
  subst hl hD
  refine j_iloadn F dX3_isSpanOfDay_0 rfl ?_
  refine j_iflt F (tgt := 27) dX3_isSpanOfDay_1 (by decide) (fun h1 => ?_) (fun h1 => ?_)
  · refine j_iconst F (v := 0) dX3_isSpanOfDay_27 (by decide) ?_
    exact j_zretR F (b := false) hR dX3_isSpanOfDay_28 rfl (congrArg (fun z => Value.int (b1 z)) (show C_isSpanOfDay p0 p1 = false from by rw [C_isSpanOfDay, if_pos h1]))
  · refine j_iloadn F dX3_isSpanOfDay_4 rfl ?_
    refine j_sipush F (v := 1440) dX3_isSpanOfDay_5 (by decide) ?_
    refine j_icge F (tgt := 27) dX3_isSpanOfDay_8 (by decide) (fun h8 => ?_) (fun h8 => ?_)
    · refine j_iconst F (v := 0) dX3_isSpanOfDay_27 (by decide) ?_
      exact j_zretR F (b := false) hR dX3_isSpanOfDay_28 rfl (congrArg (fun z => Value.int (b1 z)) (show C_isSpanOfDay p0 p1 = false from by rw [C_isSpanOfDay, if_neg h1, if_pos h8]))
    · refine j_iloadn F dX3_isSpanOfDay_11 rfl ?_
      refine j_iloadn F dX3_isSpanOfDay_12 rfl ?_
      refine j_icle F (tgt := 27) dX3_isSpanOfDay_13 (by decide) (fun h13 => ?_) (fun h13 => ?_)
      · refine j_iconst F (v := 0) dX3_isSpanOfDay_27 (by decide) ?_
        exact j_zretR F (b := false) hR dX3_isSpanOfDay_28 rfl (congrArg (fun z => Value.int (b1 z)) (show C_isSpanOfDay p0 p1 = false from by rw [C_isSpanOfDay, if_neg h1, if_neg h8, if_pos h13]))
      · refine j_iloadn F dX3_isSpanOfDay_16 rfl ?_
        refine j_sipush F (v := 1440) dX3_isSpanOfDay_17 (by decide) ?_
        refine j_icgt F (tgt := 27) dX3_isSpanOfDay_20 (by decide) (fun h20 => ?_) (fun h20 => ?_)
        · refine j_iconst F (v := 0) dX3_isSpanOfDay_27 (by decide) ?_
          exact j_zretR F (b := false) hR dX3_isSpanOfDay_28 rfl (congrArg (fun z => Value.int (b1 z)) (show C_isSpanOfDay p0 p1 = false from by rw [C_isSpanOfDay, if_neg h1, if_neg h8, if_neg h13, if_pos h20]))
        · refine j_iconst F (v := 1) dX3_isSpanOfDay_23 (by decide) ?_
          refine j_goto F (tgt := 28) dX3_isSpanOfDay_24 (by decide) ?_
          exact j_zretR F (b := true) hR dX3_isSpanOfDay_28 rfl (congrArg (fun z => Value.int (b1 z)) (show C_isSpanOfDay p0 p1 = true from by rw [C_isSpanOfDay, if_neg h1, if_neg h8, if_neg h13, if_neg h20]))
def C_dayOfWeek (p0 : Int32) : Int32 := (p0 / 1440) - (p0 / 1440) / 7 * 7
set_option maxHeartbeats 4000000 in
set_option maxRecDepth 100000 in
theorem qX3_dayOfWeek (l : Launch) (hst : l.stackTraces = false) (D : va_G) (p0 : Int32) : CR l D yX3_dayOfWeek cX3_dayOfWeek 1 (some .int) 0 0 [] [.int p0] (.int (C_dayOfWeek p0)) := by
  refine CR_of [some (.int p0)] hst (by decide +kernel) rfl (Nat.le_of_ble_eq_true rfl) (fun k F hl hD hR => ?_)
  subst hl hD
  refine j_iloadn F dX3_dayOfWeek_0 rfl ?_
  refine j_sipush F (v := 1440) dX3_dayOfWeek_1 (by decide) ?_
  refine j_idiv F dX3_dayOfWeek_4 (by decide) ?_
  refine j_bipush F (v := 7) dX3_dayOfWeek_5 (by decide) ?_
  refine j_irem F dX3_dayOfWeek_7 (by decide) ?_
  exact j_iretR F hR dX3_dayOfWeek_8 (congrArg Value.int (show C_dayOfWeek p0 = (p0 / 1440) - (p0 / 1440) / 7 * 7 from rfl))
theorem C_isPriority_in {x : Int32} (h : C_isPriority x = true) : vp_in x 4 := by
  unfold C_isPriority at h
  rw [vp_in_iff]
  split at h
  · cases h
  · rename_i h1
    split at h
    · cases h
    · rename_i h2
      rw [Int32.lt_iff_toInt_lt] at h1
      rw [Int32.le_iff_toInt_le] at h2
      simp at h1 h2
      omega
def C_digested (p0 : Int64) (p1 : Int32) : Int64 := (p0 * 31) + p1.toInt64
def C_A_hasSkill (na nt : Nat) (v : S2) (r : R2) (a : Nat) (p0 : Int32) : Bool := if ((v 14 a) &&& (1 <<< (p0 &&& 31))) = 0 then false else true
set_option maxHeartbeats 4000000 in
set_option maxRecDepth 100000 in
theorem qX0_hasSkill (l : Launch) (hst : l.stackTraces = false) (D : va_G) (G : CG) (v : S2) (r : R2) (a : Nat) (p0 : Int32) (ha : a < nA G) : CR l D yX0_hasSkill cX0_hasSkill 2 (some .boolean) 0 0 (CW D G v r) [.ref (aA G a), .int p0] (.int (b1 (C_A_hasSkill (nA G) (nT G) v r a p0))) := by
  refine CR_of [some (.ref (aA G a)), some (.int p0)] hst (by decide +kernel) rfl (Nat.le_of_ble_eq_true rfl) (fun k F hl hD hR => ?_)
  subst hl hD
  refine j_aloadn F dX0_hasSkill_0 rfl ?_
  refine gf_X0_15 F (v := .int (v 14 a)) dX0_hasSkill_1 (4 + a) (cg_A ha) rfl ?_
  refine j_iconst F (v := 1) dX0_hasSkill_4 (by decide) ?_
  refine j_iloadn F dX0_hasSkill_5 rfl ?_
  refine j_ishl F dX0_hasSkill_6 ?_
  refine j_iand F dX0_hasSkill_7 ?_
  refine j_ifeq F (tgt := 15) dX0_hasSkill_8 (by decide) (fun h8 => ?_) (fun h8 => ?_)
  · refine j_iconst F (v := 0) dX0_hasSkill_15 (by decide) ?_
    exact j_zretR F (b := false) hR dX0_hasSkill_16 rfl (congrArg (fun z => Value.int (b1 z)) (show C_A_hasSkill (nA G) (nT G) v r a p0 = false from by rw [C_A_hasSkill, if_pos h8]))
  · refine j_iconst F (v := 1) dX0_hasSkill_11 (by decide) ?_
    refine j_goto F (tgt := 16) dX0_hasSkill_12 (by decide) ?_
    exact j_zretR F (b := true) hR dX0_hasSkill_16 rfl (congrArg (fun z => Value.int (b1 z)) (show C_A_hasSkill (nA G) (nT G) v r a p0 = true from by rw [C_A_hasSkill, if_neg h8]))
def C_A_isThere (na nt : Nat) (v : S2) (r : R2) (a : Nat) (p0 : Int32) : Bool := if ((v 11 a) &&& (1 <<< ((C_dayOfWeek p0) &&& 31))) = 0 then false else if (p0 - p0 / 1440 * 1440) < (v 12 a) then false else if (v 13 a) ≤ (p0 - p0 / 1440 * 1440) then false else true
set_option maxHeartbeats 4000000 in
set_option maxRecDepth 100000 in
theorem qX0_isThere (l : Launch) (hst : l.stackTraces = false) (D : va_G) (G : CG) (v : S2) (r : R2) (a : Nat) (p0 : Int32) (ha : a < nA G) : CR l D yX0_isThere cX0_isThere 3 (some .boolean) 1 20 (CW D G v r) [.ref (aA G a), .int p0] (.int (b1 (C_A_isThere (nA G) (nT G) v r a p0))) := by
  refine CR_of [some (.ref (aA G a)), some (.int p0), none] hst (by decide +kernel) rfl (Nat.le_of_ble_eq_true rfl) (fun k F hl hD hR => ?_)
  subst hl hD
  refine j_iloadn F dX0_isThere_0 rfl ?_
  refine j_sipush F (v := 1440) dX0_isThere_1 (by decide) ?_
  refine j_irem F dX0_isThere_4 (by decide) ?_
  refine j_istoren F [some (.ref (aA G a)), some (.int p0), some (.int (p0 - p0 / 1440 * 1440))] dX0_isThere_5 rfl rfl rfl ?_
  refine j_aloadn F dX0_isThere_6 rfl ?_
  refine gf_X0_18 F (v := .int (v 11 a)) dX0_isThere_7 (4 + a) (cg_A ha) rfl ?_
  refine j_iconst F (v := 1) dX0_isThere_10 (by decide) ?_
  refine j_iloadn F dX0_isThere_11 rfl ?_
  refine j_rdSN F (qX3_dayOfWeek (kl k) hst (kD k) p0) F.hK.2.1 ui_X3 ud_X3_dayOfWeek us_X3_dayOfWeek dd_X3_dayOfWeek dX0_isThere_12 ⟨(Nat.le_of_ble_eq_true rfl), (Nat.le_of_ble_eq_true rfl)⟩ (fun _ h => nomatch h) rfl (Nat.le_of_ble_eq_true rfl) ⟨(Nat.le_of_ble_eq_true rfl), (Nat.le_of_ble_eq_true rfl)⟩ ?_
  refine j_ishl F dX0_isThere_15 ?_
  refine j_iand F dX0_isThere_16 ?_
  refine j_ifeq F (tgt := 40) dX0_isThere_17 (by decide) (fun h17 => ?_) (fun h17 => ?_)
  · refine j_iconst F (v := 0) dX0_isThere_40 (by decide) ?_
    exact j_zretR F (b := false) hR dX0_isThere_41 rfl (congrArg (fun z => Value.int (b1 z)) (show C_A_isThere (nA G) (nT G) v r a p0 = false from by rw [C_A_isThere, if_pos h17]))
  · refine j_iloadn F dX0_isThere_20 rfl ?_
    refine j_aloadn F dX0_isThere_21 rfl ?_
    refine gf_X0_21 F (v := .int (v 12 a)) dX0_isThere_22 (4 + a) (cg_A ha) rfl ?_
    refine j_iclt F (tgt := 40) dX0_isThere_25 (by decide) (fun h25 => ?_) (fun h25 => ?_)
    · refine j_iconst F (v := 0) dX0_isThere_40 (by decide) ?_
      exact j_zretR F (b := false) hR dX0_isThere_41 rfl (congrArg (fun z => Value.int (b1 z)) (show C_A_isThere (nA G) (nT G) v r a p0 = false from by rw [C_A_isThere, if_neg h17, if_pos h25]))
    · refine j_iloadn F dX0_isThere_28 rfl ?_
      refine j_aloadn F dX0_isThere_29 rfl ?_
      refine gf_X0_24 F (v := .int (v 13 a)) dX0_isThere_30 (4 + a) (cg_A ha) rfl ?_
      refine j_icge F (tgt := 40) dX0_isThere_33 (by decide) (fun h33 => ?_) (fun h33 => ?_)
      · refine j_iconst F (v := 0) dX0_isThere_40 (by decide) ?_
        exact j_zretR F (b := false) hR dX0_isThere_41 rfl (congrArg (fun z => Value.int (b1 z)) (show C_A_isThere (nA G) (nT G) v r a p0 = false from by rw [C_A_isThere, if_neg h17, if_neg h25, if_pos h33]))
      · refine j_iconst F (v := 1) dX0_isThere_36 (by decide) ?_
        refine j_goto F (tgt := 41) dX0_isThere_37 (by decide) ?_
        exact j_zretR F (b := true) hR dX0_isThere_41 rfl (congrArg (fun z => Value.int (b1 z)) (show C_A_isThere (nA G) (nT G) v r a p0 = true from by rw [C_A_isThere, if_neg h17, if_neg h25, if_neg h33]))
def C_H_isService (na nt : Nat) (v : S2) (r : R2) (p0 : Int32) : Bool := if 5 ≤ (C_dayOfWeek p0) then false else if (p0 - p0 / 1440 * 1440) < (v 0 1) then false else if (v 0 2) ≤ (p0 - p0 / 1440 * 1440) then false else true
set_option maxHeartbeats 4000000 in
set_option maxRecDepth 100000 in
theorem qX1_isService (l : Launch) (hst : l.stackTraces = false) (D : va_G) (G : CG) (v : S2) (r : R2) (p0 : Int32) : CR l D yX1_isService cX1_isService 3 (some .boolean) 1 20 (CW D G v r) [.ref (G.1 0 1), .int p0] (.int (b1 (C_H_isService (nA G) (nT G) v r p0))) := by
  refine CR_of [some (.ref (G.1 0 1)), some (.int p0), none] hst (by decide +kernel) rfl (Nat.le_of_ble_eq_true rfl) (fun k F hl hD hR => ?_)
  subst hl hD
  refine j_iloadn F dX1_isService_0 rfl ?_
  refine j_sipush F (v := 1440) dX1_isService_1 (by decide) ?_
  refine j_irem F dX1_isService_4 (by decide) ?_
  refine j_istoren F [some (.ref (G.1 0 1)), some (.int p0), some (.int (p0 - p0 / 1440 * 1440))] dX1_isService_5 rfl rfl rfl ?_
  refine j_iloadn F dX1_isService_6 rfl ?_
  refine j_rdSN F (qX3_dayOfWeek (kl k) hst (kD k) p0) F.hK.2.2.1 ui_X3 ud_X3_dayOfWeek us_X3_dayOfWeek dd_X3_dayOfWeek dX1_isService_7 ⟨(Nat.le_of_ble_eq_true rfl), (Nat.le_of_ble_eq_true rfl)⟩ (fun _ h => nomatch h) rfl (Nat.le_of_ble_eq_true rfl) ⟨(Nat.le_of_ble_eq_true rfl), (Nat.le_of_ble_eq_true rfl)⟩ ?_
  refine j_iconst F (v := 5) dX1_isService_10 (by decide) ?_
  refine j_icge F (tgt := 34) dX1_isService_11 (by decide) (fun h11 => ?_) (fun h11 => ?_)
  · refine j_iconst F (v := 0) dX1_isService_34 (by decide) ?_
    exact j_zretR F (b := false) hR dX1_isService_35 rfl (congrArg (fun z => Value.int (b1 z)) (show C_H_isService (nA G) (nT G) v r p0 = false from by rw [C_H_isService, if_pos h11]))
  · refine j_iloadn F dX1_isService_14 rfl ?_
    refine j_aloadn F dX1_isService_15 rfl ?_
    refine gf_X1_9 F (v := .int (v 0 1)) dX1_isService_16 1 rfl rfl ?_
    refine j_iclt F (tgt := 34) dX1_isService_19 (by decide) (fun h19 => ?_) (fun h19 => ?_)
    · refine j_iconst F (v := 0) dX1_isService_34 (by decide) ?_
      exact j_zretR F (b := false) hR dX1_isService_35 rfl (congrArg (fun z => Value.int (b1 z)) (show C_H_isService (nA G) (nT G) v r p0 = false from by rw [C_H_isService, if_neg h11, if_pos h19]))
    · refine j_iloadn F dX1_isService_22 rfl ?_
      refine j_aloadn F dX1_isService_23 rfl ?_
      refine gf_X1_15 F (v := .int (v 0 2)) dX1_isService_24 1 rfl rfl ?_
      refine j_icge F (tgt := 34) dX1_isService_27 (by decide) (fun h27 => ?_) (fun h27 => ?_)
      · refine j_iconst F (v := 0) dX1_isService_34 (by decide) ?_
        exact j_zretR F (b := false) hR dX1_isService_35 rfl (congrArg (fun z => Value.int (b1 z)) (show C_H_isService (nA G) (nT G) v r p0 = false from by rw [C_H_isService, if_neg h11, if_neg h19, if_pos h27]))
      · refine j_iconst F (v := 1) dX1_isService_30 (by decide) ?_
        refine j_goto F (tgt := 35) dX1_isService_31 (by decide) ?_
        exact j_zretR F (b := true) hR dX1_isService_35 rfl (congrArg (fun z => Value.int (b1 z)) (show C_H_isService (nA G) (nT G) v r p0 = true from by rw [C_H_isService, if_neg h11, if_neg h19, if_neg h27]))
def C_H_minutesOfDay (na nt : Nat) (v : S2) (r : R2) (p0 : Int32) (p1 : Int32) (p2 : Int32) : Int32 := if (C_dayOfWeek p0) < 5 then (if 0 < ((if (p0 + (v 0 2)) < p2 then (p0 + (v 0 2)) else p2) - (if p1 < (p0 + (v 0 1)) then (p0 + (v 0 1)) else p1)) then ((if (p0 + (v 0 2)) < p2 then (p0 + (v 0 2)) else p2) - (if p1 < (p0 + (v 0 1)) then (p0 + (v 0 1)) else p1)) else 0) else 0
set_option maxHeartbeats 4000000 in
set_option maxRecDepth 100000 in
theorem qX1_minutesOfDay (l : Launch) (hst : l.stackTraces = false) (D : va_G) (G : CG) (v : S2) (r : R2) (p0 : Int32) (p1 : Int32) (p2 : Int32) : CR l D yX1_minutesOfDay cX1_minutesOfDay 6 (some .int) 1 21 (CW D G v r) [.ref (G.1 0 1), .int p0, .int p1, .int p2] (.int (C_H_minutesOfDay (nA G) (nT G) v r p0 p1 p2)) := by
  refine CR_of [some (.ref (G.1 0 1)), some (.int p0), some (.int p1), some (.int p2), none, none] hst (by decide +kernel) rfl (Nat.le_of_ble_eq_true rfl) (fun k F hl hD hR => ?_)
  subst hl hD
  refine j_iloadn F dX1_minutesOfDay_0 rfl ?_
  refine j_rdSN F (qX3_dayOfWeek (kl k) hst (kD k) p0) F.hK.2.2.1 ui_X3 ud_X3_dayOfWeek us_X3_dayOfWeek dd_X3_dayOfWeek dX1_minutesOfDay_1 ⟨(Nat.le_of_ble_eq_true rfl), (Nat.le_of_ble_eq_true rfl)⟩ (fun _ h => nomatch h) rfl (Nat.le_of_ble_eq_true rfl) ⟨(Nat.le_of_ble_eq_true rfl), (Nat.le_of_ble_eq_true rfl)⟩ ?_
  refine j_iconst F (v := 5) dX1_minutesOfDay_4 (by decide) ?_
  refine j_iclt F (tgt := 10) dX1_minutesOfDay_5 (by decide) (fun h5 => ?_) (fun h5 => ?_)
  · refine j_iloadn F dX1_minutesOfDay_10 rfl ?_
    refine j_iloadn F dX1_minutesOfDay_11 rfl ?_
    refine j_aloadn F dX1_minutesOfDay_12 rfl ?_
    refine gf_X1_9 F (v := .int (v 0 1)) dX1_minutesOfDay_13 1 rfl rfl ?_
    refine j_iadd F dX1_minutesOfDay_16 ?_
    refine j_mmax F um_X1_28 us_max ui_Math ud_max dX1_minutesOfDay_17 ⟨(Nat.le_of_ble_eq_true rfl), (Nat.le_of_ble_eq_true rfl), (Nat.le_of_ble_eq_true rfl), (Nat.le_of_ble_eq_true rfl)⟩ ?_
    refine j_istore F [some (.ref (G.1 0 1)), some (.int p0), some (.int p1), some (.int p2), some (.int (if p1 < (p0 + (v 0 1)) then (p0 + (v 0 1)) else p1)), none] dX1_minutesOfDay_20 rfl rfl rfl ?_
    refine j_iloadn F dX1_minutesOfDay_22 rfl ?_
    refine j_iloadn F dX1_minutesOfDay_23 rfl ?_
    refine j_aloadn F dX1_minutesOfDay_24 rfl ?_
    refine gf_X1_15 F (v := .int (v 0 2)) dX1_minutesOfDay_25 1 rfl rfl ?_
    refine j_iadd F dX1_minutesOfDay_28 ?_
    refine j_mmin F um_X1_34 us_min ui_Math ud_min dX1_minutesOfDay_29 ⟨(Nat.le_of_ble_eq_true rfl), (Nat.le_of_ble_eq_true rfl), (Nat.le_of_ble_eq_true rfl), (Nat.le_of_ble_eq_true rfl)⟩ ?_
    refine j_istore F [some (.ref (G.1 0 1)), some (.int p0), some (.int p1), some (.int p2), some (.int (if p1 < (p0 + (v 0 1)) then (p0 + (v 0 1)) else p1)), some (.int (if (p0 + (v 0 2)) < p2 then (p0 + (v 0 2)) else p2))] dX1_minutesOfDay_32 rfl rfl rfl ?_
    refine j_iconst F (v := 0) dX1_minutesOfDay_34 (by decide) ?_
    refine j_iload F dX1_minutesOfDay_35 rfl ?_
    refine j_iload F dX1_minutesOfDay_37 rfl ?_
    refine j_isub F dX1_minutesOfDay_39 ?_
    refine j_mmax F um_X1_28 us_max ui_Math ud_max dX1_minutesOfDay_40 ⟨(Nat.le_of_ble_eq_true rfl), (Nat.le_of_ble_eq_true rfl), (Nat.le_of_ble_eq_true rfl), (Nat.le_of_ble_eq_true rfl)⟩ ?_
    exact j_iretR F hR dX1_minutesOfDay_43 (congrArg Value.int (show C_H_minutesOfDay (nA G) (nT G) v r p0 p1 p2 = if 0 < ((if (p0 + (v 0 2)) < p2 then (p0 + (v 0 2)) else p2) - (if p1 < (p0 + (v 0 1)) then (p0 + (v 0 1)) else p1)) then ((if (p0 + (v 0 2)) < p2 then (p0 + (v 0 2)) else p2) - (if p1 < (p0 + (v 0 1)) then (p0 + (v 0 1)) else p1)) else 0 from by rw [C_H_minutesOfDay, if_pos h5]))
  · refine j_iconst F (v := 0) dX1_minutesOfDay_8 (by decide) ?_
    exact j_iretR F hR dX1_minutesOfDay_9 (congrArg Value.int (show C_H_minutesOfDay (nA G) (nT G) v r p0 p1 p2 = 0 from by rw [C_H_minutesOfDay, if_neg h5]))
def C_T_isOpen (na nt : Nat) (v : S2) (r : R2) (t : Nat) : Bool := if (v 24 t) = 0 then true else if (v 24 t) = 1 then true else if (v 24 t) = 2 then true else false
set_option maxHeartbeats 4000000 in
set_option maxRecDepth 100000 in
theorem qX2_isOpen (l : Launch) (hst : l.stackTraces = false) (D : va_G) (G : CG) (v : S2) (r : R2) (t : Nat) (ht : t < nT G) : CR l D yX2_isOpen cX2_isOpen 1 (some .boolean) 0 0 (CW D G v r) [.ref (aT G t)] (.int (b1 (C_T_isOpen (nA G) (nT G) v r t))) := by
  refine CR_of [some (.ref (aT G t))] hst (by decide +kernel) rfl (Nat.le_of_ble_eq_true rfl) (fun k F hl hD hR => ?_)
  subst hl hD
  refine j_aloadn F dX2_isOpen_0 rfl ?_
  refine gf_X2_24 F (v := .int (v 24 t)) dX2_isOpen_1 (4 + nA G + t) (cg_T ht) rfl ?_
  refine j_ifeq F (tgt := 23) dX2_isOpen_4 (by decide) (fun h4 => ?_) (fun h4 => ?_)
  · refine j_iconst F (v := 1) dX2_isOpen_23 (by decide) ?_
    refine j_goto F (tgt := 28) dX2_isOpen_24 (by decide) ?_
    exact j_zretR F (b := true) hR dX2_isOpen_28 rfl (congrArg (fun z => Value.int (b1 z)) (show C_T_isOpen (nA G) (nT G) v r t = true from by rw [C_T_isOpen, if_pos h4]))
  · refine j_aloadn F dX2_isOpen_7 rfl ?_
    refine gf_X2_24 F (v := .int (v 24 t)) dX2_isOpen_8 (4 + nA G + t) (cg_T ht) rfl ?_
    refine j_iconst F (v := 1) dX2_isOpen_11 (by decide) ?_
    refine j_iceq F (tgt := 23) dX2_isOpen_12 (by decide) (fun h12 => ?_) (fun h12 => ?_)
    · refine j_iconst F (v := 1) dX2_isOpen_23 (by decide) ?_
      refine j_goto F (tgt := 28) dX2_isOpen_24 (by decide) ?_
      exact j_zretR F (b := true) hR dX2_isOpen_28 rfl (congrArg (fun z => Value.int (b1 z)) (show C_T_isOpen (nA G) (nT G) v r t = true from by rw [C_T_isOpen, if_neg h4, if_pos h12]))
    · refine j_aloadn F dX2_isOpen_15 rfl ?_
      refine gf_X2_24 F (v := .int (v 24 t)) dX2_isOpen_16 (4 + nA G + t) (cg_T ht) rfl ?_
      refine j_iconst F (v := 2) dX2_isOpen_19 (by decide) ?_
      refine j_icne F (tgt := 27) dX2_isOpen_20 (by decide) (fun h20 => ?_) (fun h20 => ?_)
      · refine j_iconst F (v := 0) dX2_isOpen_27 (by decide) ?_
        exact j_zretR F (b := false) hR dX2_isOpen_28 rfl (congrArg (fun z => Value.int (b1 z)) (show C_T_isOpen (nA G) (nT G) v r t = false from by rw [C_T_isOpen, if_neg h4, if_neg h12, if_neg h20]))
      · refine j_iconst F (v := 1) dX2_isOpen_23 (by decide) ?_
        refine j_goto F (tgt := 28) dX2_isOpen_24 (by decide) ?_
        exact j_zretR F (b := true) hR dX2_isOpen_28 rfl (congrArg (fun z => Value.int (b1 z)) (show C_T_isOpen (nA G) (nT G) v r t = true from by rw [C_T_isOpen, if_neg h4, if_neg h12, if_pos h20]))
def C_numberOfAgent (na nt : Nat) (v : S2) (r : R2) (o0 : Option Nat) : Int32 := if o0 = none then (-1) else v 10 (gd o0)
set_option maxHeartbeats 4000000 in
set_option maxRecDepth 100000 in
theorem qX3_numberOfAgent (l : Launch) (hst : l.stackTraces = false) (D : va_G) (G : CG) (v : S2) (r : R2) (o0 : Option Nat) (ho : ∀ y, o0 = some y → y < nA G) : CR l D yX3_numberOfAgent cX3_numberOfAgent 1 (some .int) 0 0 (CW D G v r) [va_rf ((o0).map (aA G))] (.int (C_numberOfAgent (nA G) (nT G) v r o0)) := by
  refine CR_of [some (va_rf ((o0).map (aA G)))] hst (by decide +kernel) rfl (by cases o0 <;> exact Nat.le_of_ble_eq_true rfl) (fun k F hl hD hR => ?_)
  subst hl hD
  refine j_aloadnq F dX3_numberOfAgent_0 rfl ?_
  refine j_ifnonnullq F (tgt := 8) dX3_numberOfAgent_1 (by decide) (fun a1 e1 => ?_) (fun e1 => ?_)
  · obtain ⟨ea, h1⟩ := rf_some e1
    subst ea
    rw [e1]
    refine j_aloadn F dX3_numberOfAgent_8 rfl ?_
    refine gf_X3_95 F (v := .int (v 10 (gd o0))) dX3_numberOfAgent_9 (4 + (gd o0)) (cg_A (ho _ (gd_some h1))) rfl ?_
    exact j_iretR F hR dX3_numberOfAgent_12 (congrArg Value.int (show C_numberOfAgent (nA G) (nT G) v r o0 = v 10 (gd o0) from by rw [C_numberOfAgent, if_neg h1]))
  · rw [e1]
    have h1 := map_none e1
    refine j_iconst F (v := (-1)) dX3_numberOfAgent_4 (by decide) ?_
    refine j_goto F (tgt := 12) dX3_numberOfAgent_5 (by decide) ?_
    exact j_iretR F hR dX3_numberOfAgent_12 (congrArg Value.int (show C_numberOfAgent (nA G) (nT G) v r o0 = (-1) from by rw [C_numberOfAgent, if_pos h1]))
def C_numberOfTicket (na nt : Nat) (v : S2) (r : R2) (o0 : Option Nat) : Int32 := if o0 = none then (-1) else v 20 (gd o0)
set_option maxHeartbeats 4000000 in
set_option maxRecDepth 100000 in
theorem qX3_numberOfTicket (l : Launch) (hst : l.stackTraces = false) (D : va_G) (G : CG) (v : S2) (r : R2) (o0 : Option Nat) (ho : ∀ y, o0 = some y → y < nT G) : CR l D yX3_numberOfTicket cX3_numberOfTicket 1 (some .int) 0 0 (CW D G v r) [va_rf ((o0).map (aT G))] (.int (C_numberOfTicket (nA G) (nT G) v r o0)) := by
  refine CR_of [some (va_rf ((o0).map (aT G)))] hst (by decide +kernel) rfl (by cases o0 <;> exact Nat.le_of_ble_eq_true rfl) (fun k F hl hD hR => ?_)
  subst hl hD
  refine j_aloadnq F dX3_numberOfTicket_0 rfl ?_
  refine j_ifnonnullq F (tgt := 8) dX3_numberOfTicket_1 (by decide) (fun a1 e1 => ?_) (fun e1 => ?_)
  · obtain ⟨ea, h1⟩ := rf_some e1
    subst ea
    rw [e1]
    refine j_aloadn F dX3_numberOfTicket_8 rfl ?_
    refine gf_X3_142 F (v := .int (v 20 (gd o0))) dX3_numberOfTicket_9 (4 + nA G + (gd o0)) (cg_T (ho _ (gd_some h1))) rfl ?_
    exact j_iretR F hR dX3_numberOfTicket_12 (congrArg Value.int (show C_numberOfTicket (nA G) (nT G) v r o0 = v 20 (gd o0) from by rw [C_numberOfTicket, if_neg h1]))
  · rw [e1]
    have h1 := map_none e1
    refine j_iconst F (v := (-1)) dX3_numberOfTicket_4 (by decide) ?_
    refine j_goto F (tgt := 12) dX3_numberOfTicket_5 (by decide) ?_
    exact j_iretR F hR dX3_numberOfTicket_12 (congrArg Value.int (show C_numberOfTicket (nA G) (nT G) v r o0 = (-1) from by rw [C_numberOfTicket, if_pos h1]))
def C_slackOf (na nt : Nat) (v : S2) (r : R2) (t0 : Nat) : Int32 := (v 2 (ix (v 22 t0))) - (v 25 t0)
set_option maxHeartbeats 4000000 in
set_option maxRecDepth 100000 in
theorem qX3_slackOf (l : Launch) (hst : l.stackTraces = false) (D : va_G) (G : CG) (v : S2) (r : R2) (t0 : Nat) (hC : CI G v r) (ht : t0 < nT G) : CR l D yX3_slackOf cX3_slackOf 2 (some .int) 0 0 (CW D G v r) [.ref (G.1 0 0), .ref (aT G t0)] (.int (C_slackOf (nA G) (nT G) v r t0)) := by
  refine CR_of [some (.ref (G.1 0 0)), some (.ref (aT G t0))] hst (by decide +kernel) rfl (Nat.le_of_ble_eq_true rfl) (fun k F hl hD hR => ?_)
  subst hl hD
  refine j_aloadn F dX3_slackOf_0 rfl ?_
  refine gf_X3_20 F (v := .ref (G.1 0 3)) dX3_slackOf_1 0 rfl rfl ?_
  refine j_aloadn F dX3_slackOf_4 rfl ?_
  refine gf_X3_152 F (v := .int (v 22 t0)) dX3_slackOf_5 (4 + nA G + t0) (cg_T ht) rfl ?_
  refine j_iald F dX3_slackOf_8 (f := v 2) 3 rfl (CI.prio hC ht) ?_
  refine j_aloadn F dX3_slackOf_9 rfl ?_
  refine gf_X3_187 F (v := .int (v 25 t0)) dX3_slackOf_10 (4 + nA G + t0) (cg_T ht) rfl ?_
  refine j_isub F dX3_slackOf_13 ?_
  exact j_iretR F hR dX3_slackOf_14 (congrArg Value.int (show C_slackOf (nA G) (nT G) v r t0 = (v 2 (ix (v 22 t0))) - (v 25 t0) from rfl))
def C_breaksAnswer (na nt : Nat) (v : S2) (r : R2) (t0 : Nat) : Bool := if 0 ≤ (v 27 t0) then (if (v 24 t0) = 4 then false else if (v 27 t0) ≤ (v 1 (ix (v 22 t0))) then false else true) else if (v 24 t0) = 4 then false else if (v 25 t0) ≤ (v 1 (ix (v 22 t0))) then false else true
def C_breaksSolution (na nt : Nat) (v : S2) (r : R2) (t0 : Nat) : Bool := if (v 24 t0) = 4 then false else if 0 ≤ (C_slackOf na nt v r t0) then false else true
def C_takeFromHolder (na nt : Nat) (v : S2) (r : R2) (t0 : Nat) : S2 × R2 := if r 32 t0 = none then (v, r) else (v, u3 (u3 r 15 (gd (r 32 t0)) none) 32 t0 none)
set_option maxHeartbeats 4000000 in
set_option maxRecDepth 100000 in
theorem qX3_takeFromHolder (l : Launch) (hst : l.stackTraces = false) (D : va_G) (G : CG) (v : S2) (r : R2) (t0 : Nat) (hC : CI G v r) (ht : t0 < nT G) : CM l D yX3_takeFromHolder cX3_takeFromHolder 2 none 0 0 0 0 (CW D G v r) [.ref (aT G t0)] (dP none (CW D G (C_takeFromHolder (nA G) (nT G) v r t0).1 (C_takeFromHolder (nA G) (nT G) v r t0).2)) := by
  refine CM_of [some (.ref (aT G t0)), none] hst (by decide +kernel) rfl (Nat.le_of_ble_eq_true rfl) (fun k F hl hD hin hR => ?_)
  subst hl hD
  refine j_aloadn F dX3_takeFromHolder_0 rfl ?_
  refine gf_X3_287 F (v := va_rf ((r 32 t0).map (aA G))) dX3_takeFromHolder_1 (4 + nA G + t0) (cg_T ht) rfl ?_
  refine j_astorenq F [some (.ref (aT G t0)), some (va_rf ((r 32 t0).map (aA G)))] dX3_takeFromHolder_4 rfl rfl rfl ?_
  refine j_aloadnq F dX3_takeFromHolder_5 rfl ?_
  refine j_ifnullq F (tgt := 19) dX3_takeFromHolder_6 (by decide) (fun e6 => ?_) (fun a6 e6 => ?_)
  · rw [e6]
    have h6 := map_none e6
    have hz : C_takeFromHolder (nA G) (nT G) v r t0 = (v, r) := by rw [C_takeFromHolder, if_pos h6]
    exact j_vret F hR dX3_takeFromHolder_19 (Nat.le_of_ble_eq_true rfl) (Nat.le_of_ble_eq_true rfl) ⟨rfl, by rw [hz]⟩
  · obtain ⟨ea, h6⟩ := rf_some e6
    subst ea
    rw [e6]
    refine j_aloadn F dX3_takeFromHolder_9 rfl ?_
    refine j_null F dX3_takeFromHolder_10 ?_
    refine pf_X3_107 F hR.1 dX3_takeFromHolder_11 rfl rfl (4 + (gd (r 32 t0))) (cg_A ((CI.holder hC ht) _ (gd_some h6))) (Nat.le_of_ble_eq_true rfl) (CW (kD k) G v (u3 r 15 (gd (r 32 t0)) none)) (csA_5 (x := none) ((CI.holder hC ht) _ (gd_some h6))) ?_
    refine j_aloadn F dX3_takeFromHolder_14 rfl ?_
    refine j_null F dX3_takeFromHolder_15 ?_
    refine pf_X3_287 F hR.1 dX3_takeFromHolder_16 rfl rfl (4 + nA G + t0) (cg_T ht) (Nat.le_of_ble_eq_true rfl) (CW (kD k) G v (u3 (u3 r 15 (gd (r 32 t0)) none) 32 t0 none)) (csT_12 (x := none) ht) ?_
    have hz : C_takeFromHolder (nA G) (nT G) v r t0 = (v, u3 (u3 r 15 (gd (r 32 t0)) none) 32 t0 none) := by rw [C_takeFromHolder, if_neg h6]
    exact j_vret F hR dX3_takeFromHolder_19 (Nat.le_of_ble_eq_true rfl) (Nat.le_of_ble_eq_true rfl) ⟨rfl, by rw [hz]⟩
def C_handBack (na nt : Nat) (v : S2) (r : R2) (t0 : Nat) : S2 × R2 := (u2 ((C_takeFromHolder na nt v r t0).1) 24 t0 0, (C_takeFromHolder na nt v r t0).2)
set_option maxHeartbeats 4000000 in
set_option maxRecDepth 100000 in
theorem qX3_handBack (l : Launch) (hst : l.stackTraces = false) (D : va_G) (G : CG) (v : S2) (r : R2) (t0 : Nat) (hC : CI G v r) (ht : t0 < nT G) : CM l D yX3_handBack cX3_handBack 1 none 1 21 0 0 (CW D G v r) [.ref (aT G t0)] (dP none (CW D G (C_handBack (nA G) (nT G) v r t0).1 (C_handBack (nA G) (nT G) v r t0).2)) := by
  refine CM_of [some (.ref (aT G t0))] hst (by decide +kernel) rfl (Nat.le_of_ble_eq_true rfl) (fun k F hl hD hin hR => ?_)
  subst hl hD
  refine j_aloadn F dX3_handBack_0 rfl ?_
  refine j_dmS F hR.1 (qX3_takeFromHolder (kl k) hst (kD k) G v r t0 hC ht) lk_X3_157 dX3_handBack_1 ⟨(Nat.le_of_ble_eq_true rfl), (Nat.le_of_ble_eq_true rfl)⟩ rfl (Nat.le_of_ble_eq_true rfl) ⟨(Nat.le_of_ble_eq_true rfl), (Nat.le_of_ble_eq_true rfl)⟩ rfl ?_
  refine j_aloadn F dX3_handBack_4 rfl ?_
  refine j_iconst F (v := 0) dX3_handBack_5 (by decide) ?_
  refine pf_X3_147 F hR.1 dX3_handBack_6 rfl rfl (4 + nA G + t0) (cg_T ht) (Nat.le_of_ble_eq_true rfl) (CW (kD k) G (u2 ((C_takeFromHolder (nA G) (nT G) v r t0).1) 24 t0 0) ((C_takeFromHolder (nA G) (nT G) v r t0).2)) (csT_4 ht) ?_
  have hz : C_handBack (nA G) (nT G) v r t0 = (u2 ((C_takeFromHolder (nA G) (nT G) v r t0).1) 24 t0 0, (C_takeFromHolder (nA G) (nT G) v r t0).2) := rfl
  exact j_vret F hR dX3_handBack_9 (Nat.le_of_ble_eq_true rfl) (Nat.le_of_ble_eq_true rfl) ⟨rfl, by rw [hz]⟩
def C_give (na nt : Nat) (v : S2) (r : R2) (t0 : Nat) (a1 : Nat) : S2 × R2 := if 0 ≤ (v 27 t0) then (u2 v 24 t0 1, u3 (u3 (u3 r 15 a1 (some t0)) 32 t0 (some a1)) 33 t0 (some a1)) else (u2 (u2 v 24 t0 1) 27 t0 (v 25 t0), u3 (u3 (u3 r 15 a1 (some t0)) 32 t0 (some a1)) 33 t0 (some a1))
set_option maxHeartbeats 4000000 in
set_option maxRecDepth 100000 in
theorem qX3_give (l : Launch) (hst : l.stackTraces = false) (D : va_G) (G : CG) (v : S2) (r : R2) (t0 : Nat) (a1 : Nat) (ht : t0 < nT G) (ha : a1 < nA G) : CM l D yX3_give cX3_give 2 none 0 0 0 0 (CW D G v r) [.ref (aT G t0), .ref (aA G a1)] (dP none (CW D G (C_give (nA G) (nT G) v r t0 a1).1 (C_give (nA G) (nT G) v r t0 a1).2)) := by
  refine CM_of [some (.ref (aT G t0)), some (.ref (aA G a1))] hst (by decide +kernel) rfl (Nat.le_of_ble_eq_true rfl) (fun k F hl hD hin hR => ?_)
  subst hl hD
  refine j_aloadn F dX3_give_0 rfl ?_
  refine j_aloadn F dX3_give_1 rfl ?_
  refine pf_X3_107 F hR.1 dX3_give_2 rfl rfl (4 + a1) (cg_A ha) (Nat.le_of_ble_eq_true rfl) (CW (kD k) G v (u3 r 15 a1 (some t0))) (csA_5 (x := some t0) ha) ?_
  refine j_aloadn F dX3_give_5 rfl ?_
  refine j_aloadn F dX3_give_6 rfl ?_
  refine pf_X3_287 F hR.1 dX3_give_7 rfl rfl (4 + nA G + t0) (cg_T ht) (Nat.le_of_ble_eq_true rfl) (CW (kD k) G v (u3 (u3 r 15 a1 (some t0)) 32 t0 (some a1))) (csT_12 (x := some a1) ht) ?_
  refine j_aloadn F dX3_give_10 rfl ?_
  refine j_aloadn F dX3_give_11 rfl ?_
  refine pf_X3_291 F hR.1 dX3_give_12 rfl rfl (4 + nA G + t0) (cg_T ht) (Nat.le_of_ble_eq_true rfl) (CW (kD k) G v (u3 (u3 (u3 r 15 a1 (some t0)) 32 t0 (some a1)) 33 t0 (some a1))) (csT_13 (x := some a1) ht) ?_
  refine j_aloadn F dX3_give_15 rfl ?_
  refine j_iconst F (v := 1) dX3_give_16 (by decide) ?_
  refine pf_X3_147 F hR.1 dX3_give_17 rfl rfl (4 + nA G + t0) (cg_T ht) (Nat.le_of_ble_eq_true rfl) (CW (kD k) G (u2 v 24 t0 1) (u3 (u3 (u3 r 15 a1 (some t0)) 32 t0 (some a1)) 33 t0 (some a1))) (csT_4 ht) ?_
  refine j_aloadn F dX3_give_20 rfl ?_
  refine gf_X3_294 F (v := .int (v 27 t0)) dX3_give_21 (4 + nA G + t0) (cg_T ht) rfl ?_
  refine j_ifge F (tgt := 35) dX3_give_24 (by decide) (fun h24 => ?_) (fun h24 => ?_)
  · have hz : C_give (nA G) (nT G) v r t0 a1 = (u2 v 24 t0 1, u3 (u3 (u3 r 15 a1 (some t0)) 32 t0 (some a1)) 33 t0 (some a1)) := by rw [C_give, if_pos h24]
    exact j_vret F hR dX3_give_35 (Nat.le_of_ble_eq_true rfl) (Nat.le_of_ble_eq_true rfl) ⟨rfl, by rw [hz]⟩
  · refine j_aloadn F dX3_give_27 rfl ?_
    refine j_aloadn F dX3_give_28 rfl ?_
    refine gf_X3_187 F (v := .int (v 25 t0)) dX3_give_29 (4 + nA G + t0) (cg_T ht) rfl ?_
    refine pf_X3_294 F hR.1 dX3_give_32 rfl rfl (4 + nA G + t0) (cg_T ht) (Nat.le_of_ble_eq_true rfl) (CW (kD k) G (u2 (u2 v 24 t0 1) 27 t0 (v 25 t0)) (u3 (u3 (u3 r 15 a1 (some t0)) 32 t0 (some a1)) 33 t0 (some a1))) (csT_7 ht) ?_
    have hz : C_give (nA G) (nT G) v r t0 a1 = (u2 (u2 v 24 t0 1) 27 t0 (v 25 t0), u3 (u3 (u3 r 15 a1 (some t0)) 32 t0 (some a1)) 33 t0 (some a1)) := by rw [C_give, if_neg h24]
    exact j_vret F hR dX3_give_35 (Nat.le_of_ble_eq_true rfl) (Nat.le_of_ble_eq_true rfl) ⟨rfl, by rw [hz]⟩
def C_solve (na nt : Nat) (v : S2) (r : R2) (t0 : Nat) (a1 : Nat) : S2 × R2 := (u2 (u2 (u2 ((C_takeFromHolder na nt v r t0).1) 24 t0 3) 30 t0 ((((C_takeFromHolder na nt v r t0).1) 0 0) + 1)) 17 a1 ((((C_takeFromHolder na nt v r t0).1) 17 a1) + 1), (C_takeFromHolder na nt v r t0).2)
set_option maxHeartbeats 4000000 in
set_option maxRecDepth 100000 in
theorem qX3_solve (l : Launch) (hst : l.stackTraces = false) (D : va_G) (G : CG) (v : S2) (r : R2) (t0 : Nat) (a1 : Nat) (hC : CI G v r) (ht : t0 < nT G) (ha : a1 < nA G) : CM l D yX3_solve cX3_solve 3 none 1 21 0 0 (CW D G v r) [.ref (G.1 0 0), .ref (aT G t0), .ref (aA G a1)] (dP none (CW D G (C_solve (nA G) (nT G) v r t0 a1).1 (C_solve (nA G) (nT G) v r t0 a1).2)) := by
  refine CM_of [some (.ref (G.1 0 0)), some (.ref (aT G t0)), some (.ref (aA G a1))] hst (by decide +kernel) rfl (Nat.le_of_ble_eq_true rfl) (fun k F hl hD hin hR => ?_)
  subst hl hD
  refine j_aloadn F dX3_solve_0 rfl ?_
  refine j_dmS F hR.1 (qX3_takeFromHolder (kl k) hst (kD k) G v r t0 hC ht) lk_X3_157 dX3_solve_1 ⟨(Nat.le_of_ble_eq_true rfl), (Nat.le_of_ble_eq_true rfl)⟩ rfl (Nat.le_of_ble_eq_true rfl) ⟨(Nat.le_of_ble_eq_true rfl), (Nat.le_of_ble_eq_true rfl)⟩ rfl ?_
  refine j_aloadn F dX3_solve_4 rfl ?_
  refine j_iconst F (v := 3) dX3_solve_5 (by decide) ?_
  refine pf_X3_147 F hR.1 dX3_solve_6 rfl rfl (4 + nA G + t0) (cg_T ht) (Nat.le_of_ble_eq_true rfl) (CW (kD k) G (u2 ((C_takeFromHolder (nA G) (nT G) v r t0).1) 24 t0 3) ((C_takeFromHolder (nA G) (nT G) v r t0).2)) (csT_4 ht) ?_
  refine j_aloadn F dX3_solve_9 rfl ?_
  refine j_aloadn F dX3_solve_10 rfl ?_
  refine gf_X3_33 F (v := .int (((C_takeFromHolder (nA G) (nT G) v r t0).1) 0 0)) dX3_solve_11 0 rfl (dfi_5 (u2_ne1 (by decide))) ?_
  refine j_iconst F (v := 1) dX3_solve_14 (by decide) ?_
  refine j_iadd F dX3_solve_15 ?_
  refine pf_X3_198 F hR.1 dX3_solve_16 rfl rfl (4 + nA G + t0) (cg_T ht) (Nat.le_of_ble_eq_true rfl) (CW (kD k) G (u2 (u2 ((C_takeFromHolder (nA G) (nT G) v r t0).1) 24 t0 3) 30 t0 ((((C_takeFromHolder (nA G) (nT G) v r t0).1) 0 0) + 1)) ((C_takeFromHolder (nA G) (nT G) v r t0).2)) (csT_10 ht) ?_
  refine j_aloadn F dX3_solve_19 rfl ?_
  refine j_dup F dX3_solve_20 rfl ?_
  refine gf_X3_284 F (v := .int (((C_takeFromHolder (nA G) (nT G) v r t0).1) 17 a1)) dX3_solve_21 (4 + a1) (cg_A ha) (afi_7 (Eq.trans (u2_ne1 (by decide)) (u2_ne1 (by decide)))) ?_
  refine j_iconst F (v := 1) dX3_solve_24 (by decide) ?_
  refine j_iadd F dX3_solve_25 ?_
  refine pf_X3_284 F hR.1 dX3_solve_26 rfl rfl (4 + a1) (cg_A ha) (Nat.le_of_ble_eq_true rfl) (CW (kD k) G (u2 (u2 (u2 ((C_takeFromHolder (nA G) (nT G) v r t0).1) 24 t0 3) 30 t0 ((((C_takeFromHolder (nA G) (nT G) v r t0).1) 0 0) + 1)) 17 a1 ((((C_takeFromHolder (nA G) (nT G) v r t0).1) 17 a1) + 1)) ((C_takeFromHolder (nA G) (nT G) v r t0).2)) (csA_7 ha) ?_
  have hz : C_solve (nA G) (nT G) v r t0 a1 = (u2 (u2 (u2 ((C_takeFromHolder (nA G) (nT G) v r t0).1) 24 t0 3) 30 t0 ((((C_takeFromHolder (nA G) (nT G) v r t0).1) 0 0) + 1)) 17 a1 ((((C_takeFromHolder (nA G) (nT G) v r t0).1) 17 a1) + 1), (C_takeFromHolder (nA G) (nT G) v r t0).2) := rfl
  exact j_vret F hR dX3_solve_29 (Nat.le_of_ble_eq_true rfl) (Nat.le_of_ble_eq_true rfl) ⟨rfl, by rw [hz]⟩
