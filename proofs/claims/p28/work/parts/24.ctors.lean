/-! THE CONSTRUCTORS, by program -/
abbrev obC (a ci : Nat) (fs : List Value) : Nat × va_E := (a, .inr (ci, fs))
set_option maxRecDepth 100000 in
set_option maxHeartbeats 4000000 in
theorem qX0_init (l : Launch) (hst : l.stackTraces = false) (D : va_G) (a : Nat) (p0 : Int32) (p1 : Int32) (p2 : Int32) (p3 : Int32) (p4 : Int32) : CM l D yX0_init cX0_init 6 none 1 22 0 0 [(a, .inr (1, [.int 0, .int 0, .int 0, .int 0, .int 0, .null, .int 0, .int 0]))] [.ref a, .int p0, .int p1, .int p2, .int p3, .int p4] (dP none [obC a 1 [.int p0, .int p2, .int p3, .int p4, .int p1, .null, .int 0, .int 0]]) := by
  refine CM_of [some (.ref a), some (.int p0), some (.int p1), some (.int p2), some (.int p3), some (.int p4)] hst (by decide +kernel) rfl (Nat.le_of_ble_eq_true rfl) (fun k F hl hD hin hR => ?_)
  subst hl hD
  refine j_aloadn F dX0_init_0 rfl ?_
  refine j_objInit F um_X0_3 un_objectInit ud_objectInit dX0_init_1 ⟨(Nat.le_of_ble_eq_true rfl), (Nat.le_of_ble_eq_true rfl)⟩ ?_
  refine j_aloadn F dX0_init_4 rfl ?_
  refine j_iloadn F dX0_init_5 rfl ?_
  refine pf_X0_9 F hR.1 (hin rfl) dX0_init_6 rfl rfl 0 rfl (Nat.le_of_ble_eq_true rfl) [obC a 1 [.int p0, .int 0, .int 0, .int 0, .int 0, .null, .int 0, .int 0]] rfl ?_
  refine j_aloadn F dX0_init_9 rfl ?_
  refine j_iloadn F dX0_init_10 rfl ?_
  refine pf_X0_15 F hR.1 dX0_init_11 rfl rfl 0 rfl (Nat.le_of_ble_eq_true rfl) [obC a 1 [.int p0, .int 0, .int 0, .int 0, .int p1, .null, .int 0, .int 0]] rfl ?_
  refine j_aloadn F dX0_init_14 rfl ?_
  refine j_iloadn F dX0_init_15 rfl ?_
  refine pf_X0_18 F hR.1 (hin rfl) dX0_init_16 rfl rfl 0 rfl (Nat.le_of_ble_eq_true rfl) [obC a 1 [.int p0, .int p2, .int 0, .int 0, .int p1, .null, .int 0, .int 0]] rfl ?_
  refine j_aloadn F dX0_init_19 rfl ?_
  refine j_iload F dX0_init_20 rfl ?_
  refine pf_X0_21 F hR.1 (hin rfl) dX0_init_22 rfl rfl 0 rfl (Nat.le_of_ble_eq_true rfl) [obC a 1 [.int p0, .int p2, .int p3, .int 0, .int p1, .null, .int 0, .int 0]] rfl ?_
  refine j_aloadn F dX0_init_25 rfl ?_
  refine j_iload F dX0_init_26 rfl ?_
  refine pf_X0_24 F hR.1 (hin rfl) dX0_init_28 rfl rfl 0 rfl (Nat.le_of_ble_eq_true rfl) [obC a 1 [.int p0, .int p2, .int p3, .int p4, .int p1, .null, .int 0, .int 0]] rfl ?_
  exact j_vret F hR dX0_init_31 (Nat.le_of_ble_eq_true rfl) (Nat.le_of_ble_eq_true rfl) ⟨rfl, rfl⟩
set_option maxRecDepth 100000 in
set_option maxHeartbeats 4000000 in
theorem qX1_init (l : Launch) (hst : l.stackTraces = false) (D : va_G) (a : Nat) : CM l D yX1_init cX1_init 1 none 1 22 0 0 [(a, .inr (2, [.int 0, .int 0]))] [.ref a] (dP none [obC a 2 [.int 540, .int 1020]]) := by
  refine CM_of [some (.ref a)] hst (by decide +kernel) rfl (Nat.le_of_ble_eq_true rfl) (fun k F hl hD hin hR => ?_)
  subst hl hD
  refine j_aloadn F dX1_init_0 rfl ?_
  refine j_objInit F um_X1_3 un_objectInit ud_objectInit dX1_init_1 ⟨(Nat.le_of_ble_eq_true rfl), (Nat.le_of_ble_eq_true rfl)⟩ ?_
  refine j_aloadn F dX1_init_4 rfl ?_
  refine j_sipush F (v := 540) dX1_init_5 (by decide) ?_
  refine pf_X1_9 F hR.1 dX1_init_8 rfl rfl 0 rfl (Nat.le_of_ble_eq_true rfl) [obC a 2 [.int 540, .int 0]] rfl ?_
  refine j_aloadn F dX1_init_11 rfl ?_
  refine j_sipush F (v := 1020) dX1_init_12 (by decide) ?_
  refine pf_X1_15 F hR.1 dX1_init_15 rfl rfl 0 rfl (Nat.le_of_ble_eq_true rfl) [obC a 2 [.int 540, .int 1020]] rfl ?_
  exact j_vret F hR dX1_init_18 (Nat.le_of_ble_eq_true rfl) (Nat.le_of_ble_eq_true rfl) ⟨rfl, rfl⟩
set_option maxRecDepth 100000 in
set_option maxHeartbeats 4000000 in
theorem qX2_init (l : Launch) (hst : l.stackTraces = false) (D : va_G) (a : Nat) (p0 : Int32) (p1 : Int32) (p2 : Int32) (p3 : Int32) (p4 : Int32) : CM l D yX2_init cX2_init 6 none 1 22 0 0 [(a, .inr (3, [.int 0, .int 0, .int 0, .int 0, .int 0, .int 0, .int 0, .int 0, .int 0, .int 0, .int 0, .int 0, .null, .null, .null]))] [.ref a, .int p0, .int p1, .int p2, .int p3, .int p4] (dP none [obC a 3 [.int p0, .int p1, .int p2, .int p3, .int 0, .int 0, .int 0, .int (-1), .int 0, .int 0, .int 0, .int (1 <<< (p4 &&& 31)), .null, .null, .null]]) := by
  refine CM_of [some (.ref a), some (.int p0), some (.int p1), some (.int p2), some (.int p3), some (.int p4)] hst (by decide +kernel) rfl (Nat.le_of_ble_eq_true rfl) (fun k F hl hD hin hR => ?_)
  subst hl hD
  refine j_aloadn F dX2_init_0 rfl ?_
  refine j_objInit F um_X2_3 un_objectInit ud_objectInit dX2_init_1 ⟨(Nat.le_of_ble_eq_true rfl), (Nat.le_of_ble_eq_true rfl)⟩ ?_
  refine j_aloadn F dX2_init_4 rfl ?_
  refine j_iloadn F dX2_init_5 rfl ?_
  refine pf_X2_9 F hR.1 (hin rfl) dX2_init_6 rfl rfl 0 rfl (Nat.le_of_ble_eq_true rfl) [obC a 3 [.int p0, .int 0, .int 0, .int 0, .int 0, .int 0, .int 0, .int 0, .int 0, .int 0, .int 0, .int 0, .null, .null, .null]] rfl ?_
  refine j_aloadn F dX2_init_9 rfl ?_
  refine j_iloadn F dX2_init_10 rfl ?_
  refine pf_X2_15 F hR.1 (hin rfl) dX2_init_11 rfl rfl 0 rfl (Nat.le_of_ble_eq_true rfl) [obC a 3 [.int p0, .int p1, .int 0, .int 0, .int 0, .int 0, .int 0, .int 0, .int 0, .int 0, .int 0, .int 0, .null, .null, .null]] rfl ?_
  refine j_aloadn F dX2_init_14 rfl ?_
  refine j_iloadn F dX2_init_15 rfl ?_
  refine pf_X2_18 F hR.1 dX2_init_16 rfl rfl 0 rfl (Nat.le_of_ble_eq_true rfl) [obC a 3 [.int p0, .int p1, .int p2, .int 0, .int 0, .int 0, .int 0, .int 0, .int 0, .int 0, .int 0, .int 0, .null, .null, .null]] rfl ?_
  refine j_aloadn F dX2_init_19 rfl ?_
  refine j_iload F dX2_init_20 rfl ?_
  refine pf_X2_21 F hR.1 dX2_init_22 rfl rfl 0 rfl (Nat.le_of_ble_eq_true rfl) [obC a 3 [.int p0, .int p1, .int p2, .int p3, .int 0, .int 0, .int 0, .int 0, .int 0, .int 0, .int 0, .int 0, .null, .null, .null]] rfl ?_
  refine j_aloadn F dX2_init_25 rfl ?_
  refine j_iconst F (v := 0) dX2_init_26 (by decide) ?_
  refine pf_X2_24 F hR.1 dX2_init_27 rfl rfl 0 rfl (Nat.le_of_ble_eq_true rfl) [obC a 3 [.int p0, .int p1, .int p2, .int p3, .int 0, .int 0, .int 0, .int 0, .int 0, .int 0, .int 0, .int 0, .null, .null, .null]] rfl ?_
  refine j_aloadn F dX2_init_30 rfl ?_
  refine j_iconst F (v := (-1)) dX2_init_31 (by decide) ?_
  refine pf_X2_27 F hR.1 dX2_init_32 rfl rfl 0 rfl (Nat.le_of_ble_eq_true rfl) [obC a 3 [.int p0, .int p1, .int p2, .int p3, .int 0, .int 0, .int 0, .int (-1), .int 0, .int 0, .int 0, .int 0, .null, .null, .null]] rfl ?_
  refine j_aloadn F dX2_init_35 rfl ?_
  refine j_iconst F (v := 1) dX2_init_36 (by decide) ?_
  refine j_iload F dX2_init_37 rfl ?_
  refine j_ishl F dX2_init_39 ?_
  refine pf_X2_30 F hR.1 dX2_init_40 rfl rfl 0 rfl (Nat.le_of_ble_eq_true rfl) [obC a 3 [.int p0, .int p1, .int p2, .int p3, .int 0, .int 0, .int 0, .int (-1), .int 0, .int 0, .int 0, .int (1 <<< (p4 &&& 31)), .null, .null, .null]] rfl ?_
  exact j_vret F hR dX2_init_43 (Nat.le_of_ble_eq_true rfl) (Nat.le_of_ble_eq_true rfl) ⟨rfl, rfl⟩
def C_ans0 : Nat → Int32 := upd (upd (upd (upd (fun _ => 0) 0 60) 1 120) 2 240) 3 480
def C_sol0 : Nat → Int32 := upd (upd (upd (upd (fun _ => 0) 0 240) 1 480) 2 960) 3 1920
/-- the class's state at its making -/
def C_v0 : S2 := fun j => match j with
  | 0 => fun i => match i with
    | 1 => 540
    | 2 => 1020
    | _ => 0
  | 1 => C_ans0
  | 2 => C_sol0
  | _ => fun _ => 0
def C_r0 : R2 := fun _ _ => none
def C_g0 (D : va_G) (a h an so la lt : Nat) : CG := (fun j i => if j = 0 then (match i with
  | 0 => a
  | 1 => h
  | 2 => an
  | 3 => so
  | 4 => la
  | _ => lt) else 0, 0, 0, (dE D, 0, 0, fun _ => none), (dE D, 0, 0, fun _ => none))
theorem C_g0_GI (D : va_G) (a h an so la lt : Nat) : GI D (C_g0 D a h an so la lt) := ⟨Nat.zero_le 6, Nat.zero_le 20, ⟨Nat.zero_le 0, Nat.zero_le 100, fun i hi => absurd hi (Nat.not_lt_zero _), Or.inl rfl⟩, ⟨Nat.zero_le 0, Nat.zero_le 100, fun i hi => absurd hi (Nat.not_lt_zero _), Or.inl rfl⟩, fun i j hi => absurd hi (Nat.not_lt_zero _), fun _ => rfl, fun _ => rfl⟩
theorem C_g0_CI (D : va_G) (a h an so la lt : Nat) : CI (C_g0 D a h an so la lt) C_v0 C_r0 := ⟨fun t ht => absurd ht (Nat.not_lt_zero _), fun t ht => absurd ht (Nat.not_lt_zero _), fun t ht => absurd ht (Nat.not_lt_zero _), fun t ht => absurd ht (Nat.not_lt_zero _), fun t ht => absurd ht (Nat.not_lt_zero _)⟩
set_option maxRecDepth 100000 in
set_option maxHeartbeats 4000000 in
theorem qX3_init (l : Launch) (hst : l.stackTraces = false) (D : va_G) (a : Nat) : CM l D yX3_init cX3_init 1 none 4 90 5 16 [(a, .inr (4, [.null, .null, .null, .null, .null, .int 0]))] [.ref a] (fun u w => u = none ∧ ∃ h an so la lt, w = CW D (C_g0 D a h an so la lt) C_v0 C_r0) := by
  refine CM_of [some (.ref a)] hst (by decide +kernel) rfl (Nat.le_of_ble_eq_true rfl) (fun k F hl hD hin hR => ?_)
  subst hl hD
  refine j_aloadn F dX3_init_0 rfl ?_
  refine j_objInit F um_X3_1 un_objectInit ud_objectInit dX3_init_1 ⟨(Nat.le_of_ble_eq_true rfl), (Nat.le_of_ble_eq_true rfl)⟩ ?_
  refine j_aloadn F dX3_init_4 rfl ?_
  refine j_new F hR.1 tyX1 inU_X1 tyX1_ok ul_X3_7 uk_X1 ui_X1 (ci := 2) rfl (fs := [.int 0, .int 0]) (by decide +kernel) dX3_init_5 ⟨(Nat.le_of_ble_eq_true rfl), (Nat.le_of_ble_eq_true rfl)⟩ (fun q1 => ?_)
  refine j_ws [obC a 4 [.null, .null, .null, .null, .null, .int 0], obC q1 2 [.int 0, .int 0]] rfl ?_
  refine j_dup F dX3_init_8 rfl ?_
  refine j_perm ([obC q1 2 [.int 0, .int 0]] ++ [obC a 4 [.null, .null, .null, .null, .null, .int 0]]) (List.perm_append_comm (l₁ := [obC a 4 [.null, .null, .null, .null, .null, .int 0]]) (l₂ := [obC q1 2 [.int 0, .int 0]])) ?_
  refine j_cmI F hR.1 (qX1_init (kl k) hst (kD k) q1) lk_X3_9 dX3_init_9 ⟨(Nat.le_of_ble_eq_true rfl), (Nat.le_of_ble_eq_true rfl)⟩ rfl (Nat.le_of_ble_eq_true rfl) ⟨(Nat.le_of_ble_eq_true rfl), (Nat.le_of_ble_eq_true rfl)⟩ (fun u w1 hp => ?_)
  obtain ⟨rfl, rfl⟩ := hp
  refine j_perm ([obC a 4 [.null, .null, .null, .null, .null, .int 0]] ++ [obC q1 2 [.int 540, .int 1020]]) (List.perm_append_comm (l₁ := [obC q1 2 [.int 540, .int 1020]]) (l₂ := [obC a 4 [.null, .null, .null, .null, .null, .int 0]])) ?_
  refine j_ws [obC a 4 [.null, .null, .null, .null, .null, .int 0], obC q1 2 [.int 540, .int 1020]] rfl ?_
  refine j_st [.ref q1, .ref a] rfl ?_
  refine pf_X3_10 F hR.1 (hin rfl) dX3_init_12 rfl rfl 0 rfl (Nat.le_of_ble_eq_true rfl) [obC a 4 [.ref q1, .null, .null, .null, .null, .int 0], obC q1 2 [.int 540, .int 1020]] rfl ?_
  refine j_aloadn F dX3_init_15 rfl ?_
  refine j_iconst F (v := 4) dX3_init_16 (by decide) ?_
  refine j_newa F hR.1 (N := 4) (by decide) (by decide) dX3_init_17 (Nat.le_of_ble_eq_true rfl) (Nat.le_of_ble_eq_true rfl) (fun q2 => ?_)
  refine j_ws [obC a 4 [.ref q1, .null, .null, .null, .null, .int 0], obC q1 2 [.int 540, .int 1020], ain (kD k) q2 4 (fun _ => 0)] rfl ?_
  refine j_dup F dX3_init_19 rfl ?_
  refine j_iconst F (v := 0) dX3_init_20 (by decide) ?_
  refine j_bipush F (v := 60) dX3_init_21 (by decide) ?_
  refine j_iast F hR.1 dX3_init_23 2 rfl (by unfold vp_in; decide +kernel) [obC a 4 [.ref q1, .null, .null, .null, .null, .int 0], obC q1 2 [.int 540, .int 1020], ain (kD k) q2 4 (upd (fun _ => 0) 0 60)] rfl ?_
  refine j_dup F dX3_init_24 rfl ?_
  refine j_iconst F (v := 1) dX3_init_25 (by decide) ?_
  refine j_bipush F (v := 120) dX3_init_26 (by decide) ?_
  refine j_iast F hR.1 dX3_init_28 2 rfl (by unfold vp_in; decide +kernel) [obC a 4 [.ref q1, .null, .null, .null, .null, .int 0], obC q1 2 [.int 540, .int 1020], ain (kD k) q2 4 (upd (upd (fun _ => 0) 0 60) 1 120)] rfl ?_
  refine j_dup F dX3_init_29 rfl ?_
  refine j_iconst F (v := 2) dX3_init_30 (by decide) ?_
  refine j_sipush F (v := 240) dX3_init_31 (by decide) ?_
  refine j_iast F hR.1 dX3_init_34 2 rfl (by unfold vp_in; decide +kernel) [obC a 4 [.ref q1, .null, .null, .null, .null, .int 0], obC q1 2 [.int 540, .int 1020], ain (kD k) q2 4 (upd (upd (upd (fun _ => 0) 0 60) 1 120) 2 240)] rfl ?_
  refine j_dup F dX3_init_35 rfl ?_
  refine j_iconst F (v := 3) dX3_init_36 (by decide) ?_
  refine j_sipush F (v := 480) dX3_init_37 (by decide) ?_
  refine j_iast F hR.1 dX3_init_40 2 rfl (by unfold vp_in; decide +kernel) [obC a 4 [.ref q1, .null, .null, .null, .null, .int 0], obC q1 2 [.int 540, .int 1020], ain (kD k) q2 4 (upd (upd (upd (upd (fun _ => 0) 0 60) 1 120) 2 240) 3 480)] rfl ?_
  refine pf_X3_16 F hR.1 (hin rfl) dX3_init_41 rfl rfl 0 rfl (Nat.le_of_ble_eq_true rfl) [obC a 4 [.ref q1, .ref q2, .null, .null, .null, .int 0], obC q1 2 [.int 540, .int 1020], ain (kD k) q2 4 (upd (upd (upd (upd (fun _ => 0) 0 60) 1 120) 2 240) 3 480)] rfl ?_
  refine j_aloadn F dX3_init_44 rfl ?_
  refine j_iconst F (v := 4) dX3_init_45 (by decide) ?_
  refine j_newa F hR.1 (N := 4) (by decide) (by decide) dX3_init_46 (Nat.le_of_ble_eq_true rfl) (Nat.le_of_ble_eq_true rfl) (fun q3 => ?_)
  refine j_ws [obC a 4 [.ref q1, .ref q2, .null, .null, .null, .int 0], obC q1 2 [.int 540, .int 1020], ain (kD k) q2 4 (upd (upd (upd (upd (fun _ => 0) 0 60) 1 120) 2 240) 3 480), ain (kD k) q3 4 (fun _ => 0)] rfl ?_
  refine j_dup F dX3_init_48 rfl ?_
  refine j_iconst F (v := 0) dX3_init_49 (by decide) ?_
  refine j_sipush F (v := 240) dX3_init_50 (by decide) ?_
  refine j_iast F hR.1 dX3_init_53 3 rfl (by unfold vp_in; decide +kernel) [obC a 4 [.ref q1, .ref q2, .null, .null, .null, .int 0], obC q1 2 [.int 540, .int 1020], ain (kD k) q2 4 (upd (upd (upd (upd (fun _ => 0) 0 60) 1 120) 2 240) 3 480), ain (kD k) q3 4 (upd (fun _ => 0) 0 240)] rfl ?_
  refine j_dup F dX3_init_54 rfl ?_
  refine j_iconst F (v := 1) dX3_init_55 (by decide) ?_
  refine j_sipush F (v := 480) dX3_init_56 (by decide) ?_
  refine j_iast F hR.1 dX3_init_59 3 rfl (by unfold vp_in; decide +kernel) [obC a 4 [.ref q1, .ref q2, .null, .null, .null, .int 0], obC q1 2 [.int 540, .int 1020], ain (kD k) q2 4 (upd (upd (upd (upd (fun _ => 0) 0 60) 1 120) 2 240) 3 480), ain (kD k) q3 4 (upd (upd (fun _ => 0) 0 240) 1 480)] rfl ?_
  refine j_dup F dX3_init_60 rfl ?_
  refine j_iconst F (v := 2) dX3_init_61 (by decide) ?_
  refine j_sipush F (v := 960) dX3_init_62 (by decide) ?_
  refine j_iast F hR.1 dX3_init_65 3 rfl (by unfold vp_in; decide +kernel) [obC a 4 [.ref q1, .ref q2, .null, .null, .null, .int 0], obC q1 2 [.int 540, .int 1020], ain (kD k) q2 4 (upd (upd (upd (upd (fun _ => 0) 0 60) 1 120) 2 240) 3 480), ain (kD k) q3 4 (upd (upd (upd (fun _ => 0) 0 240) 1 480) 2 960)] rfl ?_
  refine j_dup F dX3_init_66 rfl ?_
  refine j_iconst F (v := 3) dX3_init_67 (by decide) ?_
  refine j_sipush F (v := 1920) dX3_init_68 (by decide) ?_
  refine j_iast F hR.1 dX3_init_71 3 rfl (by unfold vp_in; decide +kernel) [obC a 4 [.ref q1, .ref q2, .null, .null, .null, .int 0], obC q1 2 [.int 540, .int 1020], ain (kD k) q2 4 (upd (upd (upd (upd (fun _ => 0) 0 60) 1 120) 2 240) 3 480), ain (kD k) q3 4 (upd (upd (upd (upd (fun _ => 0) 0 240) 1 480) 2 960) 3 1920)] rfl ?_
  refine pf_X3_20 F hR.1 (hin rfl) dX3_init_72 rfl rfl 0 rfl (Nat.le_of_ble_eq_true rfl) [obC a 4 [.ref q1, .ref q2, .ref q3, .null, .null, .int 0], obC q1 2 [.int 540, .int 1020], ain (kD k) q2 4 (upd (upd (upd (upd (fun _ => 0) 0 60) 1 120) 2 240) 3 480), ain (kD k) q3 4 (upd (upd (upd (upd (fun _ => 0) 0 240) 1 480) 2 960) 3 1920)] rfl ?_
  refine j_aloadn F dX3_init_75 rfl ?_
  refine j_new F hR.1 tyJx4a65c inU_Jx4a65c tyJx4a65c_ok ul_X3_23 uk_Jx4a65c ui_Jx4a65c (ci := 0) rfl (fs := [.int 0, .null, .int 0]) (by decide +kernel) dX3_init_76 ⟨(Nat.le_of_ble_eq_true rfl), (Nat.le_of_ble_eq_true rfl)⟩ (fun q4 => ?_)
  refine j_ws [obC a 4 [.ref q1, .ref q2, .ref q3, .null, .null, .int 0], obC q1 2 [.int 540, .int 1020], ain (kD k) q2 4 (upd (upd (upd (upd (fun _ => 0) 0 60) 1 120) 2 240) 3 480), ain (kD k) q3 4 (upd (upd (upd (upd (fun _ => 0) 0 240) 1 480) 2 960) 3 1920), obC q4 0 [.int 0, .null, .int 0]] rfl ?_
  refine j_dup F dX3_init_79 rfl ?_
  refine j_perm ([obC q4 0 [.int 0, .null, .int 0]] ++ [obC a 4 [.ref q1, .ref q2, .ref q3, .null, .null, .int 0], obC q1 2 [.int 540, .int 1020], ain (kD k) q2 4 (upd (upd (upd (upd (fun _ => 0) 0 60) 1 120) 2 240) 3 480), ain (kD k) q3 4 (upd (upd (upd (upd (fun _ => 0) 0 240) 1 480) 2 960) 3 1920)]) (List.perm_append_comm (l₁ := [obC a 4 [.ref q1, .ref q2, .ref q3, .null, .null, .int 0], obC q1 2 [.int 540, .int 1020], ain (kD k) q2 4 (upd (upd (upd (upd (fun _ => 0) 0 60) 1 120) 2 240) 3 480), ain (kD k) q3 4 (upd (upd (upd (upd (fun _ => 0) 0 240) 1 480) 2 960) 3 1920)]) (l₂ := [obC q4 0 [.int 0, .null, .int 0]])) ?_
  refine j_cmI F hR.1 (qJ_init (kl k) hst (kD k) q4) lk_X3_25 dX3_init_80 ⟨(Nat.le_of_ble_eq_true rfl), (Nat.le_of_ble_eq_true rfl)⟩ rfl (Nat.le_of_ble_eq_true rfl) ⟨(Nat.le_of_ble_eq_true rfl), (Nat.le_of_ble_eq_true rfl)⟩ (fun u w1 hp => ?_)
  obtain ⟨rfl, rfl⟩ := hp
  refine j_perm ([obC a 4 [.ref q1, .ref q2, .ref q3, .null, .null, .int 0], obC q1 2 [.int 540, .int 1020], ain (kD k) q2 4 (upd (upd (upd (upd (fun _ => 0) 0 60) 1 120) 2 240) 3 480), ain (kD k) q3 4 (upd (upd (upd (upd (fun _ => 0) 0 240) 1 480) 2 960) 3 1920)] ++ [lsC q4 (dE (kD k)) 0 0]) (List.perm_append_comm (l₁ := [lsC q4 (dE (kD k)) 0 0]) (l₂ := [obC a 4 [.ref q1, .ref q2, .ref q3, .null, .null, .int 0], obC q1 2 [.int 540, .int 1020], ain (kD k) q2 4 (upd (upd (upd (upd (fun _ => 0) 0 60) 1 120) 2 240) 3 480), ain (kD k) q3 4 (upd (upd (upd (upd (fun _ => 0) 0 240) 1 480) 2 960) 3 1920)])) ?_
  refine j_ws [obC a 4 [.ref q1, .ref q2, .ref q3, .null, .null, .int 0], obC q1 2 [.int 540, .int 1020], ain (kD k) q2 4 (upd (upd (upd (upd (fun _ => 0) 0 60) 1 120) 2 240) 3 480), ain (kD k) q3 4 (upd (upd (upd (upd (fun _ => 0) 0 240) 1 480) 2 960) 3 1920), lsC q4 (dE (kD k)) 0 0] rfl ?_
  refine j_st [.ref q4, .ref a] rfl ?_
  refine pf_X3_26 F hR.1 (hin rfl) dX3_init_83 rfl rfl 0 rfl (Nat.le_of_ble_eq_true rfl) [obC a 4 [.ref q1, .ref q2, .ref q3, .ref q4, .null, .int 0], obC q1 2 [.int 540, .int 1020], ain (kD k) q2 4 (upd (upd (upd (upd (fun _ => 0) 0 60) 1 120) 2 240) 3 480), ain (kD k) q3 4 (upd (upd (upd (upd (fun _ => 0) 0 240) 1 480) 2 960) 3 1920), lsC q4 (dE (kD k)) 0 0] rfl ?_
  refine j_aloadn F dX3_init_86 rfl ?_
  refine j_new F hR.1 tyJx4a65c inU_Jx4a65c tyJx4a65c_ok ul_X3_23 uk_Jx4a65c ui_Jx4a65c (ci := 0) rfl (fs := [.int 0, .null, .int 0]) (by decide +kernel) dX3_init_87 ⟨(Nat.le_of_ble_eq_true rfl), (Nat.le_of_ble_eq_true rfl)⟩ (fun q5 => ?_)
  refine j_ws [obC a 4 [.ref q1, .ref q2, .ref q3, .ref q4, .null, .int 0], obC q1 2 [.int 540, .int 1020], ain (kD k) q2 4 (upd (upd (upd (upd (fun _ => 0) 0 60) 1 120) 2 240) 3 480), ain (kD k) q3 4 (upd (upd (upd (upd (fun _ => 0) 0 240) 1 480) 2 960) 3 1920), lsC q4 (dE (kD k)) 0 0, obC q5 0 [.int 0, .null, .int 0]] rfl ?_
  refine j_dup F dX3_init_90 rfl ?_
  refine j_perm ([obC q5 0 [.int 0, .null, .int 0]] ++ [obC a 4 [.ref q1, .ref q2, .ref q3, .ref q4, .null, .int 0], obC q1 2 [.int 540, .int 1020], ain (kD k) q2 4 (upd (upd (upd (upd (fun _ => 0) 0 60) 1 120) 2 240) 3 480), ain (kD k) q3 4 (upd (upd (upd (upd (fun _ => 0) 0 240) 1 480) 2 960) 3 1920), lsC q4 (dE (kD k)) 0 0]) (List.perm_append_comm (l₁ := [obC a 4 [.ref q1, .ref q2, .ref q3, .ref q4, .null, .int 0], obC q1 2 [.int 540, .int 1020], ain (kD k) q2 4 (upd (upd (upd (upd (fun _ => 0) 0 60) 1 120) 2 240) 3 480), ain (kD k) q3 4 (upd (upd (upd (upd (fun _ => 0) 0 240) 1 480) 2 960) 3 1920), lsC q4 (dE (kD k)) 0 0]) (l₂ := [obC q5 0 [.int 0, .null, .int 0]])) ?_
  refine j_cmI F hR.1 (qJ_init (kl k) hst (kD k) q5) lk_X3_25 dX3_init_91 ⟨(Nat.le_of_ble_eq_true rfl), (Nat.le_of_ble_eq_true rfl)⟩ rfl (Nat.le_of_ble_eq_true rfl) ⟨(Nat.le_of_ble_eq_true rfl), (Nat.le_of_ble_eq_true rfl)⟩ (fun u w1 hp => ?_)
  obtain ⟨rfl, rfl⟩ := hp
  refine j_perm ([obC a 4 [.ref q1, .ref q2, .ref q3, .ref q4, .null, .int 0], obC q1 2 [.int 540, .int 1020], ain (kD k) q2 4 (upd (upd (upd (upd (fun _ => 0) 0 60) 1 120) 2 240) 3 480), ain (kD k) q3 4 (upd (upd (upd (upd (fun _ => 0) 0 240) 1 480) 2 960) 3 1920), lsC q4 (dE (kD k)) 0 0] ++ [lsC q5 (dE (kD k)) 0 0]) (List.perm_append_comm (l₁ := [lsC q5 (dE (kD k)) 0 0]) (l₂ := [obC a 4 [.ref q1, .ref q2, .ref q3, .ref q4, .null, .int 0], obC q1 2 [.int 540, .int 1020], ain (kD k) q2 4 (upd (upd (upd (upd (fun _ => 0) 0 60) 1 120) 2 240) 3 480), ain (kD k) q3 4 (upd (upd (upd (upd (fun _ => 0) 0 240) 1 480) 2 960) 3 1920), lsC q4 (dE (kD k)) 0 0])) ?_
  refine j_ws [obC a 4 [.ref q1, .ref q2, .ref q3, .ref q4, .null, .int 0], obC q1 2 [.int 540, .int 1020], ain (kD k) q2 4 (upd (upd (upd (upd (fun _ => 0) 0 60) 1 120) 2 240) 3 480), ain (kD k) q3 4 (upd (upd (upd (upd (fun _ => 0) 0 240) 1 480) 2 960) 3 1920), lsC q4 (dE (kD k)) 0 0, lsC q5 (dE (kD k)) 0 0] rfl ?_
  refine j_st [.ref q5, .ref a] rfl ?_
  refine pf_X3_30 F hR.1 (hin rfl) dX3_init_94 rfl rfl 0 rfl (Nat.le_of_ble_eq_true rfl) [obC a 4 [.ref q1, .ref q2, .ref q3, .ref q4, .ref q5, .int 0], obC q1 2 [.int 540, .int 1020], ain (kD k) q2 4 (upd (upd (upd (upd (fun _ => 0) 0 60) 1 120) 2 240) 3 480), ain (kD k) q3 4 (upd (upd (upd (upd (fun _ => 0) 0 240) 1 480) 2 960) 3 1920), lsC q4 (dE (kD k)) 0 0, lsC q5 (dE (kD k)) 0 0] rfl ?_
  refine j_aloadn F dX3_init_97 rfl ?_
  refine j_iconst F (v := 0) dX3_init_98 (by decide) ?_
  refine pf_X3_33 F hR.1 dX3_init_99 rfl rfl 0 rfl (Nat.le_of_ble_eq_true rfl) [obC a 4 [.ref q1, .ref q2, .ref q3, .ref q4, .ref q5, .int 0], obC q1 2 [.int 540, .int 1020], ain (kD k) q2 4 (upd (upd (upd (upd (fun _ => 0) 0 60) 1 120) 2 240) 3 480), ain (kD k) q3 4 (upd (upd (upd (upd (fun _ => 0) 0 240) 1 480) 2 960) 3 1920), lsC q4 (dE (kD k)) 0 0, lsC q5 (dE (kD k)) 0 0] rfl ?_
  exact j_vret F hR dX3_init_102 (Nat.le_of_ble_eq_true rfl) (Nat.le_of_ble_eq_true rfl) ⟨rfl, q1, q2, q3, q4, q5, rfl⟩
def M_s0 : S2 := fun j => match j with
  | 0 => fun i => match i with
    | 2 => 540
    | 3 => 1020
    | _ => 0
  | 4 => C_ans0
  | 5 => C_sol0
  | _ => fun _ => 0