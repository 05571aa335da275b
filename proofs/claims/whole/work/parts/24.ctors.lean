/-! THE CONSTRUCTORS, by program -/
abbrev obC (a ci : Nat) (fs : List Value) : Nat × va_E := (a, .inr (ci, fs))
set_option maxRecDepth 100000 in
set_option maxHeartbeats 4000000 in
theorem qX0_init (l : Launch) (hst : l.stackTraces = false) (D : va_G) (a : Nat) (p0 : Int32) (p1 : Int32) (p2 : Int32) (p3 : Int32) (p4 : Int32) : CM l D yX0_init cX0_init 6 none 1 22 0 0 [(a, .inr (1, [.int 0, .int 0, .int 0, .int 0, .int 0, .null, .int 0, .int 0]))] [.ref a, .int p0, .int p1, .int p2, .int p3, .int p4] (dP none [obC a 1 [.int p0, .int p2, .int p3, .int p4, .int p1, .null, .int 0, .int 0]]) := by
  refine CM_of [some (.ref a), some (.int p0), some (.int p1), some (.int p2), some (.int p3), some (.int p4)] hst (by decide +kernel) rfl (Nat.le_of_ble_eq_true rfl) (fun k F hl hD hin hR => ?_)
  subst hl hD
  refine j_aloadn F dX0_init_0 rfl ?_
  refine j_objInit F um_X0_3 un_objectInit ud_objectInit dX0_init_1 ⟨(Nat.le_of_ble_eq_true rfl), (Nat.le_of_ble_eq_true rfl)⟩ ?_
  refine j_aloadn F dX0_init_4 rfl ?_
  refine j_iloadn F dX0_init_5 rfl ?_
  refine pf_X0_9 F hR.1 (hin rfl) dX0_init_6 rfl rfl 0 rfl (Nat.le_of_ble_eq_true rfl) [obC a 1 [.int p0, .int 0, .int 0, .int 0, .int 0, .null, .int 0, .int 0]] rfl ?_
  refine j_aloadn F dX0_init_9 rfl ?_
  refine j_iloadn F dX0_init_10 rfl ?_
  refine pf_X0_15 F hR.1 dX0_init_11 rfl rfl 0 rfl (Nat.le_of_ble_eq_true rfl) [obC a 1 [.int p0, .int 0, .int 0, .int 0, .int p1, .null, .int 0, .int 0]] rfl ?_
  refine j_aloadn F dX0_init_14 rfl ?_
  refine j_iloadn F dX0_init_15 rfl ?_
  refine pf_X0_18 F hR.1 (hin rfl) dX0_init_16 rfl rfl 0 rfl (Nat.le_of_ble_eq_true rfl) [obC a 1 [.int p0, .int p2, .int 0, .int 0, .int p1, .null, .int 0, .int 0]] rfl ?_
  refine j_aloadn F dX0_init_19 rfl ?_
  refine j_iload F dX0_init_20 rfl ?_
  refine pf_X0_21 F hR.1 (hin rfl) dX0_init_22 rfl rfl 0 rfl (Nat.le_of_ble_eq_true rfl) [obC a 1 [.int p0, .int p2, .int p3, .int 0, .int p1, .null, .int 0, .int 0]] rfl ?_
  refine j_aloadn F dX0_init_25 rfl ?_
  refine j_iload F dX0_init_26 rfl ?_
  refine pf_X0_24 F hR.1 (hin rfl) dX0_init_28 rfl rfl 0 rfl (Nat.le_of_ble_eq_true rfl) [obC a 1 [.int p0, .int p2, .int p3, .int p4, .int p1, .null, .int 0, .int 0]] rfl ?_
  exact j_vret F hR dX0_init_31 (Nat.le_of_ble_eq_true rfl) (Nat.le_of_ble_eq_true rfl) ⟨rfl, rfl⟩
set_option maxRecDepth 100000 in
set_option maxHeartbeats 4000000 in
theorem qX1_init (l : Launch) (hst : l.stackTraces = false) (D : va_G) (a : Nat) : CM l D yX1_init cX1_init 1 none 1 22 0 0 [(a, .inr (2, [.int 0, .int 0]))] [.ref a] (dP none [obC a 2 [.int 540, .int 1020]]) := by
  refine CM_of [some (.ref a)] hst (by decide +kernel) rfl (Nat.le_of_ble_eq_true rfl) (fun k F hl hD hin hR => ?_)
  subst hl hD
  refine j_aloadn F dX1_init_0 rfl ?_
  refine j_objInit F um_X1_3 un_objectInit ud_objectInit dX1_init_1 ⟨(Nat.le_of_ble_eq_true rfl), (Nat.le_of_ble_eq_true rfl)⟩ ?_
  refine j_aloadn F dX1_init_4 rfl ?_
  refine j_sipush F (v := 540) dX1_init_5 (by decide) ?_
  refine pf_X1_9 F hR.1 dX1_init_8 rfl rfl 0 rfl (Nat.le_of_ble_eq_true rfl) [obC a 2 [.int 540, .int 0]] rfl ?_
  refine j_aloadn F dX1_init_11 rfl ?_
  refine j_sipush F (v := 1020) dX1_init_12 (by decide) ?_
  refine pf_X1_15 F hR.1 dX1_init_15 rfl rfl 0 rfl (Nat.le_of_ble_eq_true rfl) [obC a 2 [.int 540, .int 1020]] rfl ?_
  exact j_vret F hR dX1_init_18 (Nat.le_of_ble_eq_true rfl) (Nat.le_of_ble_eq_true rfl) ⟨rfl, rfl⟩
set_option maxRecDepth 100000 in
set_option maxHeartbeats 4000000 in
theorem qX2_init (l : Launch) (hst : l.stackTraces = false) (D : va_G) (a : Nat) (p0 : Int32) (p1 : Int32) (p2 : Int32) (p3 : Int32) (p4 : Int32) : CM l D yX2_init cX2_init 6 none 1 22 0 0 [(a, .inr (3, [.int 0, .int 0, .int 0, .int 0, .int 0, .int 0, .int 0, .int 0, .int 0, .int 0, .int 0, .int 0, .null, .null, .null]))] [.ref a, .int p0, .int p1, .int p2, .int p3, .int p4] (dP none [obC a 3 [.int p0, .int p1, .int p2, .int p3, .int 0, .int 0, .int 0, .int (-1), .int 0, .int 0, .int 0, .int (1 <<< (p4 &&& 31)), .null, .null, .null]]) := by
  refine CM_of [some (.ref a), some (.int p0), some (.int p1), some (.int p2), some (.int p3), some (.int p4)] hst (by decide +kernel) rfl (Nat.le_of_ble_eq_true rfl) (fun k F hl hD hin hR => ?_)
  subst hl hD
  refine j_aloadn F dX2_init_0 rfl ?_
  refine j_objInit F um_X2_3 un_objectInit ud_objectInit dX2_init_1 ⟨(Nat.le_of_ble_eq_true rfl), (Nat.le_of_ble_eq_true rfl)⟩ ?_
  refine j_aloadn F dX2_init_4 rfl ?_
  refine j_iloadn F dX2_init_5 rfl ?_
  refine pf_X2_9 F hR.1 (hin rfl) dX2_init_6 rfl rfl 0 rfl (Nat.le_of_ble_eq_true rfl) [obC a 3 [.int p0, .int 0, .int 0, .int 0, .int 0, .int 0, .int 0, .int 0, .int 0, .int 0, .int 0, .int 0, .null, .null, .null]] rfl ?_
  refine j_aloadn F dX2_init_9 rfl ?_
  refine j_iloadn F dX2_init_10 rfl ?_
  refine pf_X2_15 F hR.1 (hin rfl) dX2_init_11 rfl rfl 0 rfl (Nat.le_of_ble_eq_true rfl) [obC a 3 [.int p0, .int p1, .int 0, .int 0, .int 0, .int 0, .int 0, .int 0, .int 0, .int 0, .int 0, .int 0, .null, .null, .null]] rfl ?_
  refine j_aloadn F dX2_init_14 rfl ?_
  refine j_iloadn F dX2_init_15 rfl ?_
  refine pf_X2_18 F hR.1 dX2_init_16 rfl rfl 0 rfl (Nat.le_of_ble_eq_true rfl) [obC a 3 [.int p0, .int p1, .int p2, .int 0, .int 0, .int 0, .int 0, .int 0, .int 0, .int 0, .int 0, .int 0, .null, .null, .null]] rfl ?_
  refine j_aloadn F dX2_init_19 rfl ?_
  refine j_iload F dX2_init_20 rfl ?_
  refine pf_X2_21 F hR.1 dX2_init_22 rfl rfl 0 rfl (Nat.le_of_ble_eq_true rfl) [obC a 3 [.int p0, .int p1, .int p2, .int p3, .int 0, .int 0, .int 0, .int 0, .int 0, .int 0, .int 0, .int 0, .null, .null, .null]] rfl ?_
  refine j_aloadn F dX2_init_25 rfl ?_
  refine j_iconst F (v := 0) dX2_init_26 (by decide) ?_
  refine pf_X2_24 F hR.1 dX2_init_27 rfl rfl 0 rfl (Nat.le_of_ble_eq_true rfl) [obC a 3 [.int p0, .int p1, .int p2, .int p3, .int 0, .int 0, .int 0, .int 0, .int 0, .int 0, .int 0, .int 0, .null, .null, .null]] rfl ?_
  refine j_aloadn F dX2_init_30 rfl ?_
  refine j_iconst F (v := (-1)) dX2_init_31 (by decide) ?_
  refine pf_X2_27 F hR.1 dX2_init_32 rfl rfl 0 rfl (Nat.le_of_ble_eq_true rfl) [obC a 3 [.int p0, .int p1, .int p2, .int p3, .int 0, .int 0, .int 0, .int (-1), .int 0, .int 0, .int 0, .int 0, .null, .null, .null]] rfl ?_
  refine j_aloadn F dX2_init_35 rfl ?_
  refine j_iconst F (v := 1) dX2_init_36 (by decide) ?_
  refine j_iload F dX2_init_37 rfl ?_
  refine j_ishl F dX2_init_39 ?_
  refine pf_X2_30 F hR.1 dX2_init_40 rfl rfl 0 rfl (Nat.le_of_ble_eq_true rfl) [obC a 3 [.int p0, .int p1, .int p2, .int p3, .int 0, .int 0, .int 0, .int (-1), .int 0, .int 0, .int 0, .int (1 <<< (p4 &&& 31)), .null, .null, .null]] rfl ?_
  exact j_vret F hR dX2_init_43 (Nat.le_of_ble_eq_true rfl) (Nat.le_of_ble_eq_true rfl) ⟨rfl, rfl⟩
def C_ans0 : Nat → Int32 := upd (upd (upd (upd (fun _ => 0) 0 60) 1 120) 2 240) 3 480
def C_sol0 : Nat → Int32 := upd (upd (upd (upd (fun _ => 0) 0 240) 1 480) 2 960) 3 1920
/-- the class's state at its making -/
def C_v0 : S2 := fun j => match j with
  | 0 => fun i => match i with
    | 1 => 540
    | 2 => 1020
    | _ => 0
  | 1 => C_ans0
  | 2 => C_sol0
  | _ => fun _ => 0
def C_r0 : R2 := fun _ _ => none
def C_g0 (D : va_G) (a h an so la lt : Nat) : CG := (fun j i => if j = 0 then (match i with
  | 0 => a
  | 1 => h
  | 2 => an
  | 3 => so
  | 4 => la
  | _ => lt) else 0, 0, 0, (dE D, 0, 0, fun _ => none), (dE D, 0, 0, fun _ => none))
theorem C_g0_GI (D : va_G) (a h an so la lt : Nat) : GI D (C_g0 D a h an so la lt) := ⟨Nat.zero_le 6, Nat.zero_le 20, ⟨Nat.zero_le 0, Nat.zero_le 100, fun i hi => absurd hi (Nat.not_lt_zero _), Or.inl rfl⟩, ⟨Nat.zero_le 0, Nat.zero_le 100, fun i hi => absurd hi (Nat.not_lt_zero _), Or.inl rfl⟩, fun i j hi => absurd hi (Nat.not_lt_zero _), fun _ => rfl, fun _ => rfl⟩
theorem C_g0_CI (D : va_G) (a h an so la lt : Nat) : CI (C_g0 D a h an so la lt) C_v0 C_r0 := ⟨fun t ht => absurd ht (Nat.not_lt_zero _), fun t ht => absurd ht (Nat.not_lt_zero _), fun t ht => absurd ht (Nat.not_lt_zero _), fun t ht => absurd ht (Nat.not_lt_zero _), fun t ht => absurd ht (Nat.not_lt_zero _)⟩
set_option maxRecDepth 100000 in
set_option maxHeartbeats 4000000 in
theorem qX3_init (l : Launch) (hst : l.stackTraces = false) (D : va_G) (a : Nat) : CM l D yX3_init cX3_init 1 none 4 90 5 16 [(a, .inr (4, [.null, .null, .null, .null, .null, .int 0]))] [.ref a] (fun u w => u = none ∧ ∃ h an so la lt, w = CW D (C_g0 D a h an so la lt) C_v0 C_r0) := by
  refine CM_of [some (.ref a)] hst (by decide +kernel) rfl (Nat.le_of_ble_eq_true rfl) (fun k F hl hD hin hR => ?_)
  subst hl hD
  refine j_aloadn F dX3_init_0 rfl ?_
  refine j_objInit F um_X3_1 un_objectInit ud_objectInit dX3_init_1 ⟨(Nat.le_of_ble_eq_true rfl), (Nat.le_of_ble_eq_true rfl)⟩ ?_
  refine j_aloadn F dX3_init_4 rfl ?_
  refine j_new F hR.1 tyX1 inU_X1 tyX1_ok ul_X3_7 uk_X1 ui_X1 (ci := 2) rfl (fs := [.int 0, .int 0]) (by decide +kernel) dX3_init_5 ⟨(Nat.le_of_ble_eq_true rfl), (Nat.le_of_ble_eq_true rfl)⟩ (fun q1 => ?_)
  refine j_ws [obC a 4 [.null, .null, .null, .null, .null, .int 0], obC q1 2 [.int 0, .int 0]] rfl ?_
  refine j_dup F dX3_init_8 rfl ?_
  refine j_perm ([obC q1 2 [.int 0, .int 0]] ++ [obC a 4 [.null, .null, .null, .null, .null, .int 0]]) (List.perm_append_comm (l₁ := [obC a 4 [.null, .null, .null, .null, .null, .int 0]]) (l₂ := [obC q1 2 [.int 0, .int 0]])) ?_
  refine j_cmI F hR.1 (qX1_init (kl k) hst (kD k) q1) lk_X3_9 dX3_init_9 ⟨(Nat.le_of_ble_eq_true rfl), (Nat.le_of_ble_eq_true rfl)⟩ rfl (Nat.le_of_ble_eq_true rfl) ⟨(Nat.le_of_ble_eq_true rfl), (Nat.le_of_ble_eq_true rfl)⟩ (fun u w1 hp => ?_)
  obtain ⟨rfl, rfl⟩ := hp
  refine j_perm ([obC a 4 [.null, .null, .null, .null, .null, .int 0]] ++ [obC q1 2 [.int 540, .int 1020]]) (List.perm_append_comm (l₁ := [obC q1 2 [.int 540, .int 1020]]) (l₂ := [obC a 4 [.null, .null, .null, .null, .null, .int 0]])) ?_
  refine j_ws [obC a 4 [.null, .null, .null, .null, .null, .int 0], obC q1 2 [.int 540, .int 1020]] rfl ?_
  refine j_st [.ref q1, .ref a] rfl ?_
  refine pf_X3_10 F hR.1 (hin rfl) dX3_init_12 rfl rfl 0 rfl (Nat.le_of_ble_eq_true rfl) [obC a 4 [.ref q1, .null, .null, .null, .null, .int 0], obC q1 2 [.int 540, .int 1020]] rfl ?_
  refine j_aloadn F dX3_init_15 rfl ?_
  refine j_iconst F (v := 4) dX3_init_16 (by decide) ?_
  refine j_newa F hR.1 (N := 4) (by decide) (by decide) dX3_init_17 (Nat.le_of_ble_eq_true rfl) (Nat.le_of_ble_eq_true rfl) (fun q2 => ?_)
  refine j_ws [obC a 4 [.ref q1, .null, .null, .null, .null, .int 0], obC q1 2 [.int 540, .int 1020], ain (kD k) q2 4 (fun _ => 0)] rfl ?_
  refine j_dup F dX3_init_19 rfl ?_
  refine j_iconst F (v := 0) dX3_init_20 (by decide) ?_
  refine j_bipush F (v := 60) dX3_init_21 (by decide) ?_
  refine j_iast F hR.1 dX3_init_23 2 rfl (by unfold vp_in; decide +kernel) [obC a 4 [.ref q1, .null, .null, .null, .null, .int 0], obC q1 2 [.int 540, .int 1020], ain (kD k) q2 4 (upd (fun _ => 0) 0 60)] rfl ?_
  refine j_dup F dX3_init_24 rfl ?_
  refine j_iconst F (v := 1) dX3_init_25 (by decide) ?_
  refine j_bipush F (v := 120) dX3_init_26 (by decide) ?_
  refine j_iast F hR.1 dX3_init_28 2 rfl (by unfold vp_in; decide +kernel) [obC a 4 [.ref q1, .null, .null, .null, .null, .int 0], obC q1 2 [.int 540, .int 1020], ain (kD k) q2 4 (upd (upd (fun _ => 0) 0 60) 1 120)] rfl ?_
  refine j_dup F dX3_init_29 rfl ?_
  refine j_iconst F (v := 2) dX3_init_30 (by decide) ?_
  refine j_sipush F (v := 240) dX3_init_31 (by decide) ?_
  refine j_iast F hR.1 dX3_init_34 2 rfl (by unfold vp_in; decide +kernel) [obC a 4 [.ref q1, .null, .null, .null, .null, .int 0], obC q1 2 [.int 540, .int 1020], ain (kD k) q2 4 (upd (upd (upd (fun _ => 0) 0 60) 1 120) 2 240)] rfl ?_
  refine j_dup F dX3_init_35 rfl ?_
  refine j_iconst F (v := 3) dX3_init_36 (by decide) ?_
  refine j_sipush F (v := 480) dX3_init_37 (by decide) ?_
  refine j_iast F hR.1 dX3_init_40 2 rfl (by unfold vp_in; decide +kernel) [obC a 4 [.ref q1, .null, .null, .null, .null, .int 0], obC q1 2 [.int 540, .int 1020], ain (kD k) q2 4 (upd (upd (upd (upd (fun _ => 0) 0 60) 1 120) 2 240) 3 480)] rfl ?_
  refine pf_X3_16 F hR.1 (hin rfl) dX3_init_41 rfl rfl 0 rfl (Nat.le_of_ble_eq_true rfl) [obC a 4 [.ref q1, .ref q2, .null, .null, .null, .int 0], obC q1 2 [.int 540, .int 1020], ain (kD k) q2 4 (upd (upd (upd (upd (fun _ => 0) 0 60) 1 120) 2 240) 3 480)] rfl ?_
  refine j_aloadn F dX3_init_44 rfl ?_
  refine j_iconst F (v := 4) dX3_init_45 (by decide) ?_
  refine j_newa F hR.1 (N := 4) (by decide) (by decide) dX3_init_46 (Nat.le_of_ble_eq_true rfl) (Nat.le_of_ble_eq_true rfl) (fun q3 => ?_)
  refine j_ws [obC a 4 [.ref q1, .ref q2, .null, .null, .null, .int 0], obC q1 2 [.int 540, .int 1020], ain (kD k) q2 4 (upd (upd (upd (upd (fun _ => 0) 0 60) 1 120) 2 240) 3 480), ain (kD k) q3 4 (fun _ => 0)] rfl ?_
  refine j_dup F dX3_init_48 rfl ?_
  refine j_iconst F (v := 0) dX3_init_49 (by decide) ?_
  refine j_sipush F (v := 240) dX3_init_50 (by decide) ?_
  refine j_iast F hR.1 dX3_init_53 3 rfl (by unfold vp_in; decide +kernel) [obC a 4 [.ref q1, .ref q2, .null, .null, .null, .int 0], obC q1 2 [.int 540, .int 1020], ain (kD k) q2 4 (upd (upd (upd (upd (fun _ => 0) 0 60) 1 120) 2 240) 3 480), ain (kD k) q3 4 (upd (fun _ => 0) 0 240)] rfl ?_
  refine j_dup F dX3_init_54 rfl ?_
  refine j_iconst F (v := 1) dX3_init_55 (by decide) ?_
  refine j_sipush F (v := 480) dX3_init_56 (by decide) ?_
  refine j_iast F hR.1 dX3_init_59 3 rfl (by unfold vp_in; decide +kernel) [obC a 4 [.ref q1, .ref q2, .null, .null, .null, .int 0], obC q1 2 [.int 540, .int 1020], ain (kD k) q2 4 (upd (upd (upd (upd (fun _ => 0) 0 60) 1 120) 2 240) 3 480), ain (kD k) q3 4 (upd (upd (fun _ => 0) 0 240) 1 480)] rfl ?_
  refine j_dup F dX3_init_60 rfl ?_
  refine j_iconst F (v := 2) dX3_init_61 (by decide) ?_
  refine j_sipush F (v := 960) dX3_init_62 (by decide) ?_
  refine j_iast F hR.1 dX3_init_65 3 rfl (by unfold vp_in; decide +kernel) [obC a 4 [.ref q1, .ref q2, .null, .null, .null, .int 0], obC q1 2 [.int 540, .int 1020], ain (kD k) q2 4 (upd (upd (upd (upd (fun _ => 0) 0 60) 1 120) 2 240) 3 480), ain (kD k) q3 4 (upd (upd (upd (fun _ => 0) 0 240) 1 480) 2 960)] rfl ?_
  refine j_dup F dX3_init_66 rfl ?_
  refine j_iconst F (v := 3) dX3_init_67 (by decide) ?_
  refine j_sipush F (v := 1920) dX3_init_68 (by decide) ?_
  refine j_iast F hR.1 dX3_init_71 3 rfl (by unfold vp_in; decide +kernel) [obC a 4 [.ref q1, .ref q2, .null, .null, .null, .int 0], obC q1 2 [.int 540, .int 1020], ain (kD k) q2 4 (upd (upd (upd (upd (fun _ => 0) 0 60) 1 120) 2 240) 3 480), ain (kD k) q3 4 (upd (upd (upd (upd (fun _ => 0) 0 240) 1 480) 2 960) 3 1920)] rfl ?_
  refine pf_X3_20 F hR.1 (hin rfl) dX3_init_72 rfl rfl 0 rfl (Nat.le_of_ble_eq_true rfl) [obC a 4 [.ref q1, .ref q2, .ref q3, .null, .null, .int 0], obC q1 2 [.int 540, .int 1020], ain (kD k) q2 4 (upd (upd (upd (upd (fun _ => 0) 0 60) 1 120) 2 240) 3 480), ain (kD k) q3 4 (upd (upd (upd (upd (fun _ => 0) 0 240) 1 480) 2 960) 3 1920)] rfl ?_
  refine j_aloadn F dX3_init_75 rfl ?_
  refine j_new F hR.1 tyJx4a65c inU_Jx4a65c tyJx4a65c_ok ul_X3_23 uk_Jx4a65c ui_Jx4a65c (ci := 0) rfl (fs := [.int 0, .null, .int 0]) (by decide +kernel) dX3_init_76 ⟨(Nat.le_of_ble_eq_true rfl), (Nat.le_of_ble_eq_true rfl)⟩ (fun q4 => ?_)
  refine j_ws [obC a 4 [.ref q1, .ref q2, .ref q3, .null, .null, .int 0], obC q1 2 [.int 540, .int 1020], ain (kD k) q2 4 (upd (upd (upd (upd (fun _ => 0) 0 60) 1 120) 2 240) 3 480), ain (kD k) q3 4 (upd (upd (upd (upd (fun _ => 0) 0 240) 1 480) 2 960) 3 1920), obC q4 0 [.int 0, .null, .int 0]] rfl ?_
  refine j_dup F dX3_init_79 rfl ?_
  refine j_perm ([obC q4 0 [.int 0, .null, .int 0]] ++ [obC a 4 [.ref q1, .ref q2, .ref q3, .null, .null, .int 0], obC q1 2 [.int 540, .int 1020], ain (kD k) q2 4 (upd (upd (upd (upd (fun _ => 0) 0 60) 1 120) 2 240) 3 480), ain (kD k) q3 4 (upd (upd (upd (upd (fun _ => 0) 0 240) 1 480) 2 960) 3 1920)]) (List.perm_append_comm (l₁ := [obC a 4 [.ref q1, .ref q2, .ref q3, .null, .null, .int 0], obC q1 2 [.int 540, .int 1020], ain (kD k) q2 4 (upd (upd (upd (upd (fun _ => 0) 0 60) 1 120) 2 240) 3 480), ain (kD k) q3 4 (upd (upd (upd (upd (fun _ => 0) 0 240) 1 480) 2 960) 3 1920)]) (l₂ := [obC q4 0 [.int 0, .null, .int 0]])) ?_
  refine j_cmI F hR.1 (qJ_init (kl k) hst (kD k) q4) lk_X3_25 dX3_init_80 ⟨(Nat.le_of_ble_eq_true rfl), (Nat.le_of_ble_eq_true rfl)⟩ rfl (Nat.le_of_ble_eq_true rfl) ⟨(Nat.le_of_ble_eq_true rfl), (Nat.le_of_ble_eq_true rfl)⟩ (fun u w1 hp => ?_)
  obtain ⟨rfl, rfl⟩ := hp
  refine j_perm ([obC a 4 [.ref q1, .ref q2, .ref q3, .null, .null, .int 0], obC q1 2 [.int 540, .int 1020], ain (kD k) q2 4 (upd (upd (upd (upd (fun _ => 0) 0 60) 1 120) 2 240) 3 480), ain (kD k) q3 4 (upd (upd (upd (upd (fun _ => 0) 0 240) 1 480) 2 960) 3 1920)] ++ [lsC q4 (dE (kD k)) 0 0]) (List.perm_append_comm (l₁ := [lsC q4 (dE (kD k)) 0 0]) (l₂ := [obC a 4 [.ref q1, .ref q2, .ref q3, .null, .null, .int 0], obC q1 2 [.int 540, .int 1020], ain (kD k) q2 4 (upd (upd (upd (upd (fun _ => 0) 0 60) 1 120) 2 240) 3 480), ain (kD k) q3 4 (upd (upd (upd (upd (fun _ => 0) 0 240) 1 480) 2 960) 3 1920)])) ?_
  refine j_ws [obC a 4 [.ref q1, .ref q2, .ref q3, .null, .null, .int 0], obC q1 2 [.int 540, .int 1020], ain (kD k) q2 4 (upd (upd (upd (upd (fun _ => 0) 0 60) 1 120) 2 240) 3 480), ain (kD k) q3 4 (upd (upd (upd (upd (fun _ => 0) 0 240) 1 480) 2 960) 3 1920), lsC q4 (dE (kD k)) 0 0] rfl ?_
  refine j_st [.ref q4, .ref a] rfl ?_
  refine pf_X3_26 F hR.1 (hin rfl) dX3_init_83 rfl rfl 0 rfl (Nat.le_of_ble_eq_true rfl) [obC a 4 [.ref q1, .ref q2, .ref q3, .ref q4, .null, .int 0], obC q1 2 [.int 540, .int 1020], ain (kD k) q2 4 (upd (upd (upd (upd (fun _ => 0) 0 60) 1 120) 2 240) 3 480), ain (kD k) q3 4 (upd (upd (upd (upd (fun _ => 0) 0 240) 1 480) 2 960) 3 1920), lsC q4 (dE (kD k)) 0 0] rfl ?_
  refine j_aloadn F dX3_init_86 rfl ?_
  refine j_new F hR.1 tyJx4a65c inU_Jx4a65c tyJx4a65c_ok ul_X3_23 uk_Jx4a65c ui_Jx4a65c (ci := 0) rfl (fs := [.int 0, .null, .int 0]) (by decide +kernel) dX3_init_87 ⟨(Nat.le_of_ble_eq_true rfl), (Nat.le_of_ble_eq_true rfl)⟩ (fun q5 => ?_)
  refine j_ws [obC a 4 [.ref q1, .ref q2, .ref q3, .ref q4, .null, .int 0], obC q1 2 [.int 540, .int 1020], ain (kD k) q2 4 (upd (upd (upd (upd (fun _ => 0) 0 60) 1 120) 2 240) 3 480), ain (kD k) q3 4 (upd (upd (upd (upd (fun _ => 0) 0 240) 1 480) 2 960) 3 1920), lsC q4 (dE (kD k)) 0 0, obC q5 0 [.int 0, .null, .int 0]] rfl ?_
  refine j_dup F dX3_init_90 rfl ?_
  refine j_perm ([obC q5 0 [.int 0, .null, .int 0]] ++ [obC a 4 [.ref q1, .ref q2, .ref q3, .ref q4, .null, .int 0], obC q1 2 [.int 540, .int 1020], ain (kD k) q2 4 (upd (upd (upd (upd (fun _ => 0) 0 60) 1 120) 2 240) 3 480), ain (kD k) q3 4 (upd (upd (upd (upd (fun _ => 0) 0 240) 1 480) 2 960) 3 1920), lsC q4 (dE (kD k)) 0 0]) (List.perm_append_comm (l₁ := [obC a 4 [.ref q1, .ref q2, .ref q3, .ref q4, .null, .int 0], obC q1 2 [.int 540, .int 1020], ain (kD k) q2 4 (upd (upd (upd (upd (fun _ => 0) 0 60) 1 120) 2 240) 3 480), ain (kD k) q3 4 (upd (upd (upd (upd (fun _ => 0) 0 240) 1 480) 2 960) 3 1920), lsC q4 (dE (kD k)) 0 0]) (l₂ := [obC q5 0 [.int 0, .null, .int 0]])) ?_
  refine j_cmI F hR.1 (qJ_init (kl k) hst (kD k) q5) lk_X3_25 dX3_init_91 ⟨(Nat.le_of_ble_eq_true rfl), (Nat.le_of_ble_eq_true rfl)⟩ rfl (Nat.le_of_ble_eq_true rfl) ⟨(Nat.le_of_ble_eq_true rfl), (Nat.le_of_ble_eq_true rfl)⟩ (fun u w1 hp => ?_)
  obtain ⟨rfl, rfl⟩ := hp
  refine j_perm ([obC a 4 [.ref q1, .ref q2, .ref q3, .ref q4, .null, .int 0], obC q1 2 [.int 540, .int 1020], ain (kD k) q2 4 (upd (upd (upd (upd (fun _ => 0) 0 60) 1 120) 2 240) 3 480), ain (kD k) q3 4 (upd (upd (upd (upd (fun _ => 0) 0 240) 1 480) 2 960) 3 1920), lsC q4 (dE (kD k)) 0 0] ++ [lsC q5 (dE (kD k)) 0 0]) (List.perm_append_comm (l₁ := [lsC q5 (dE (kD k)) 0 0]) (l₂ := [obC a 4 [.ref q1, .ref q2, .ref q3, .ref q4, .null, .int 0], obC q1 2 [.int 540, .int 1020], ain (kD k) q2 4 (upd (upd (upd (upd (fun _ => 0) 0 60) 1 120) 2 240) 3 480), ain (kD k) q3 4 (upd (upd (upd (upd (fun _ => 0) 0 240) 1 480) 2 960) 3 1920), lsC q4 (dE (kD k)) 0 0])) ?_
  refine j_ws [obC a 4 [.ref q1, .ref q2, .ref q3, .ref q4, .null, .int 0], obC q1 2 [.int 540, .int 1020], ain (kD k) q2 4 (upd (upd (upd (upd (fun _ => 0) 0 60) 1 120) 2 240) 3 480), ain (kD k) q3 4 (upd (upd (upd (upd (fun _ => 0) 0 240) 1 480) 2 960) 3 1920), lsC q4 (dE (kD k)) 0 0, lsC q5 (dE (kD k)) 0 0] rfl ?_
  refine j_st [.ref q5, .ref a] rfl ?_
  refine pf_X3_30 F hR.1 (hin rfl) dX3_init_94 rfl rfl 0 rfl (Nat.le_of_ble_eq_true rfl) [obC a 4 [.ref q1, .ref q2, .ref q3, .ref q4, .ref q5, .int 0], obC q1 2 [.int 540, .int 1020], ain (kD k) q2 4 (upd (upd (upd (upd (fun _ => 0) 0 60) 1 120) 2 240) 3 480), ain (kD k) q3 4 (upd (upd (upd (upd (fun _ => 0) 0 240) 1 480) 2 960) 3 1920), lsC q4 (dE (kD k)) 0 0, lsC q5 (dE (kD k)) 0 0] rfl ?_
  refine j_aloadn F dX3_init_97 rfl ?_
  refine j_iconst F (v := 0) dX3_init_98 (by decide) ?_
  refine pf_X3_33 F hR.1 dX3_init_99 rfl rfl 0 rfl (Nat.le_of_ble_eq_true rfl) [obC a 4 [.ref q1, .ref q2, .ref q3, .ref q4, .ref q5, .int 0], obC q1 2 [.int 540, .int 1020], ain (kD k) q2 4 (upd (upd (upd (upd (fun _ => 0) 0 60) 1 120) 2 240) 3 480), ain (kD k) q3 4 (upd (upd (upd (upd (fun _ => 0) 0 240) 1 480) 2 960) 3 1920), lsC q4 (dE (kD k)) 0 0, lsC q5 (dE (kD k)) 0 0] rfl ?_
  exact j_vret F hR dX3_init_102 (Nat.le_of_ble_eq_true rfl) (Nat.le_of_ble_eq_true rfl) ⟨rfl, q1, q2, q3, q4, q5, rfl⟩
def M_s0 : S2 := fun j => match j with
  | 0 => fun i => match i with
    | 2 => 540
    | 3 => 1020
    | _ => 0
  | 4 => C_ans0
  | 5 => C_sol0
  | _ => fun _ => 0
set_option maxRecDepth 100000 in
set_option maxHeartbeats 4000000 in
theorem qX4_init (l : Launch) (hst : l.stackTraces = false) (D : va_G) (a : Nat) : CM l D yX4_init cX4_init 1 none 1 22 20 270 [(a, .inr (5, [.int 0, .int 0, .int 0, .int 0, .null, .null, .int 0, .null, .null, .null, .null, .null, .null, .null, .int 0, .null, .null, .null, .null, .null, .null, .null, .null, .null, .null, .null]))] [.ref a] (fun u w => u = none ∧ ∃ d : Nat → Nat, d 0 = a ∧ w = MW D d M_s0) := by
  refine CM_of [some (.ref a)] hst (by decide +kernel) rfl (Nat.le_of_ble_eq_true rfl) (fun k F hl hD hin hR => ?_)
  subst hl hD
  refine j_aloadn F dX4_init_0 rfl ?_
  refine j_objInit F um_X4_1 un_objectInit ud_objectInit dX4_init_1 ⟨(Nat.le_of_ble_eq_true rfl), (Nat.le_of_ble_eq_true rfl)⟩ ?_
  refine j_aloadn F dX4_init_4 rfl ?_
  refine j_sipush F (v := 540) dX4_init_5 (by decide) ?_
  refine pf_X4_7 F hR.1 dX4_init_8 rfl rfl 0 rfl (Nat.le_of_ble_eq_true rfl) [obC a 5 [.int 0, .int 0, .int 540, .int 0, .null, .null, .int 0, .null, .null, .null, .null, .null, .null, .null, .int 0, .null, .null, .null, .null, .null, .null, .null, .null, .null, .null, .null]] rfl ?_
  refine j_aloadn F dX4_init_11 rfl ?_
  refine j_sipush F (v := 1020) dX4_init_12 (by decide) ?_
  refine pf_X4_13 F hR.1 dX4_init_15 rfl rfl 0 rfl (Nat.le_of_ble_eq_true rfl) [obC a 5 [.int 0, .int 0, .int 540, .int 1020, .null, .null, .int 0, .null, .null, .null, .null, .null, .null, .null, .int 0, .null, .null, .null, .null, .null, .null, .null, .null, .null, .null, .null]] rfl ?_
  refine j_aloadn F dX4_init_18 rfl ?_
  refine j_iconst F (v := 4) dX4_init_19 (by decide) ?_
  refine j_newa F hR.1 (N := 4) (by decide) (by decide) dX4_init_20 (Nat.le_of_ble_eq_true rfl) (Nat.le_of_ble_eq_true rfl) (fun q1 => ?_)
  refine j_ws [obC a 5 [.int 0, .int 0, .int 540, .int 1020, .null, .null, .int 0, .null, .null, .null, .null, .null, .null, .null, .int 0, .null, .null, .null, .null, .null, .null, .null, .null, .null, .null, .null], ain (kD k) q1 4 (fun _ => 0)] rfl ?_
  refine j_dup F dX4_init_22 rfl ?_
  refine j_iconst F (v := 0) dX4_init_23 (by decide) ?_
  refine j_bipush F (v := 60) dX4_init_24 (by decide) ?_
  refine j_iast F hR.1 dX4_init_26 1 rfl (by unfold vp_in; decide +kernel) [obC a 5 [.int 0, .int 0, .int 540, .int 1020, .null, .null, .int 0, .null, .null, .null, .null, .null, .null, .null, .int 0, .null, .null, .null, .null, .null, .null, .null, .null, .null, .null, .null], ain (kD k) q1 4 (upd (fun _ => 0) 0 60)] rfl ?_
  refine j_dup F dX4_init_27 rfl ?_
  refine j_iconst F (v := 1) dX4_init_28 (by decide) ?_
  refine j_bipush F (v := 120) dX4_init_29 (by decide) ?_
  refine j_iast F hR.1 dX4_init_31 1 rfl (by unfold vp_in; decide +kernel) [obC a 5 [.int 0, .int 0, .int 540, .int 1020, .null, .null, .int 0, .null, .null, .null, .null, .null, .null, .null, .int 0, .null, .null, .null, .null, .null, .null, .null, .null, .null, .null, .null], ain (kD k) q1 4 (upd (upd (fun _ => 0) 0 60) 1 120)] rfl ?_
  refine j_dup F dX4_init_32 rfl ?_
  refine j_iconst F (v := 2) dX4_init_33 (by decide) ?_
  refine j_sipush F (v := 240) dX4_init_34 (by decide) ?_
  refine j_iast F hR.1 dX4_init_37 1 rfl (by unfold vp_in; decide +kernel) [obC a 5 [.int 0, .int 0, .int 540, .int 1020, .null, .null, .int 0, .null, .null, .null, .null, .null, .null, .null, .int 0, .null, .null, .null, .null, .null, .null, .null, .null, .null, .null, .null], ain (kD k) q1 4 (upd (upd (upd (fun _ => 0) 0 60) 1 120) 2 240)] rfl ?_
  refine j_dup F dX4_init_38 rfl ?_
  refine j_iconst F (v := 3) dX4_init_39 (by decide) ?_
  refine j_sipush F (v := 480) dX4_init_40 (by decide) ?_
  refine j_iast F hR.1 dX4_init_43 1 rfl (by unfold vp_in; decide +kernel) [obC a 5 [.int 0, .int 0, .int 540, .int 1020, .null, .null, .int 0, .null, .null, .null, .null, .null, .null, .null, .int 0, .null, .null, .null, .null, .null, .null, .null, .null, .null, .null, .null], ain (kD k) q1 4 (upd (upd (upd (upd (fun _ => 0) 0 60) 1 120) 2 240) 3 480)] rfl ?_
  refine pf_X4_16 F hR.1 (hin rfl) dX4_init_44 rfl rfl 0 rfl (Nat.le_of_ble_eq_true rfl) [obC a 5 [.int 0, .int 0, .int 540, .int 1020, .ref q1, .null, .int 0, .null, .null, .null, .null, .null, .null, .null, .int 0, .null, .null, .null, .null, .null, .null, .null, .null, .null, .null, .null], ain (kD k) q1 4 (upd (upd (upd (upd (fun _ => 0) 0 60) 1 120) 2 240) 3 480)] rfl ?_
  refine j_aloadn F dX4_init_47 rfl ?_
  refine j_iconst F (v := 4) dX4_init_48 (by decide) ?_
  refine j_newa F hR.1 (N := 4) (by decide) (by decide) dX4_init_49 (Nat.le_of_ble_eq_true rfl) (Nat.le_of_ble_eq_true rfl) (fun q2 => ?_)
  refine j_ws [obC a 5 [.int 0, .int 0, .int 540, .int 1020, .ref q1, .null, .int 0, .null, .null, .null, .null, .null, .null, .null, .int 0, .null, .null, .null, .null, .null, .null, .null, .null, .null, .null, .null], ain (kD k) q1 4 (upd (upd (upd (upd (fun _ => 0) 0 60) 1 120) 2 240) 3 480), ain (kD k) q2 4 (fun _ => 0)] rfl ?_
  refine j_dup F dX4_init_51 rfl ?_
  refine j_iconst F (v := 0) dX4_init_52 (by decide) ?_
  refine j_sipush F (v := 240) dX4_init_53 (by decide) ?_
  refine j_iast F hR.1 dX4_init_56 2 rfl (by unfold vp_in; decide +kernel) [obC a 5 [.int 0, .int 0, .int 540, .int 1020, .ref q1, .null, .int 0, .null, .null, .null, .null, .null, .null, .null, .int 0, .null, .null, .null, .null, .null, .null, .null, .null, .null, .null, .null], ain (kD k) q1 4 (upd (upd (upd (upd (fun _ => 0) 0 60) 1 120) 2 240) 3 480), ain (kD k) q2 4 (upd (fun _ => 0) 0 240)] rfl ?_
  refine j_dup F dX4_init_57 rfl ?_
  refine j_iconst F (v := 1) dX4_init_58 (by decide) ?_
  refine j_sipush F (v := 480) dX4_init_59 (by decide) ?_
  refine j_iast F hR.1 dX4_init_62 2 rfl (by unfold vp_in; decide +kernel) [obC a 5 [.int 0, .int 0, .int 540, .int 1020, .ref q1, .null, .int 0, .null, .null, .null, .null, .null, .null, .null, .int 0, .null, .null, .null, .null, .null, .null, .null, .null, .null, .null, .null], ain (kD k) q1 4 (upd (upd (upd (upd (fun _ => 0) 0 60) 1 120) 2 240) 3 480), ain (kD k) q2 4 (upd (upd (fun _ => 0) 0 240) 1 480)] rfl ?_
  refine j_dup F dX4_init_63 rfl ?_
  refine j_iconst F (v := 2) dX4_init_64 (by decide) ?_
  refine j_sipush F (v := 960) dX4_init_65 (by decide) ?_
  refine j_iast F hR.1 dX4_init_68 2 rfl (by unfold vp_in; decide +kernel) [obC a 5 [.int 0, .int 0, .int 540, .int 1020, .ref q1, .null, .int 0, .null, .null, .null, .null, .null, .null, .null, .int 0, .null, .null, .null, .null, .null, .null, .null, .null, .null, .null, .null], ain (kD k) q1 4 (upd (upd (upd (upd (fun _ => 0) 0 60) 1 120) 2 240) 3 480), ain (kD k) q2 4 (upd (upd (upd (fun _ => 0) 0 240) 1 480) 2 960)] rfl ?_
  refine j_dup F dX4_init_69 rfl ?_
  refine j_iconst F (v := 3) dX4_init_70 (by decide) ?_
  refine j_sipush F (v := 1920) dX4_init_71 (by decide) ?_
  refine j_iast F hR.1 dX4_init_74 2 rfl (by unfold vp_in; decide +kernel) [obC a 5 [.int 0, .int 0, .int 540, .int 1020, .ref q1, .null, .int 0, .null, .null, .null, .null, .null, .null, .null, .int 0, .null, .null, .null, .null, .null, .null, .null, .null, .null, .null, .null], ain (kD k) q1 4 (upd (upd (upd (upd (fun _ => 0) 0 60) 1 120) 2 240) 3 480), ain (kD k) q2 4 (upd (upd (upd (upd (fun _ => 0) 0 240) 1 480) 2 960) 3 1920)] rfl ?_
  refine pf_X4_20 F hR.1 (hin rfl) dX4_init_75 rfl rfl 0 rfl (Nat.le_of_ble_eq_true rfl) [obC a 5 [.int 0, .int 0, .int 540, .int 1020, .ref q1, .ref q2, .int 0, .null, .null, .null, .null, .null, .null, .null, .int 0, .null, .null, .null, .null, .null, .null, .null, .null, .null, .null, .null], ain (kD k) q1 4 (upd (upd (upd (upd (fun _ => 0) 0 60) 1 120) 2 240) 3 480), ain (kD k) q2 4 (upd (upd (upd (upd (fun _ => 0) 0 240) 1 480) 2 960) 3 1920)] rfl ?_
  refine j_aloadn F dX4_init_78 rfl ?_
  refine j_bipush F (v := 6) dX4_init_79 (by decide) ?_
  refine j_newa F hR.1 (N := 6) (by decide) (by decide) dX4_init_81 (Nat.le_of_ble_eq_true rfl) (Nat.le_of_ble_eq_true rfl) (fun q3 => ?_)
  refine j_ws [obC a 5 [.int 0, .int 0, .int 540, .int 1020, .ref q1, .ref q2, .int 0, .null, .null, .null, .null, .null, .null, .null, .int 0, .null, .null, .null, .null, .null, .null, .null, .null, .null, .null, .null], ain (kD k) q1 4 (upd (upd (upd (upd (fun _ => 0) 0 60) 1 120) 2 240) 3 480), ain (kD k) q2 4 (upd (upd (upd (upd (fun _ => 0) 0 240) 1 480) 2 960) 3 1920), ain (kD k) q3 6 (fun _ => 0)] rfl ?_
  refine pf_X4_23 F hR.1 (hin rfl) dX4_init_83 rfl rfl 0 rfl (Nat.le_of_ble_eq_true rfl) [obC a 5 [.int 0, .int 0, .int 540, .int 1020, .ref q1, .ref q2, .int 0, .ref q3, .null, .null, .null, .null, .null, .null, .int 0, .null, .null, .null, .null, .null, .null, .null, .null, .null, .null, .null], ain (kD k) q1 4 (upd (upd (upd (upd (fun _ => 0) 0 60) 1 120) 2 240) 3 480), ain (kD k) q2 4 (upd (upd (upd (upd (fun _ => 0) 0 240) 1 480) 2 960) 3 1920), ain (kD k) q3 6 (fun _ => 0)] rfl ?_
  refine j_aloadn F dX4_init_86 rfl ?_
  refine j_bipush F (v := 6) dX4_init_87 (by decide) ?_
  refine j_newa F hR.1 (N := 6) (by decide) (by decide) dX4_init_89 (Nat.le_of_ble_eq_true rfl) (Nat.le_of_ble_eq_true rfl) (fun q4 => ?_)
  refine j_ws [obC a 5 [.int 0, .int 0, .int 540, .int 1020, .ref q1, .ref q2, .int 0, .ref q3, .null, .null, .null, .null, .null, .null, .int 0, .null, .null, .null, .null, .null, .null, .null, .null, .null, .null, .null], ain (kD k) q1 4 (upd (upd (upd (upd (fun _ => 0) 0 60) 1 120) 2 240) 3 480), ain (kD k) q2 4 (upd (upd (upd (upd (fun _ => 0) 0 240) 1 480) 2 960) 3 1920), ain (kD k) q3 6 (fun _ => 0), ain (kD k) q4 6 (fun _ => 0)] rfl ?_
  refine pf_X4_26 F hR.1 (hin rfl) dX4_init_91 rfl rfl 0 rfl (Nat.le_of_ble_eq_true rfl) [obC a 5 [.int 0, .int 0, .int 540, .int 1020, .ref q1, .ref q2, .int 0, .ref q3, .ref q4, .null, .null, .null, .null, .null, .int 0, .null, .null, .null, .null, .null, .null, .null, .null, .null, .null, .null], ain (kD k) q1 4 (upd (upd (upd (upd (fun _ => 0) 0 60) 1 120) 2 240) 3 480), ain (kD k) q2 4 (upd (upd (upd (upd (fun _ => 0) 0 240) 1 480) 2 960) 3 1920), ain (kD k) q3 6 (fun _ => 0), ain (kD k) q4 6 (fun _ => 0)] rfl ?_
  refine j_aloadn F dX4_init_94 rfl ?_
  refine j_bipush F (v := 6) dX4_init_95 (by decide) ?_
  refine j_newa F hR.1 (N := 6) (by decide) (by decide) dX4_init_97 (Nat.le_of_ble_eq_true rfl) (Nat.le_of_ble_eq_true rfl) (fun q5 => ?_)
  refine j_ws [obC a 5 [.int 0, .int 0, .int 540, .int 1020, .ref q1, .ref q2, .int 0, .ref q3, .ref q4, .null, .null, .null, .null, .null, .int 0, .null, .null, .null, .null, .null, .null, .null, .null, .null, .null, .null], ain (kD k) q1 4 (upd (upd (upd (upd (fun _ => 0) 0 60) 1 120) 2 240) 3 480), ain (kD k) q2 4 (upd (upd (upd (upd (fun _ => 0) 0 240) 1 480) 2 960) 3 1920), ain (kD k) q3 6 (fun _ => 0), ain (kD k) q4 6 (fun _ => 0), ain (kD k) q5 6 (fun _ => 0)] rfl ?_
  refine pf_X4_29 F hR.1 (hin rfl) dX4_init_99 rfl rfl 0 rfl (Nat.le_of_ble_eq_true rfl) [obC a 5 [.int 0, .int 0, .int 540, .int 1020, .ref q1, .ref q2, .int 0, .ref q3, .ref q4, .ref q5, .null, .null, .null, .null, .int 0, .null, .null, .null, .null, .null, .null, .null, .null, .null, .null, .null], ain (kD k) q1 4 (upd (upd (upd (upd (fun _ => 0) 0 60) 1 120) 2 240) 3 480), ain (kD k) q2 4 (upd (upd (upd (upd (fun _ => 0) 0 240) 1 480) 2 960) 3 1920), ain (kD k) q3 6 (fun _ => 0), ain (kD k) q4 6 (fun _ => 0), ain (kD k) q5 6 (fun _ => 0)] rfl ?_
  refine j_aloadn F dX4_init_102 rfl ?_
  refine j_bipush F (v := 6) dX4_init_103 (by decide) ?_
  refine j_newa F hR.1 (N := 6) (by decide) (by decide) dX4_init_105 (Nat.le_of_ble_eq_true rfl) (Nat.le_of_ble_eq_true rfl) (fun q6 => ?_)
  refine j_ws [obC a 5 [.int 0, .int 0, .int 540, .int 1020, .ref q1, .ref q2, .int 0, .ref q3, .ref q4, .ref q5, .null, .null, .null, .null, .int 0, .null, .null, .null, .null, .null, .null, .null, .null, .null, .null, .null], ain (kD k) q1 4 (upd (upd (upd (upd (fun _ => 0) 0 60) 1 120) 2 240) 3 480), ain (kD k) q2 4 (upd (upd (upd (upd (fun _ => 0) 0 240) 1 480) 2 960) 3 1920), ain (kD k) q3 6 (fun _ => 0), ain (kD k) q4 6 (fun _ => 0), ain (kD k) q5 6 (fun _ => 0), ain (kD k) q6 6 (fun _ => 0)] rfl ?_
  refine pf_X4_32 F hR.1 (hin rfl) dX4_init_107 rfl rfl 0 rfl (Nat.le_of_ble_eq_true rfl) [obC a 5 [.int 0, .int 0, .int 540, .int 1020, .ref q1, .ref q2, .int 0, .ref q3, .ref q4, .ref q5, .ref q6, .null, .null, .null, .int 0, .null, .null, .null, .null, .null, .null, .null, .null, .null, .null, .null], ain (kD k) q1 4 (upd (upd (upd (upd (fun _ => 0) 0 60) 1 120) 2 240) 3 480), ain (kD k) q2 4 (upd (upd (upd (upd (fun _ => 0) 0 240) 1 480) 2 960) 3 1920), ain (kD k) q3 6 (fun _ => 0), ain (kD k) q4 6 (fun _ => 0), ain (kD k) q5 6 (fun _ => 0), ain (kD k) q6 6 (fun _ => 0)] rfl ?_
  refine j_aloadn F dX4_init_110 rfl ?_
  refine j_bipush F (v := 6) dX4_init_111 (by decide) ?_
  refine j_newa F hR.1 (N := 6) (by decide) (by decide) dX4_init_113 (Nat.le_of_ble_eq_true rfl) (Nat.le_of_ble_eq_true rfl) (fun q7 => ?_)
  refine j_ws [obC a 5 [.int 0, .int 0, .int 540, .int 1020, .ref q1, .ref q2, .int 0, .ref q3, .ref q4, .ref q5, .ref q6, .null, .null, .null, .int 0, .null, .null, .null, .null, .null, .null, .null, .null, .null, .null, .null], ain (kD k) q1 4 (upd (upd (upd (upd (fun _ => 0) 0 60) 1 120) 2 240) 3 480), ain (kD k) q2 4 (upd (upd (upd (upd (fun _ => 0) 0 240) 1 480) 2 960) 3 1920), ain (kD k) q3 6 (fun _ => 0), ain (kD k) q4 6 (fun _ => 0), ain (kD k) q5 6 (fun _ => 0), ain (kD k) q6 6 (fun _ => 0), ain (kD k) q7 6 (fun _ => 0)] rfl ?_
  refine pf_X4_35 F hR.1 (hin rfl) dX4_init_115 rfl rfl 0 rfl (Nat.le_of_ble_eq_true rfl) [obC a 5 [.int 0, .int 0, .int 540, .int 1020, .ref q1, .ref q2, .int 0, .ref q3, .ref q4, .ref q5, .ref q6, .ref q7, .null, .null, .int 0, .null, .null, .null, .null, .null, .null, .null, .null, .null, .null, .null], ain (kD k) q1 4 (upd (upd (upd (upd (fun _ => 0) 0 60) 1 120) 2 240) 3 480), ain (kD k) q2 4 (upd (upd (upd (upd (fun _ => 0) 0 240) 1 480) 2 960) 3 1920), ain (kD k) q3 6 (fun _ => 0), ain (kD k) q4 6 (fun _ => 0), ain (kD k) q5 6 (fun _ => 0), ain (kD k) q6 6 (fun _ => 0), ain (kD k) q7 6 (fun _ => 0)] rfl ?_
  refine j_aloadn F dX4_init_118 rfl ?_
  refine j_bipush F (v := 6) dX4_init_119 (by decide) ?_
  refine j_newa F hR.1 (N := 6) (by decide) (by decide) dX4_init_121 (Nat.le_of_ble_eq_true rfl) (Nat.le_of_ble_eq_true rfl) (fun q8 => ?_)
  refine j_ws [obC a 5 [.int 0, .int 0, .int 540, .int 1020, .ref q1, .ref q2, .int 0, .ref q3, .ref q4, .ref q5, .ref q6, .ref q7, .null, .null, .int 0, .null, .null, .null, .null, .null, .null, .null, .null, .null, .null, .null], ain (kD k) q1 4 (upd (upd (upd (upd (fun _ => 0) 0 60) 1 120) 2 240) 3 480), ain (kD k) q2 4 (upd (upd (upd (upd (fun _ => 0) 0 240) 1 480) 2 960) 3 1920), ain (kD k) q3 6 (fun _ => 0), ain (kD k) q4 6 (fun _ => 0), ain (kD k) q5 6 (fun _ => 0), ain (kD k) q6 6 (fun _ => 0), ain (kD k) q7 6 (fun _ => 0), ain (kD k) q8 6 (fun _ => 0)] rfl ?_
  refine pf_X4_38 F hR.1 (hin rfl) dX4_init_123 rfl rfl 0 rfl (Nat.le_of_ble_eq_true rfl) [obC a 5 [.int 0, .int 0, .int 540, .int 1020, .ref q1, .ref q2, .int 0, .ref q3, .ref q4, .ref q5, .ref q6, .ref q7, .ref q8, .null, .int 0, .null, .null, .null, .null, .null, .null, .null, .null, .null, .null, .null], ain (kD k) q1 4 (upd (upd (upd (upd (fun _ => 0) 0 60) 1 120) 2 240) 3 480), ain (kD k) q2 4 (upd (upd (upd (upd (fun _ => 0) 0 240) 1 480) 2 960) 3 1920), ain (kD k) q3 6 (fun _ => 0), ain (kD k) q4 6 (fun _ => 0), ain (kD k) q5 6 (fun _ => 0), ain (kD k) q6 6 (fun _ => 0), ain (kD k) q7 6 (fun _ => 0), ain (kD k) q8 6 (fun _ => 0)] rfl ?_
  refine j_aloadn F dX4_init_126 rfl ?_
  refine j_bipush F (v := 6) dX4_init_127 (by decide) ?_
  refine j_newa F hR.1 (N := 6) (by decide) (by decide) dX4_init_129 (Nat.le_of_ble_eq_true rfl) (Nat.le_of_ble_eq_true rfl) (fun q9 => ?_)
  refine j_ws [obC a 5 [.int 0, .int 0, .int 540, .int 1020, .ref q1, .ref q2, .int 0, .ref q3, .ref q4, .ref q5, .ref q6, .ref q7, .ref q8, .null, .int 0, .null, .null, .null, .null, .null, .null, .null, .null, .null, .null, .null], ain (kD k) q1 4 (upd (upd (upd (upd (fun _ => 0) 0 60) 1 120) 2 240) 3 480), ain (kD k) q2 4 (upd (upd (upd (upd (fun _ => 0) 0 240) 1 480) 2 960) 3 1920), ain (kD k) q3 6 (fun _ => 0), ain (kD k) q4 6 (fun _ => 0), ain (kD k) q5 6 (fun _ => 0), ain (kD k) q6 6 (fun _ => 0), ain (kD k) q7 6 (fun _ => 0), ain (kD k) q8 6 (fun _ => 0), ain (kD k) q9 6 (fun _ => 0)] rfl ?_
  refine pf_X4_41 F hR.1 (hin rfl) dX4_init_131 rfl rfl 0 rfl (Nat.le_of_ble_eq_true rfl) [obC a 5 [.int 0, .int 0, .int 540, .int 1020, .ref q1, .ref q2, .int 0, .ref q3, .ref q4, .ref q5, .ref q6, .ref q7, .ref q8, .ref q9, .int 0, .null, .null, .null, .null, .null, .null, .null, .null, .null, .null, .null], ain (kD k) q1 4 (upd (upd (upd (upd (fun _ => 0) 0 60) 1 120) 2 240) 3 480), ain (kD k) q2 4 (upd (upd (upd (upd (fun _ => 0) 0 240) 1 480) 2 960) 3 1920), ain (kD k) q3 6 (fun _ => 0), ain (kD k) q4 6 (fun _ => 0), ain (kD k) q5 6 (fun _ => 0), ain (kD k) q6 6 (fun _ => 0), ain (kD k) q7 6 (fun _ => 0), ain (kD k) q8 6 (fun _ => 0), ain (kD k) q9 6 (fun _ => 0)] rfl ?_
  refine j_aloadn F dX4_init_134 rfl ?_
  refine j_bipush F (v := 20) dX4_init_135 (by decide) ?_
  refine j_newa F hR.1 (N := 20) (by decide) (by decide) dX4_init_137 (Nat.le_of_ble_eq_true rfl) (Nat.le_of_ble_eq_true rfl) (fun q10 => ?_)
  refine j_ws [obC a 5 [.int 0, .int 0, .int 540, .int 1020, .ref q1, .ref q2, .int 0, .ref q3, .ref q4, .ref q5, .ref q6, .ref q7, .ref q8, .ref q9, .int 0, .null, .null, .null, .null, .null, .null, .null, .null, .null, .null, .null], ain (kD k) q1 4 (upd (upd (upd (upd (fun _ => 0) 0 60) 1 120) 2 240) 3 480), ain (kD k) q2 4 (upd (upd (upd (upd (fun _ => 0) 0 240) 1 480) 2 960) 3 1920), ain (kD k) q3 6 (fun _ => 0), ain (kD k) q4 6 (fun _ => 0), ain (kD k) q5 6 (fun _ => 0), ain (kD k) q6 6 (fun _ => 0), ain (kD k) q7 6 (fun _ => 0), ain (kD k) q8 6 (fun _ => 0), ain (kD k) q9 6 (fun _ => 0), ain (kD k) q10 20 (fun _ => 0)] rfl ?_
  refine pf_X4_44 F hR.1 (hin rfl) dX4_init_139 rfl rfl 0 rfl (Nat.le_of_ble_eq_true rfl) [obC a 5 [.int 0, .int 0, .int 540, .int 1020, .ref q1, .ref q2, .int 0, .ref q3, .ref q4, .ref q5, .ref q6, .ref q7, .ref q8, .ref q9, .int 0, .ref q10, .null, .null, .null, .null, .null, .null, .null, .null, .null, .null], ain (kD k) q1 4 (upd (upd (upd (upd (fun _ => 0) 0 60) 1 120) 2 240) 3 480), ain (kD k) q2 4 (upd (upd (upd (upd (fun _ => 0) 0 240) 1 480) 2 960) 3 1920), ain (kD k) q3 6 (fun _ => 0), ain (kD k) q4 6 (fun _ => 0), ain (kD k) q5 6 (fun _ => 0), ain (kD k) q6 6 (fun _ => 0), ain (kD k) q7 6 (fun _ => 0), ain (kD k) q8 6 (fun _ => 0), ain (kD k) q9 6 (fun _ => 0), ain (kD k) q10 20 (fun _ => 0)] rfl ?_
  refine j_aloadn F dX4_init_142 rfl ?_
  refine j_bipush F (v := 20) dX4_init_143 (by decide) ?_
  refine j_newa F hR.1 (N := 20) (by decide) (by decide) dX4_init_145 (Nat.le_of_ble_eq_true rfl) (Nat.le_of_ble_eq_true rfl) (fun q11 => ?_)
  refine j_ws [obC a 5 [.int 0, .int 0, .int 540, .int 1020, .ref q1, .ref q2, .int 0, .ref q3, .ref q4, .ref q5, .ref q6, .ref q7, .ref q8, .ref q9, .int 0, .ref q10, .null, .null, .null, .null, .null, .null, .null, .null, .null, .null], ain (kD k) q1 4 (upd (upd (upd (upd (fun _ => 0) 0 60) 1 120) 2 240) 3 480), ain (kD k) q2 4 (upd (upd (upd (upd (fun _ => 0) 0 240) 1 480) 2 960) 3 1920), ain (kD k) q3 6 (fun _ => 0), ain (kD k) q4 6 (fun _ => 0), ain (kD k) q5 6 (fun _ => 0), ain (kD k) q6 6 (fun _ => 0), ain (kD k) q7 6 (fun _ => 0), ain (kD k) q8 6 (fun _ => 0), ain (kD k) q9 6 (fun _ => 0), ain (kD k) q10 20 (fun _ => 0), ain (kD k) q11 20 (fun _ => 0)] rfl ?_
  refine pf_X4_47 F hR.1 (hin rfl) dX4_init_147 rfl rfl 0 rfl (Nat.le_of_ble_eq_true rfl) [obC a 5 [.int 0, .int 0, .int 540, .int 1020, .ref q1, .ref q2, .int 0, .ref q3, .ref q4, .ref q5, .ref q6, .ref q7, .ref q8, .ref q9, .int 0, .ref q10, .ref q11, .null, .null, .null, .null, .null, .null, .null, .null, .null], ain (kD k) q1 4 (upd (upd (upd (upd (fun _ => 0) 0 60) 1 120) 2 240) 3 480), ain (kD k) q2 4 (upd (upd (upd (upd (fun _ => 0) 0 240) 1 480) 2 960) 3 1920), ain (kD k) q3 6 (fun _ => 0), ain (kD k) q4 6 (fun _ => 0), ain (kD k) q5 6 (fun _ => 0), ain (kD k) q6 6 (fun _ => 0), ain (kD k) q7 6 (fun _ => 0), ain (kD k) q8 6 (fun _ => 0), ain (kD k) q9 6 (fun _ => 0), ain (kD k) q10 20 (fun _ => 0), ain (kD k) q11 20 (fun _ => 0)] rfl ?_
  refine j_aloadn F dX4_init_150 rfl ?_
  refine j_bipush F (v := 20) dX4_init_151 (by decide) ?_
  refine j_newa F hR.1 (N := 20) (by decide) (by decide) dX4_init_153 (Nat.le_of_ble_eq_true rfl) (Nat.le_of_ble_eq_true rfl) (fun q12 => ?_)
  refine j_ws [obC a 5 [.int 0, .int 0, .int 540, .int 1020, .ref q1, .ref q2, .int 0, .ref q3, .ref q4, .ref q5, .ref q6, .ref q7, .ref q8, .ref q9, .int 0, .ref q10, .ref q11, .null, .null, .null, .null, .null, .null, .null, .null, .null], ain (kD k) q1 4 (upd (upd (upd (upd (fun _ => 0) 0 60) 1 120) 2 240) 3 480), ain (kD k) q2 4 (upd (upd (upd (upd (fun _ => 0) 0 240) 1 480) 2 960) 3 1920), ain (kD k) q3 6 (fun _ => 0), ain (kD k) q4 6 (fun _ => 0), ain (kD k) q5 6 (fun _ => 0), ain (kD k) q6 6 (fun _ => 0), ain (kD k) q7 6 (fun _ => 0), ain (kD k) q8 6 (fun _ => 0), ain (kD k) q9 6 (fun _ => 0), ain (kD k) q10 20 (fun _ => 0), ain (kD k) q11 20 (fun _ => 0), ain (kD k) q12 20 (fun _ => 0)] rfl ?_
  refine pf_X4_50 F hR.1 (hin rfl) dX4_init_155 rfl rfl 0 rfl (Nat.le_of_ble_eq_true rfl) [obC a 5 [.int 0, .int 0, .int 540, .int 1020, .ref q1, .ref q2, .int 0, .ref q3, .ref q4, .ref q5, .ref q6, .ref q7, .ref q8, .ref q9, .int 0, .ref q10, .ref q11, .ref q12, .null, .null, .null, .null, .null, .null, .null, .null], ain (kD k) q1 4 (upd (upd (upd (upd (fun _ => 0) 0 60) 1 120) 2 240) 3 480), ain (kD k) q2 4 (upd (upd (upd (upd (fun _ => 0) 0 240) 1 480) 2 960) 3 1920), ain (kD k) q3 6 (fun _ => 0), ain (kD k) q4 6 (fun _ => 0), ain (kD k) q5 6 (fun _ => 0), ain (kD k) q6 6 (fun _ => 0), ain (kD k) q7 6 (fun _ => 0), ain (kD k) q8 6 (fun _ => 0), ain (kD k) q9 6 (fun _ => 0), ain (kD k) q10 20 (fun _ => 0), ain (kD k) q11 20 (fun _ => 0), ain (kD k) q12 20 (fun _ => 0)] rfl ?_
  refine j_aloadn F dX4_init_158 rfl ?_
  refine j_bipush F (v := 20) dX4_init_159 (by decide) ?_
  refine j_newa F hR.1 (N := 20) (by decide) (by decide) dX4_init_161 (Nat.le_of_ble_eq_true rfl) (Nat.le_of_ble_eq_true rfl) (fun q13 => ?_)
  refine j_ws [obC a 5 [.int 0, .int 0, .int 540, .int 1020, .ref q1, .ref q2, .int 0, .ref q3, .ref q4, .ref q5, .ref q6, .ref q7, .ref q8, .ref q9, .int 0, .ref q10, .ref q11, .ref q12, .null, .null, .null, .null, .null, .null, .null, .null], ain (kD k) q1 4 (upd (upd (upd (upd (fun _ => 0) 0 60) 1 120) 2 240) 3 480), ain (kD k) q2 4 (upd (upd (upd (upd (fun _ => 0) 0 240) 1 480) 2 960) 3 1920), ain (kD k) q3 6 (fun _ => 0), ain (kD k) q4 6 (fun _ => 0), ain (kD k) q5 6 (fun _ => 0), ain (kD k) q6 6 (fun _ => 0), ain (kD k) q7 6 (fun _ => 0), ain (kD k) q8 6 (fun _ => 0), ain (kD k) q9 6 (fun _ => 0), ain (kD k) q10 20 (fun _ => 0), ain (kD k) q11 20 (fun _ => 0), ain (kD k) q12 20 (fun _ => 0), ain (kD k) q13 20 (fun _ => 0)] rfl ?_
  refine pf_X4_53 F hR.1 (hin rfl) dX4_init_163 rfl rfl 0 rfl (Nat.le_of_ble_eq_true rfl) [obC a 5 [.int 0, .int 0, .int 540, .int 1020, .ref q1, .ref q2, .int 0, .ref q3, .ref q4, .ref q5, .ref q6, .ref q7, .ref q8, .ref q9, .int 0, .ref q10, .ref q11, .ref q12, .ref q13, .null, .null, .null, .null, .null, .null, .null], ain (kD k) q1 4 (upd (upd (upd (upd (fun _ => 0) 0 60) 1 120) 2 240) 3 480), ain (kD k) q2 4 (upd (upd (upd (upd (fun _ => 0) 0 240) 1 480) 2 960) 3 1920), ain (kD k) q3 6 (fun _ => 0), ain (kD k) q4 6 (fun _ => 0), ain (kD k) q5 6 (fun _ => 0), ain (kD k) q6 6 (fun _ => 0), ain (kD k) q7 6 (fun _ => 0), ain (kD k) q8 6 (fun _ => 0), ain (kD k) q9 6 (fun _ => 0), ain (kD k) q10 20 (fun _ => 0), ain (kD k) q11 20 (fun _ => 0), ain (kD k) q12 20 (fun _ => 0), ain (kD k) q13 20 (fun _ => 0)] rfl ?_
  refine j_aloadn F dX4_init_166 rfl ?_
  refine j_bipush F (v := 20) dX4_init_167 (by decide) ?_
  refine j_newa F hR.1 (N := 20) (by decide) (by decide) dX4_init_169 (Nat.le_of_ble_eq_true rfl) (Nat.le_of_ble_eq_true rfl) (fun q14 => ?_)
  refine j_ws [obC a 5 [.int 0, .int 0, .int 540, .int 1020, .ref q1, .ref q2, .int 0, .ref q3, .ref q4, .ref q5, .ref q6, .ref q7, .ref q8, .ref q9, .int 0, .ref q10, .ref q11, .ref q12, .ref q13, .null, .null, .null, .null, .null, .null, .null], ain (kD k) q1 4 (upd (upd (upd (upd (fun _ => 0) 0 60) 1 120) 2 240) 3 480), ain (kD k) q2 4 (upd (upd (upd (upd (fun _ => 0) 0 240) 1 480) 2 960) 3 1920), ain (kD k) q3 6 (fun _ => 0), ain (kD k) q4 6 (fun _ => 0), ain (kD k) q5 6 (fun _ => 0), ain (kD k) q6 6 (fun _ => 0), ain (kD k) q7 6 (fun _ => 0), ain (kD k) q8 6 (fun _ => 0), ain (kD k) q9 6 (fun _ => 0), ain (kD k) q10 20 (fun _ => 0), ain (kD k) q11 20 (fun _ => 0), ain (kD k) q12 20 (fun _ => 0), ain (kD k) q13 20 (fun _ => 0), ain (kD k) q14 20 (fun _ => 0)] rfl ?_
  refine pf_X4_56 F hR.1 (hin rfl) dX4_init_171 rfl rfl 0 rfl (Nat.le_of_ble_eq_true rfl) [obC a 5 [.int 0, .int 0, .int 540, .int 1020, .ref q1, .ref q2, .int 0, .ref q3, .ref q4, .ref q5, .ref q6, .ref q7, .ref q8, .ref q9, .int 0, .ref q10, .ref q11, .ref q12, .ref q13, .ref q14, .null, .null, .null, .null, .null, .null], ain (kD k) q1 4 (upd (upd (upd (upd (fun _ => 0) 0 60) 1 120) 2 240) 3 480), ain (kD k) q2 4 (upd (upd (upd (upd (fun _ => 0) 0 240) 1 480) 2 960) 3 1920), ain (kD k) q3 6 (fun _ => 0), ain (kD k) q4 6 (fun _ => 0), ain (kD k) q5 6 (fun _ => 0), ain (kD k) q6 6 (fun _ => 0), ain (kD k) q7 6 (fun _ => 0), ain (kD k) q8 6 (fun _ => 0), ain (kD k) q9 6 (fun _ => 0), ain (kD k) q10 20 (fun _ => 0), ain (kD k) q11 20 (fun _ => 0), ain (kD k) q12 20 (fun _ => 0), ain (kD k) q13 20 (fun _ => 0), ain (kD k) q14 20 (fun _ => 0)] rfl ?_
  refine j_aloadn F dX4_init_174 rfl ?_
  refine j_bipush F (v := 20) dX4_init_175 (by decide) ?_
  refine j_newa F hR.1 (N := 20) (by decide) (by decide) dX4_init_177 (Nat.le_of_ble_eq_true rfl) (Nat.le_of_ble_eq_true rfl) (fun q15 => ?_)
  refine j_ws [obC a 5 [.int 0, .int 0, .int 540, .int 1020, .ref q1, .ref q2, .int 0, .ref q3, .ref q4, .ref q5, .ref q6, .ref q7, .ref q8, .ref q9, .int 0, .ref q10, .ref q11, .ref q12, .ref q13, .ref q14, .null, .null, .null, .null, .null, .null], ain (kD k) q1 4 (upd (upd (upd (upd (fun _ => 0) 0 60) 1 120) 2 240) 3 480), ain (kD k) q2 4 (upd (upd (upd (upd (fun _ => 0) 0 240) 1 480) 2 960) 3 1920), ain (kD k) q3 6 (fun _ => 0), ain (kD k) q4 6 (fun _ => 0), ain (kD k) q5 6 (fun _ => 0), ain (kD k) q6 6 (fun _ => 0), ain (kD k) q7 6 (fun _ => 0), ain (kD k) q8 6 (fun _ => 0), ain (kD k) q9 6 (fun _ => 0), ain (kD k) q10 20 (fun _ => 0), ain (kD k) q11 20 (fun _ => 0), ain (kD k) q12 20 (fun _ => 0), ain (kD k) q13 20 (fun _ => 0), ain (kD k) q14 20 (fun _ => 0), ain (kD k) q15 20 (fun _ => 0)] rfl ?_
  refine pf_X4_59 F hR.1 (hin rfl) dX4_init_179 rfl rfl 0 rfl (Nat.le_of_ble_eq_true rfl) [obC a 5 [.int 0, .int 0, .int 540, .int 1020, .ref q1, .ref q2, .int 0, .ref q3, .ref q4, .ref q5, .ref q6, .ref q7, .ref q8, .ref q9, .int 0, .ref q10, .ref q11, .ref q12, .ref q13, .ref q14, .ref q15, .null, .null, .null, .null, .null], ain (kD k) q1 4 (upd (upd (upd (upd (fun _ => 0) 0 60) 1 120) 2 240) 3 480), ain (kD k) q2 4 (upd (upd (upd (upd (fun _ => 0) 0 240) 1 480) 2 960) 3 1920), ain (kD k) q3 6 (fun _ => 0), ain (kD k) q4 6 (fun _ => 0), ain (kD k) q5 6 (fun _ => 0), ain (kD k) q6 6 (fun _ => 0), ain (kD k) q7 6 (fun _ => 0), ain (kD k) q8 6 (fun _ => 0), ain (kD k) q9 6 (fun _ => 0), ain (kD k) q10 20 (fun _ => 0), ain (kD k) q11 20 (fun _ => 0), ain (kD k) q12 20 (fun _ => 0), ain (kD k) q13 20 (fun _ => 0), ain (kD k) q14 20 (fun _ => 0), ain (kD k) q15 20 (fun _ => 0)] rfl ?_
  refine j_aloadn F dX4_init_182 rfl ?_
  refine j_bipush F (v := 20) dX4_init_183 (by decide) ?_
  refine j_newa F hR.1 (N := 20) (by decide) (by decide) dX4_init_185 (Nat.le_of_ble_eq_true rfl) (Nat.le_of_ble_eq_true rfl) (fun q16 => ?_)
  refine j_ws [obC a 5 [.int 0, .int 0, .int 540, .int 1020, .ref q1, .ref q2, .int 0, .ref q3, .ref q4, .ref q5, .ref q6, .ref q7, .ref q8, .ref q9, .int 0, .ref q10, .ref q11, .ref q12, .ref q13, .ref q14, .ref q15, .null, .null, .null, .null, .null], ain (kD k) q1 4 (upd (upd (upd (upd (fun _ => 0) 0 60) 1 120) 2 240) 3 480), ain (kD k) q2 4 (upd (upd (upd (upd (fun _ => 0) 0 240) 1 480) 2 960) 3 1920), ain (kD k) q3 6 (fun _ => 0), ain (kD k) q4 6 (fun _ => 0), ain (kD k) q5 6 (fun _ => 0), ain (kD k) q6 6 (fun _ => 0), ain (kD k) q7 6 (fun _ => 0), ain (kD k) q8 6 (fun _ => 0), ain (kD k) q9 6 (fun _ => 0), ain (kD k) q10 20 (fun _ => 0), ain (kD k) q11 20 (fun _ => 0), ain (kD k) q12 20 (fun _ => 0), ain (kD k) q13 20 (fun _ => 0), ain (kD k) q14 20 (fun _ => 0), ain (kD k) q15 20 (fun _ => 0), ain (kD k) q16 20 (fun _ => 0)] rfl ?_
  refine pf_X4_62 F hR.1 (hin rfl) dX4_init_187 rfl rfl 0 rfl (Nat.le_of_ble_eq_true rfl) [obC a 5 [.int 0, .int 0, .int 540, .int 1020, .ref q1, .ref q2, .int 0, .ref q3, .ref q4, .ref q5, .ref q6, .ref q7, .ref q8, .ref q9, .int 0, .ref q10, .ref q11, .ref q12, .ref q13, .ref q14, .ref q15, .ref q16, .null, .null, .null, .null], ain (kD k) q1 4 (upd (upd (upd (upd (fun _ => 0) 0 60) 1 120) 2 240) 3 480), ain (kD k) q2 4 (upd (upd (upd (upd (fun _ => 0) 0 240) 1 480) 2 960) 3 1920), ain (kD k) q3 6 (fun _ => 0), ain (kD k) q4 6 (fun _ => 0), ain (kD k) q5 6 (fun _ => 0), ain (kD k) q6 6 (fun _ => 0), ain (kD k) q7 6 (fun _ => 0), ain (kD k) q8 6 (fun _ => 0), ain (kD k) q9 6 (fun _ => 0), ain (kD k) q10 20 (fun _ => 0), ain (kD k) q11 20 (fun _ => 0), ain (kD k) q12 20 (fun _ => 0), ain (kD k) q13 20 (fun _ => 0), ain (kD k) q14 20 (fun _ => 0), ain (kD k) q15 20 (fun _ => 0), ain (kD k) q16 20 (fun _ => 0)] rfl ?_
  refine j_aloadn F dX4_init_190 rfl ?_
  refine j_bipush F (v := 20) dX4_init_191 (by decide) ?_
  refine j_newa F hR.1 (N := 20) (by decide) (by decide) dX4_init_193 (Nat.le_of_ble_eq_true rfl) (Nat.le_of_ble_eq_true rfl) (fun q17 => ?_)
  refine j_ws [obC a 5 [.int 0, .int 0, .int 540, .int 1020, .ref q1, .ref q2, .int 0, .ref q3, .ref q4, .ref q5, .ref q6, .ref q7, .ref q8, .ref q9, .int 0, .ref q10, .ref q11, .ref q12, .ref q13, .ref q14, .ref q15, .ref q16, .null, .null, .null, .null], ain (kD k) q1 4 (upd (upd (upd (upd (fun _ => 0) 0 60) 1 120) 2 240) 3 480), ain (kD k) q2 4 (upd (upd (upd (upd (fun _ => 0) 0 240) 1 480) 2 960) 3 1920), ain (kD k) q3 6 (fun _ => 0), ain (kD k) q4 6 (fun _ => 0), ain (kD k) q5 6 (fun _ => 0), ain (kD k) q6 6 (fun _ => 0), ain (kD k) q7 6 (fun _ => 0), ain (kD k) q8 6 (fun _ => 0), ain (kD k) q9 6 (fun _ => 0), ain (kD k) q10 20 (fun _ => 0), ain (kD k) q11 20 (fun _ => 0), ain (kD k) q12 20 (fun _ => 0), ain (kD k) q13 20 (fun _ => 0), ain (kD k) q14 20 (fun _ => 0), ain (kD k) q15 20 (fun _ => 0), ain (kD k) q16 20 (fun _ => 0), ain (kD k) q17 20 (fun _ => 0)] rfl ?_
  refine pf_X4_65 F hR.1 (hin rfl) dX4_init_195 rfl rfl 0 rfl (Nat.le_of_ble_eq_true rfl) [obC a 5 [.int 0, .int 0, .int 540, .int 1020, .ref q1, .ref q2, .int 0, .ref q3, .ref q4, .ref q5, .ref q6, .ref q7, .ref q8, .ref q9, .int 0, .ref q10, .ref q11, .ref q12, .ref q13, .ref q14, .ref q15, .ref q16, .ref q17, .null, .null, .null], ain (kD k) q1 4 (upd (upd (upd (upd (fun _ => 0) 0 60) 1 120) 2 240) 3 480), ain (kD k) q2 4 (upd (upd (upd (upd (fun _ => 0) 0 240) 1 480) 2 960) 3 1920), ain (kD k) q3 6 (fun _ => 0), ain (kD k) q4 6 (fun _ => 0), ain (kD k) q5 6 (fun _ => 0), ain (kD k) q6 6 (fun _ => 0), ain (kD k) q7 6 (fun _ => 0), ain (kD k) q8 6 (fun _ => 0), ain (kD k) q9 6 (fun _ => 0), ain (kD k) q10 20 (fun _ => 0), ain (kD k) q11 20 (fun _ => 0), ain (kD k) q12 20 (fun _ => 0), ain (kD k) q13 20 (fun _ => 0), ain (kD k) q14 20 (fun _ => 0), ain (kD k) q15 20 (fun _ => 0), ain (kD k) q16 20 (fun _ => 0), ain (kD k) q17 20 (fun _ => 0)] rfl ?_
  refine j_aloadn F dX4_init_198 rfl ?_
  refine j_bipush F (v := 20) dX4_init_199 (by decide) ?_
  refine j_newa F hR.1 (N := 20) (by decide) (by decide) dX4_init_201 (Nat.le_of_ble_eq_true rfl) (Nat.le_of_ble_eq_true rfl) (fun q18 => ?_)
  refine j_ws [obC a 5 [.int 0, .int 0, .int 540, .int 1020, .ref q1, .ref q2, .int 0, .ref q3, .ref q4, .ref q5, .ref q6, .ref q7, .ref q8, .ref q9, .int 0, .ref q10, .ref q11, .ref q12, .ref q13, .ref q14, .ref q15, .ref q16, .ref q17, .null, .null, .null], ain (kD k) q1 4 (upd (upd (upd (upd (fun _ => 0) 0 60) 1 120) 2 240) 3 480), ain (kD k) q2 4 (upd (upd (upd (upd (fun _ => 0) 0 240) 1 480) 2 960) 3 1920), ain (kD k) q3 6 (fun _ => 0), ain (kD k) q4 6 (fun _ => 0), ain (kD k) q5 6 (fun _ => 0), ain (kD k) q6 6 (fun _ => 0), ain (kD k) q7 6 (fun _ => 0), ain (kD k) q8 6 (fun _ => 0), ain (kD k) q9 6 (fun _ => 0), ain (kD k) q10 20 (fun _ => 0), ain (kD k) q11 20 (fun _ => 0), ain (kD k) q12 20 (fun _ => 0), ain (kD k) q13 20 (fun _ => 0), ain (kD k) q14 20 (fun _ => 0), ain (kD k) q15 20 (fun _ => 0), ain (kD k) q16 20 (fun _ => 0), ain (kD k) q17 20 (fun _ => 0), ain (kD k) q18 20 (fun _ => 0)] rfl ?_
  refine pf_X4_68 F hR.1 (hin rfl) dX4_init_203 rfl rfl 0 rfl (Nat.le_of_ble_eq_true rfl) [obC a 5 [.int 0, .int 0, .int 540, .int 1020, .ref q1, .ref q2, .int 0, .ref q3, .ref q4, .ref q5, .ref q6, .ref q7, .ref q8, .ref q9, .int 0, .ref q10, .ref q11, .ref q12, .ref q13, .ref q14, .ref q15, .ref q16, .ref q17, .ref q18, .null, .null], ain (kD k) q1 4 (upd (upd (upd (upd (fun _ => 0) 0 60) 1 120) 2 240) 3 480), ain (kD k) q2 4 (upd (upd (upd (upd (fun _ => 0) 0 240) 1 480) 2 960) 3 1920), ain (kD k) q3 6 (fun _ => 0), ain (kD k) q4 6 (fun _ => 0), ain (kD k) q5 6 (fun _ => 0), ain (kD k) q6 6 (fun _ => 0), ain (kD k) q7 6 (fun _ => 0), ain (kD k) q8 6 (fun _ => 0), ain (kD k) q9 6 (fun _ => 0), ain (kD k) q10 20 (fun _ => 0), ain (kD k) q11 20 (fun _ => 0), ain (kD k) q12 20 (fun _ => 0), ain (kD k) q13 20 (fun _ => 0), ain (kD k) q14 20 (fun _ => 0), ain (kD k) q15 20 (fun _ => 0), ain (kD k) q16 20 (fun _ => 0), ain (kD k) q17 20 (fun _ => 0), ain (kD k) q18 20 (fun _ => 0)] rfl ?_
  refine j_aloadn F dX4_init_206 rfl ?_
  refine j_bipush F (v := 20) dX4_init_207 (by decide) ?_
  refine j_newa F hR.1 (N := 20) (by decide) (by decide) dX4_init_209 (Nat.le_of_ble_eq_true rfl) (Nat.le_of_ble_eq_true rfl) (fun q19 => ?_)
  refine j_ws [obC a 5 [.int 0, .int 0, .int 540, .int 1020, .ref q1, .ref q2, .int 0, .ref q3, .ref q4, .ref q5, .ref q6, .ref q7, .ref q8, .ref q9, .int 0, .ref q10, .ref q11, .ref q12, .ref q13, .ref q14, .ref q15, .ref q16, .ref q17, .ref q18, .null, .null], ain (kD k) q1 4 (upd (upd (upd (upd (fun _ => 0) 0 60) 1 120) 2 240) 3 480), ain (kD k) q2 4 (upd (upd (upd (upd (fun _ => 0) 0 240) 1 480) 2 960) 3 1920), ain (kD k) q3 6 (fun _ => 0), ain (kD k) q4 6 (fun _ => 0), ain (kD k) q5 6 (fun _ => 0), ain (kD k) q6 6 (fun _ => 0), ain (kD k) q7 6 (fun _ => 0), ain (kD k) q8 6 (fun _ => 0), ain (kD k) q9 6 (fun _ => 0), ain (kD k) q10 20 (fun _ => 0), ain (kD k) q11 20 (fun _ => 0), ain (kD k) q12 20 (fun _ => 0), ain (kD k) q13 20 (fun _ => 0), ain (kD k) q14 20 (fun _ => 0), ain (kD k) q15 20 (fun _ => 0), ain (kD k) q16 20 (fun _ => 0), ain (kD k) q17 20 (fun _ => 0), ain (kD k) q18 20 (fun _ => 0), ain (kD k) q19 20 (fun _ => 0)] rfl ?_
  refine pf_X4_71 F hR.1 (hin rfl) dX4_init_211 rfl rfl 0 rfl (Nat.le_of_ble_eq_true rfl) [obC a 5 [.int 0, .int 0, .int 540, .int 1020, .ref q1, .ref q2, .int 0, .ref q3, .ref q4, .ref q5, .ref q6, .ref q7, .ref q8, .ref q9, .int 0, .ref q10, .ref q11, .ref q12, .ref q13, .ref q14, .ref q15, .ref q16, .ref q17, .ref q18, .ref q19, .null], ain (kD k) q1 4 (upd (upd (upd (upd (fun _ => 0) 0 60) 1 120) 2 240) 3 480), ain (kD k) q2 4 (upd (upd (upd (upd (fun _ => 0) 0 240) 1 480) 2 960) 3 1920), ain (kD k) q3 6 (fun _ => 0), ain (kD k) q4 6 (fun _ => 0), ain (kD k) q5 6 (fun _ => 0), ain (kD k) q6 6 (fun _ => 0), ain (kD k) q7 6 (fun _ => 0), ain (kD k) q8 6 (fun _ => 0), ain (kD k) q9 6 (fun _ => 0), ain (kD k) q10 20 (fun _ => 0), ain (kD k) q11 20 (fun _ => 0), ain (kD k) q12 20 (fun _ => 0), ain (kD k) q13 20 (fun _ => 0), ain (kD k) q14 20 (fun _ => 0), ain (kD k) q15 20 (fun _ => 0), ain (kD k) q16 20 (fun _ => 0), ain (kD k) q17 20 (fun _ => 0), ain (kD k) q18 20 (fun _ => 0), ain (kD k) q19 20 (fun _ => 0)] rfl ?_
  refine j_aloadn F dX4_init_214 rfl ?_
  refine j_bipush F (v := 20) dX4_init_215 (by decide) ?_
  refine j_newa F hR.1 (N := 20) (by decide) (by decide) dX4_init_217 (Nat.le_of_ble_eq_true rfl) (Nat.le_of_ble_eq_true rfl) (fun q20 => ?_)
  refine j_ws [obC a 5 [.int 0, .int 0, .int 540, .int 1020, .ref q1, .ref q2, .int 0, .ref q3, .ref q4, .ref q5, .ref q6, .ref q7, .ref q8, .ref q9, .int 0, .ref q10, .ref q11, .ref q12, .ref q13, .ref q14, .ref q15, .ref q16, .ref q17, .ref q18, .ref q19, .null], ain (kD k) q1 4 (upd (upd (upd (upd (fun _ => 0) 0 60) 1 120) 2 240) 3 480), ain (kD k) q2 4 (upd (upd (upd (upd (fun _ => 0) 0 240) 1 480) 2 960) 3 1920), ain (kD k) q3 6 (fun _ => 0), ain (kD k) q4 6 (fun _ => 0), ain (kD k) q5 6 (fun _ => 0), ain (kD k) q6 6 (fun _ => 0), ain (kD k) q7 6 (fun _ => 0), ain (kD k) q8 6 (fun _ => 0), ain (kD k) q9 6 (fun _ => 0), ain (kD k) q10 20 (fun _ => 0), ain (kD k) q11 20 (fun _ => 0), ain (kD k) q12 20 (fun _ => 0), ain (kD k) q13 20 (fun _ => 0), ain (kD k) q14 20 (fun _ => 0), ain (kD k) q15 20 (fun _ => 0), ain (kD k) q16 20 (fun _ => 0), ain (kD k) q17 20 (fun _ => 0), ain (kD k) q18 20 (fun _ => 0), ain (kD k) q19 20 (fun _ => 0), ain (kD k) q20 20 (fun _ => 0)] rfl ?_
  refine pf_X4_74 F hR.1 (hin rfl) dX4_init_219 rfl rfl 0 rfl (Nat.le_of_ble_eq_true rfl) [obC a 5 [.int 0, .int 0, .int 540, .int 1020, .ref q1, .ref q2, .int 0, .ref q3, .ref q4, .ref q5, .ref q6, .ref q7, .ref q8, .ref q9, .int 0, .ref q10, .ref q11, .ref q12, .ref q13, .ref q14, .ref q15, .ref q16, .ref q17, .ref q18, .ref q19, .ref q20], ain (kD k) q1 4 (upd (upd (upd (upd (fun _ => 0) 0 60) 1 120) 2 240) 3 480), ain (kD k) q2 4 (upd (upd (upd (upd (fun _ => 0) 0 240) 1 480) 2 960) 3 1920), ain (kD k) q3 6 (fun _ => 0), ain (kD k) q4 6 (fun _ => 0), ain (kD k) q5 6 (fun _ => 0), ain (kD k) q6 6 (fun _ => 0), ain (kD k) q7 6 (fun _ => 0), ain (kD k) q8 6 (fun _ => 0), ain (kD k) q9 6 (fun _ => 0), ain (kD k) q10 20 (fun _ => 0), ain (kD k) q11 20 (fun _ => 0), ain (kD k) q12 20 (fun _ => 0), ain (kD k) q13 20 (fun _ => 0), ain (kD k) q14 20 (fun _ => 0), ain (kD k) q15 20 (fun _ => 0), ain (kD k) q16 20 (fun _ => 0), ain (kD k) q17 20 (fun _ => 0), ain (kD k) q18 20 (fun _ => 0), ain (kD k) q19 20 (fun _ => 0), ain (kD k) q20 20 (fun _ => 0)] rfl ?_
  exact j_vret F hR dX4_init_222 (Nat.le_of_ble_eq_true rfl) (Nat.le_of_ble_eq_true rfl) ⟨rfl, (fun i => match i with | 0 => a | 4 => q1 | 5 => q2 | 7 => q3 | 8 => q4 | 9 => q5 | 10 => q6 | 11 => q7 | 12 => q8 | 13 => q9 | 15 => q10 | 16 => q11 | 17 => q12 | 18 => q13 | 19 => q14 | 20 => q15 | 21 => q16 | 22 => q17 | 23 => q18 | 24 => q19 | 25 => q20 | _ => 0), rfl, rfl⟩
