/-! THE CLASS'S METHODS, the others that call nothing new into being -/
theorem j_iincW {k : Kx} {cc : ByteArray} {own : String} {R : Room} {nL : Nat} {ws : va_W} {c n pc : Nat} {lv : List (Option Value)} {st : List Value} (F : Fx k cc own R nL) {i : Nat} {d : Int} {x v : Int32} (lv' : List (Option Value)) (hd : decode cc pc = .ok (.iinc i d, 6)) (hl : lv[i]? = some (some (.int x))) (hv : x + Int32.ofInt d = v) (ho : (Nat.blt i lv.length && okst lv i) = true) (hn : Nat.blt i nL = true) (he : lv.set i (some (.int v)) = lv') (K : J k ws c n (pc + 6) lv' st) : J k ws c n pc lv st := fun H locs ls hP hL => by
  obtain ⟨j, hj⟩ := List.getElem?_of_mem ((prs_iff lv 0 i (.int x)).mpr ⟨i, by omega, hl⟩)
  exact lv_iincW F.hx F.hb hd hL hj hv (by rw [F.hn]; simpa using hn) rfl fun ls' h => K H locs ls' hP (lvh.put ho he h)
theorem CI_take {na nt : Nat} {G : CG} {v : S2} {r : R2} {t : Nat} (h : CI G v r) : CI G (C_takeFromHolder na nt v r t).1 (C_takeFromHolder na nt v r t).2 := by
  unfold C_takeFromHolder
  split
  · exact h
  · exact CI_none (CI_none h)
theorem CI_handBack {na nt : Nat} {G : CG} {v : S2} {r : R2} {t : Nat} (h : CI G v r) : CI G (C_handBack na nt v r t).1 (C_handBack na nt v r t).2 := by
  unfold C_handBack
  exact CI_v (by decide) (CI_take h)
theorem CI_give {na nt : Nat} {G : CG} {v : S2} {r : R2} {t a : Nat} (h : CI G v r) (ht : t < nT G) (ha : a < nA G) : CI G (C_give na nt v r t a).1 (C_give na nt v r t a).2 := by
  have h1 : CI G v (u3 (u3 (u3 r 15 a (some t)) 32 t (some a)) 33 t (some a)) := by
    refine CI_r (CI_r (CI_r h ?_ ?_ ?_ ?_) ?_ ?_ ?_ ?_) ?_ ?_ ?_ ?_ <;> intro z <;> first | exact absurd z (by decide) | (intro b e; cases e; assumption)
  unfold C_give
  split
  · exact CI_v (by decide) h1
  · exact CI_v (by decide) (CI_v (by decide) h1)
theorem CI_solve {na nt : Nat} {G : CG} {v : S2} {r : R2} {t a : Nat} (h : CI G v r) : CI G (C_solve na nt v r t a).1 (C_solve na nt v r t a).2 := by
  unfold C_solve
  exact CI_v (by decide) (CI_v (by decide) (CI_v (by decide) (CI_take h)))
theorem in_lt {x : Int32} {n : Nat} (hn : n < 2 ^ 31) (h0 : ¬ x < 0) (h1 : x < nI n) : vp_in x n := by
  rw [Int32.lt_iff_toInt_lt, nI_toInt hn] at h1
  rw [Int32.lt_iff_toInt_lt] at h0
  rw [vp_in_iff]
  exact ⟨Int.not_lt.mp h0, h1⟩
theorem not_in0 {x : Int32} {n : Nat} (h : x < 0) : ¬ inR x n = true := fun z => inR_iff.mp z (Or.inl h)
theorem not_in1 {x : Int32} {n : Nat} (hn : n < 2 ^ 31) (h : ¬ x < nI n) : ¬ inR x n = true := fun z => h (by
  rw [Int32.lt_iff_toInt_lt, nI_toInt hn]; exact (vp_in_iff.mp (inR_iff.mp z)).2)
theorem in_nI {x : Int32} {n : Nat} (h : vp_in x n) : x = nI (ix x) := by
  obtain ⟨j, hj, rfl⟩ := nI_of (x := x) (fun z => h (Or.inl z))
  rw [ix_nI hj]
theorem nI_mul (a b : Nat) : nI a * nI b = nI (a * b) := (Int32.ofNat_mul a b).symm
theorem nI_div {a b : Nat} (ha : a < 2 ^ 31) (hb : b < 2 ^ 31) (h0 : 0 < b) : nI a / nI b = nI (a / b) := by
  apply Int32.toInt_inj.mp
  rw [lg_idiv_nonneg (by rw [nI_toInt ha]; omega) (by rw [nI_toInt hb]; omega), nI_toInt ha, nI_toInt hb, nI_toInt (Nat.lt_of_le_of_lt (Nat.div_le_self _ _) ha)]
  rfl
theorem nI_sub {a b : Nat} (h : b ≤ a) : nI a - nI b = nI (a - b) := by
  have : nI (a - b) + nI b = nI a := by rw [nI_add, Nat.sub_add_cancel h]
  rw [← this, Int32.add_sub_cancel]
theorem nI_day {x : Int32} {n : Nat} (h : vp_in x n) : x - (x - x / 1440 * 1440) = nI (ix x / 1440 * 1440) := by
  have hl : ix x < 2 ^ 31 := by
    obtain ⟨j, hj, e⟩ := nI_of (x := x) (fun z => h (Or.inl z))
    rw [e, ix_nI hj]; exact hj
  have e := in_nI h
  have e2 : x / 1440 = nI (ix x / 1440) := by
    conv => lhs; rw [e]
    exact nI_div hl (by decide) (by decide)
  have hm : ix x / 1440 * 1440 ≤ ix x := Nat.div_mul_le_self _ _
  have e3 : x - x / 1440 * 1440 = nI (ix x - ix x / 1440 * 1440) := by
    rw [e2, show nI (ix x / 1440) * 1440 = nI (ix x / 1440 * 1440) from nI_mul _ 1440]
    conv => lhs; arg 1; rw [e]
    exact nI_sub hm
  rw [e3]
  conv => lhs; arg 1; rw [e]
  rw [nI_sub (Nat.sub_le _ _)]
  congr 1
  omega
def C_chain (r : R2) : Nat → Nat → Nat
  | 0, t => t
  | n + 1, t => match r 34 t with
    | none => t
    | some u => C_chain r n u
def C_mainOf (na nt : Nat) (v : S2) (r : R2) (t0 : Nat) : Nat := C_chain r 20 t0
theorem C_chain_lt {G : CG} {v : S2} {r : R2} (h : CI G v r) : ∀ (n t : Nat), t < nT G → C_chain r n t < nT G
  | 0, _, ht => ht
  | n + 1, t, ht => by
    show (match r 34 t with | none => t | some u => C_chain r n u) < nT G
    cases e : r 34 t with
    | none => exact ht
    | some u => exact C_chain_lt h n u (h.into ht u e)
theorem C_chain_none {r : R2} {n t : Nat} (e : r 34 t = none) : C_chain r (n + 1) t = t := by
  show (match r 34 t with | none => t | some u => C_chain r n u) = t
  rw [e]
theorem C_chain_some {r : R2} {n t u : Nat} (e : r 34 t = some u) : C_chain r (n + 1) t = C_chain r n u := by
  show (match r 34 t with | none => t | some u => C_chain r n u) = _
  rw [e]
def C_mbL (na nt : Nat) (v : S2) (r : R2) (p0 p1 : Int32) : Nat → Nat → Int32 → Int32
  | 0, _, x => x
  | f + 1, m, x => if p1 ≤ nI m then x else C_mbL na nt v r p0 p1 f (m + 1440) (x + C_H_minutesOfDay na nt v r (nI m) p0 p1)
def C_H_minutesBetween (na nt : Nat) (v : S2) (r : R2) (p0 p1 : Int32) : Int32 := C_mbL na nt v r p0 p1 70 (ix p0 / 1440 * 1440) 0
def C_msL (na nt : Nat) (v : S2) (r : R2) (p0 : Int32) : Nat → Nat → Int32 → Int32
  | 0, _, _ => -1
  | f + 1, m, l => if 99999 < nI m then -1 else if C_H_minutesOfDay na nt v r (nI m) p0 100000 < l then C_msL na nt v r p0 f (m + 1440) (l - C_H_minutesOfDay na nt v r (nI m) p0 100000) else ((if p0 < (nI m + v 0 1) then (nI m + v 0 1) else p0) + l) - 1
def C_H_minuteOfService (na nt : Nat) (v : S2) (r : R2) (p0 p1 : Int32) : Int32 := C_msL na nt v r p0 70 (ix p0 / 1440 * 1440) p1
set_option maxHeartbeats 4000000 in
theorem qX3_agentAt (l : Launch) (hst : l.stackTraces = false) (D : va_G) (G : CG) (v : S2) (r : R2) (p0 : Int32) (hG : GI D G) : CX l D yX3_agentAt cX3_agentAt 2 (some (.object "HelpDesk$Agent")) 6 110 1 6 (CW D G v r) [.ref (G.1 0 0), .int p0] (fun u w => inR p0 (nA G) = true ∧ u = some (.ref (aA G (ix p0))) ∧ w = CW D G v r) (fun E => ¬ inR p0 (nA G) = true ∧ E = eI) := by
  refine CX_of [some (.ref (G.1 0 0)), some (.int p0)] hst (by decide +kernel) rfl (Nat.le_of_ble_eq_true rfl) (fun k F hl hD hR hX hNT => ?_)
  subst hl hD
  have hn : nA G < 2 ^ 31 := by have h1 := hG.nA; have h2 := hG.nT; omega
  refine j_iloadn F dX3_agentAt_0 rfl ?_
  refine j_iflt F (tgt := 15) dX3_agentAt_1 (by decide) (fun h => ?_) (fun h0 => ?_)
  · exact j_throwW F hX hNT lt_eI (text := "no such agent") (by decide +kernel) ⟨not_in0 h, rfl⟩ dX3_agentAt_15 dX3_agentAt_18 dX3_agentAt_19 dX3_agentAt_22 dX3_agentAt_25 ⟨(Nat.le_of_ble_eq_true rfl), (Nat.le_of_ble_eq_true rfl), (Nat.le_of_ble_eq_true rfl), (Nat.le_of_ble_eq_true rfl)⟩ (Nat.le_of_ble_eq_true rfl) (Nat.le_of_ble_eq_true rfl)
  refine j_iloadn F dX3_agentAt_4 rfl ?_
  refine j_aloadn F dX3_agentAt_5 rfl ?_
  refine gf_X3_26 F (v := .ref (G.1 0 4)) dX3_agentAt_6 0 rfl rfl ?_
  refine j_sizeA F lk_X3_77 dX3_agentAt_9 ⟨(Nat.le_of_ble_eq_true rfl), (Nat.le_of_ble_eq_true rfl)⟩ (Nat.le_of_ble_eq_true rfl) ⟨(Nat.le_of_ble_eq_true rfl), (Nat.le_of_ble_eq_true rfl)⟩ hst ?_
  refine j_iclt F (tgt := 26) dX3_agentAt_12 (by decide) (fun h1 => ?_) (fun h1 => ?_)
  · have hi := in_lt hn h0 h1
    refine j_aloadn F dX3_agentAt_26 rfl ?_
    refine gf_X3_26 F (v := .ref (G.1 0 4)) dX3_agentAt_27 0 rfl rfl ?_
    refine j_iloadn F dX3_agentAt_30 rfl ?_
    refine j_getA F hG hi lk_X3_231 dX3_agentAt_31 ⟨(Nat.le_of_ble_eq_true rfl), (Nat.le_of_ble_eq_true rfl)⟩ (Nat.le_of_ble_eq_true rfl) ⟨(Nat.le_of_ble_eq_true rfl), (Nat.le_of_ble_eq_true rfl)⟩ hst ?_
    refine j_cast F ul_X3_86 dX3_agentAt_34 (4 + ix p0) (cg_A (vp_lt hi)) rfl ?_
    exact j_aret F (x := some (aA G (ix p0))) hR (Or.inl ⟨_, rfl⟩) dX3_agentAt_37 (Nat.le_of_ble_eq_true rfl) (Nat.le_of_ble_eq_true rfl) ⟨inR_iff.mpr hi, rfl, rfl⟩
  · exact j_throwW F hX hNT lt_eI (text := "no such agent") (by decide +kernel) ⟨not_in1 hn h1, rfl⟩ dX3_agentAt_15 dX3_agentAt_18 dX3_agentAt_19 dX3_agentAt_22 dX3_agentAt_25 ⟨(Nat.le_of_ble_eq_true rfl), (Nat.le_of_ble_eq_true rfl), (Nat.le_of_ble_eq_true rfl), (Nat.le_of_ble_eq_true rfl)⟩ (Nat.le_of_ble_eq_true rfl) (Nat.le_of_ble_eq_true rfl)
set_option maxHeartbeats 4000000 in
theorem qX3_ticketAt (l : Launch) (hst : l.stackTraces = false) (D : va_G) (G : CG) (v : S2) (r : R2) (p0 : Int32) (hG : GI D G) : CX l D yX3_ticketAt cX3_ticketAt 2 (some (.object "HelpDesk$Ticket")) 6 110 1 6 (CW D G v r) [.ref (G.1 0 0), .int p0] (fun u w => inR p0 (nT G) = true ∧ u = some (.ref (aT G (ix p0))) ∧ w = CW D G v r) (fun E => ¬ inR p0 (nT G) = true ∧ E = eI) := by
  refine CX_of [some (.ref (G.1 0 0)), some (.int p0)] hst (by decide +kernel) rfl (Nat.le_of_ble_eq_true rfl) (fun k F hl hD hR hX hNT => ?_)
  subst hl hD
  have hn : nT G < 2 ^ 31 := by have h1 := hG.nA; have h2 := hG.nT; omega
  refine j_iloadn F dX3_ticketAt_0 rfl ?_
  refine j_iflt F (tgt := 15) dX3_ticketAt_1 (by decide) (fun h => ?_) (fun h0 => ?_)
  · exact j_throwW F hX hNT lt_eI (text := "no such ticket") (by decide +kernel) ⟨not_in0 h, rfl⟩ dX3_ticketAt_15 dX3_ticketAt_18 dX3_ticketAt_19 dX3_ticketAt_22 dX3_ticketAt_25 ⟨(Nat.le_of_ble_eq_true rfl), (Nat.le_of_ble_eq_true rfl), (Nat.le_of_ble_eq_true rfl), (Nat.le_of_ble_eq_true rfl)⟩ (Nat.le_of_ble_eq_true rfl) (Nat.le_of_ble_eq_true rfl)
  refine j_iloadn F dX3_ticketAt_4 rfl ?_
  refine j_aloadn F dX3_ticketAt_5 rfl ?_
  refine gf_X3_30 F (v := .ref (G.1 0 5)) dX3_ticketAt_6 0 rfl rfl ?_
  refine j_sizeT F lk_X3_77 dX3_ticketAt_9 ⟨(Nat.le_of_ble_eq_true rfl), (Nat.le_of_ble_eq_true rfl)⟩ (Nat.le_of_ble_eq_true rfl) ⟨(Nat.le_of_ble_eq_true rfl), (Nat.le_of_ble_eq_true rfl)⟩ hst ?_
  refine j_iclt F (tgt := 26) dX3_ticketAt_12 (by decide) (fun h1 => ?_) (fun h1 => ?_)
  · have hi := in_lt hn h0 h1
    refine j_aloadn F dX3_ticketAt_26 rfl ?_
    refine gf_X3_30 F (v := .ref (G.1 0 5)) dX3_ticketAt_27 0 rfl rfl ?_
    refine j_iloadn F dX3_ticketAt_30 rfl ?_
    refine j_getT F hG hi lk_X3_231 dX3_ticketAt_31 ⟨(Nat.le_of_ble_eq_true rfl), (Nat.le_of_ble_eq_true rfl)⟩ (Nat.le_of_ble_eq_true rfl) ⟨(Nat.le_of_ble_eq_true rfl), (Nat.le_of_ble_eq_true rfl)⟩ hst ?_
    refine j_cast F ul_X3_112 dX3_ticketAt_34 (4 + nA G + ix p0) (cg_T (vp_lt hi)) rfl ?_
    exact j_aret F (x := some (aT G (ix p0))) hR (Or.inl ⟨_, rfl⟩) dX3_ticketAt_37 (Nat.le_of_ble_eq_true rfl) (Nat.le_of_ble_eq_true rfl) ⟨inR_iff.mpr hi, rfl, rfl⟩
  · exact j_throwW F hX hNT lt_eI (text := "no such ticket") (by decide +kernel) ⟨not_in1 hn h1, rfl⟩ dX3_ticketAt_15 dX3_ticketAt_18 dX3_ticketAt_19 dX3_ticketAt_22 dX3_ticketAt_25 ⟨(Nat.le_of_ble_eq_true rfl), (Nat.le_of_ble_eq_true rfl), (Nat.le_of_ble_eq_true rfl), (Nat.le_of_ble_eq_true rfl)⟩ (Nat.le_of_ble_eq_true rfl) (Nat.le_of_ble_eq_true rfl)
def C_toldOfAgent (na nt : Nat) (v : S2) (r : R2) (a0 : Nat) (p1 : Int32) : Int32 := if p1 = 0 then C_numberOfTicket na nt v r (r 15 a0) else if p1 = 1 then v 16 a0 else if p1 = 2 then v 17 a0 else if (C_A_isThere na nt v r a0 (v 0 0)) = true then 1 else 0
set_option maxHeartbeats 4000000 in
set_option maxRecDepth 100000 in
theorem qX3_toldOfAgent (l : Launch) (hst : l.stackTraces = false) (D : va_G) (G : CG) (v : S2) (r : R2) (a0 : Nat) (p1 : Int32) (hC : CI G v r) (ha : a0 < nA G) : CR l D yX3_toldOfAgent cX3_toldOfAgent 3 (some .int) 2 42 (CW D G v r) [.ref (G.1 0 0), .ref (aA G a0), .int p1] (.int (C_toldOfAgent (nA G) (nT G) v r a0 p1)) := by
  refine CR_of [some (.ref (G.1 0 0)), some (.ref (aA G a0)), some (.int p1)] hst (by decide +kernel) rfl (Nat.le_of_ble_eq_true rfl) (fun k F hl hD hR => ?_)
  subst hl hD
  refine j_iloadn F dX3_toldOfAgent_0 rfl ?_
  by_cases h1_0 : p1 = 0
  · refine j_tabin F (off := 27) (tgt := 28) dX3_toldOfAgent_1 (by rw [h1_0]; decide) (by rw [h1_0]; decide) (by rw [h1_0]; rfl) (by decide) ?_
    refine j_aloadn F dX3_toldOfAgent_28 rfl ?_
    refine gf_X3_107 F (v := va_rf ((r 15 a0).map (aT G))) dX3_toldOfAgent_29 (4 + a0) (cg_A ha) rfl ?_
    refine j_rdS F (qX3_numberOfTicket (kl k) hst (kD k) G v r (r 15 a0) ((CI.held hC ha))) lk_X3_133 dX3_toldOfAgent_32 ⟨(Nat.le_of_ble_eq_true rfl), (Nat.le_of_ble_eq_true rfl)⟩ (fun _ h => h) rfl (Nat.le_of_ble_eq_true rfl) ⟨(Nat.le_of_ble_eq_true rfl), (Nat.le_of_ble_eq_true rfl)⟩ ?_
    exact j_iretR F hR dX3_toldOfAgent_35 (congrArg Value.int (show C_toldOfAgent (nA G) (nT G) v r a0 p1 = C_numberOfTicket (nA G) (nT G) v r (r 15 a0) from by rw [C_toldOfAgent, if_pos h1_0]))
  by_cases h1_1 : p1 = 1
  · refine j_tabin F (off := 35) (tgt := 36) dX3_toldOfAgent_1 (by rw [h1_1]; decide) (by rw [h1_1]; decide) (by rw [h1_1]; rfl) (by decide) ?_
    refine j_aloadn F dX3_toldOfAgent_36 rfl ?_
    refine gf_X3_278 F (v := .int (v 16 a0)) dX3_toldOfAgent_37 (4 + a0) (cg_A ha) rfl ?_
    exact j_iretR F hR dX3_toldOfAgent_40 (congrArg Value.int (show C_toldOfAgent (nA G) (nT G) v r a0 p1 = v 16 a0 from by rw [C_toldOfAgent, if_neg h1_0, if_pos h1_1]))
  by_cases h1_2 : p1 = 2
  · refine j_tabin F (off := 40) (tgt := 41) dX3_toldOfAgent_1 (by rw [h1_2]; decide) (by rw [h1_2]; decide) (by rw [h1_2]; rfl) (by decide) ?_
    refine j_aloadn F dX3_toldOfAgent_41 rfl ?_
    refine gf_X3_284 F (v := .int (v 17 a0)) dX3_toldOfAgent_42 (4 + a0) (cg_A ha) rfl ?_
    exact j_iretR F hR dX3_toldOfAgent_45 (congrArg Value.int (show C_toldOfAgent (nA G) (nT G) v r a0 p1 = v 17 a0 from by rw [C_toldOfAgent, if_neg h1_0, if_neg h1_1, if_pos h1_2]))
  refine j_tabout F (tgt := 46) dX3_toldOfAgent_1 (tab_out3 h1_0 h1_1 h1_2) (by decide) ?_
  refine j_aloadn F dX3_toldOfAgent_46 rfl ?_
  refine j_aloadn F dX3_toldOfAgent_47 rfl ?_
  refine gf_X3_33 F (v := .int (v 0 0)) dX3_toldOfAgent_48 0 rfl rfl ?_
  refine j_rdV F (qX0_isThere (kl k) hst (kD k) G v r a0 (v 0 0) ha) lk_X3_271 dX3_toldOfAgent_51 ⟨(Nat.le_of_ble_eq_true rfl), (Nat.le_of_ble_eq_true rfl)⟩ (fun _ h => h) (4 + a0) (cg_A ha) rfl rfl (Nat.le_of_ble_eq_true rfl) ⟨(Nat.le_of_ble_eq_true rfl), (Nat.le_of_ble_eq_true rfl)⟩ ?_
  refine j_ifbeq F (tgt := 61) dX3_toldOfAgent_54 (by decide) (fun h54 => ?_) (fun h54 => ?_)
  · refine j_iconst F (v := 0) dX3_toldOfAgent_61 (by decide) ?_
    exact j_iretR F hR dX3_toldOfAgent_62 (congrArg Value.int (show C_toldOfAgent (nA G) (nT G) v r a0 p1 = 0 from by rw [C_toldOfAgent, if_neg h1_0, if_neg h1_1, if_neg h1_2, if_neg h54]))
  · refine j_iconst F (v := 1) dX3_toldOfAgent_57 (by decide) ?_
    refine j_goto F (tgt := 62) dX3_toldOfAgent_58 (by decide) ?_
    exact j_iretR F hR dX3_toldOfAgent_62 (congrArg Value.int (show C_toldOfAgent (nA G) (nT G) v r a0 p1 = 1 from by rw [C_toldOfAgent, if_neg h1_0, if_neg h1_1, if_neg h1_2, if_pos h54]))
def C_toldOfTicket (na nt : Nat) (v : S2) (r : R2) (t0 : Nat) (p1 : Int32) : Int32 := if p1 = 0 then v 24 t0 else if p1 = 1 then C_numberOfAgent na nt v r (r 32 t0) else if p1 = 2 then v 22 t0 else if p1 = 3 then v 25 t0 else if p1 = 4 then v 26 t0 else if p1 = 5 then v 23 t0 else if p1 = 6 then v 27 t0 else v 28 t0
set_option maxHeartbeats 4000000 in
set_option maxRecDepth 100000 in
theorem qX3_toldOfTicket (l : Launch) (hst : l.stackTraces = false) (D : va_G) (G : CG) (v : S2) (r : R2) (t0 : Nat) (p1 : Int32) (hC : CI G v r) (ht : t0 < nT G) : CR l D yX3_toldOfTicket cX3_toldOfTicket 2 (some .int) 1 20 (CW D G v r) [.ref (aT G t0), .int p1] (.int (C_toldOfTicket (nA G) (nT G) v r t0 p1)) := by
  refine CR_of [some (.ref (aT G t0)), some (.int p1)] hst (by decide +kernel) rfl (Nat.le_of_ble_eq_true rfl) (fun k F hl hD hR => ?_)
  subst hl hD
  refine j_iloadn F dX3_toldOfTicket_0 rfl ?_
  by_cases h1_0 : p1 = 0
  · refine j_tabin F (off := 43) (tgt := 44) dX3_toldOfTicket_1 (by rw [h1_0]; decide) (by rw [h1_0]; decide) (by rw [h1_0]; rfl) (by decide) ?_
    refine j_aloadn F dX3_toldOfTicket_44 rfl ?_
    refine gf_X3_147 F (v := .int (v 24 t0)) dX3_toldOfTicket_45 (4 + nA G + t0) (cg_T ht) rfl ?_
    exact j_iretR F hR dX3_toldOfTicket_48 (congrArg Value.int (show C_toldOfTicket (nA G) (nT G) v r t0 p1 = v 24 t0 from by rw [C_toldOfTicket, if_pos h1_0]))
  by_cases h1_1 : p1 = 1
  · refine j_tabin F (off := 48) (tgt := 49) dX3_toldOfTicket_1 (by rw [h1_1]; decide) (by rw [h1_1]; decide) (by rw [h1_1]; rfl) (by decide) ?_
    refine j_aloadn F dX3_toldOfTicket_49 rfl ?_
    refine gf_X3_287 F (v := va_rf ((r 32 t0).map (aA G))) dX3_toldOfTicket_50 (4 + nA G + t0) (cg_T ht) rfl ?_
    refine j_rdS F (qX3_numberOfAgent (kl k) hst (kD k) G v r (r 32 t0) ((CI.holder hC ht))) lk_X3_301 dX3_toldOfTicket_53 ⟨(Nat.le_of_ble_eq_true rfl), (Nat.le_of_ble_eq_true rfl)⟩ (fun _ h => h) rfl (Nat.le_of_ble_eq_true rfl) ⟨(Nat.le_of_ble_eq_true rfl), (Nat.le_of_ble_eq_true rfl)⟩ ?_
    exact j_iretR F hR dX3_toldOfTicket_56 (congrArg Value.int (show C_toldOfTicket (nA G) (nT G) v r t0 p1 = C_numberOfAgent (nA G) (nT G) v r (r 32 t0) from by rw [C_toldOfTicket, if_neg h1_0, if_pos h1_1]))
  by_cases h1_2 : p1 = 2
  · refine j_tabin F (off := 56) (tgt := 57) dX3_toldOfTicket_1 (by rw [h1_2]; decide) (by rw [h1_2]; decide) (by rw [h1_2]; rfl) (by decide) ?_
    refine j_aloadn F dX3_toldOfTicket_57 rfl ?_
    refine gf_X3_152 F (v := .int (v 22 t0)) dX3_toldOfTicket_58 (4 + nA G + t0) (cg_T ht) rfl ?_
    exact j_iretR F hR dX3_toldOfTicket_61 (congrArg Value.int (show C_toldOfTicket (nA G) (nT G) v r t0 p1 = v 22 t0 from by rw [C_toldOfTicket, if_neg h1_0, if_neg h1_1, if_pos h1_2]))
  by_cases h1_3 : p1 = 3
  · refine j_tabin F (off := 61) (tgt := 62) dX3_toldOfTicket_1 (by rw [h1_3]; decide) (by rw [h1_3]; decide) (by rw [h1_3]; rfl) (by decide) ?_
    refine j_aloadn F dX3_toldOfTicket_62 rfl ?_
    refine gf_X3_187 F (v := .int (v 25 t0)) dX3_toldOfTicket_63 (4 + nA G + t0) (cg_T ht) rfl ?_
    exact j_iretR F hR dX3_toldOfTicket_66 (congrArg Value.int (show C_toldOfTicket (nA G) (nT G) v r t0 p1 = v 25 t0 from by rw [C_toldOfTicket, if_neg h1_0, if_neg h1_1, if_neg h1_2, if_pos h1_3]))
  by_cases h1_4 : p1 = 4
  · refine j_tabin F (off := 66) (tgt := 67) dX3_toldOfTicket_1 (by rw [h1_4]; decide) (by rw [h1_4]; decide) (by rw [h1_4]; rfl) (by decide) ?_
    refine j_aloadn F dX3_toldOfTicket_67 rfl ?_
    refine gf_X3_166 F (v := .int (v 26 t0)) dX3_toldOfTicket_68 (4 + nA G + t0) (cg_T ht) rfl ?_
    exact j_iretR F hR dX3_toldOfTicket_71 (congrArg Value.int (show C_toldOfTicket (nA G) (nT G) v r t0 p1 = v 26 t0 from by rw [C_toldOfTicket, if_neg h1_0, if_neg h1_1, if_neg h1_2, if_neg h1_3, if_pos h1_4]))
  by_cases h1_5 : p1 = 5
  · refine j_tabin F (off := 71) (tgt := 72) dX3_toldOfTicket_1 (by rw [h1_5]; decide) (by rw [h1_5]; decide) (by rw [h1_5]; rfl) (by decide) ?_
    refine j_aloadn F dX3_toldOfTicket_72 rfl ?_
    refine gf_X3_163 F (v := .int (v 23 t0)) dX3_toldOfTicket_73 (4 + nA G + t0) (cg_T ht) rfl ?_
    exact j_iretR F hR dX3_toldOfTicket_76 (congrArg Value.int (show C_toldOfTicket (nA G) (nT G) v r t0 p1 = v 23 t0 from by rw [C_toldOfTicket, if_neg h1_0, if_neg h1_1, if_neg h1_2, if_neg h1_3, if_neg h1_4, if_pos h1_5]))
  by_cases h1_6 : p1 = 6
  · refine j_tabin F (off := 76) (tgt := 77) dX3_toldOfTicket_1 (by rw [h1_6]; decide) (by rw [h1_6]; decide) (by rw [h1_6]; rfl) (by decide) ?_
    refine j_aloadn F dX3_toldOfTicket_77 rfl ?_
    refine gf_X3_294 F (v := .int (v 27 t0)) dX3_toldOfTicket_78 (4 + nA G + t0) (cg_T ht) rfl ?_
    exact j_iretR F hR dX3_toldOfTicket_81 (congrArg Value.int (show C_toldOfTicket (nA G) (nT G) v r t0 p1 = v 27 t0 from by rw [C_toldOfTicket, if_neg h1_0, if_neg h1_1, if_neg h1_2, if_neg h1_3, if_neg h1_4, if_neg h1_5, if_pos h1_6]))
  refine j_tabout F (tgt := 82) dX3_toldOfTicket_1 (tab_out7 h1_0 h1_1 h1_2 h1_3 h1_4 h1_5 h1_6) (by decide) ?_
  refine j_aloadn F dX3_toldOfTicket_82 rfl ?_
  refine gf_X3_203 F (v := .int (v 28 t0)) dX3_toldOfTicket_83 (4 + nA G + t0) (cg_T ht) rfl ?_
  exact j_iretR F hR dX3_toldOfTicket_86 (congrArg Value.int (show C_toldOfTicket (nA G) (nT G) v r t0 p1 = v 28 t0 from by rw [C_toldOfTicket, if_neg h1_0, if_neg h1_1, if_neg h1_2, if_neg h1_3, if_neg h1_4, if_neg h1_5, if_neg h1_6]))
def C_isLikedMore (na nt : Nat) (v : S2) (r : R2) (a0 : Nat) (t1 : Nat) (t2 : Nat) : Bool := if r 33 t1 = some a0 then (if r 33 t2 = some a0 then (if (C_slackOf na nt v r t2) ≤ (C_slackOf na nt v r t1) then false else true) else true) else if r 33 t2 = some a0 then false else if (C_slackOf na nt v r t2) ≤ (C_slackOf na nt v r t1) then false else true
set_option maxHeartbeats 4000000 in
set_option maxRecDepth 100000 in
theorem qX3_isLikedMore (l : Launch) (hst : l.stackTraces = false) (D : va_G) (G : CG) (v : S2) (r : R2) (a0 : Nat) (t1 : Nat) (t2 : Nat) (hG : GI D G) (hC : CI G v r) (ha : a0 < nA G) (ht : t1 < nT G) (hu : t2 < nT G) : CR l D yX3_isLikedMore cX3_isLikedMore 6 (some .boolean) 1 21 (CW D G v r) [.ref (G.1 0 0), .ref (aA G a0), .ref (aT G t1), .ref (aT G t2)] (.int (b1 (C_isLikedMore (nA G) (nT G) v r a0 t1 t2))) := by
  refine CR_of [some (.ref (G.1 0 0)), some (.ref (aA G a0)), some (.ref (aT G t1)), some (.ref (aT G t2)), none, none] hst (by decide +kernel) rfl (Nat.le_of_ble_eq_true rfl) (fun k F hl hD hR => ?_)
  subst hl hD
  refine j_aloadn F dX3_isLikedMore_0 rfl ?_
  refine gf_X3_291 F (v := va_rf ((r 33 t1).map (aA G))) dX3_isLikedMore_1 (4 + nA G + t1) (cg_T ht) rfl ?_
  refine j_aloadn F dX3_isLikedMore_4 rfl ?_
  refine j_st (va_rf (some (aA G a0)) :: va_rf ((r 33 t1).map (aA G)) :: []) rfl ?_
  refine j_acne F (tgt := 12) dX3_isLikedMore_5 (by decide) (fun e5 => ?_) (fun e5 => ?_)
  · have h5 : ¬ r 33 t1 = some a0 := fun z => e5 ((mapA_iff hG (CI.latest hC ht) ha).mpr z)
    refine j_iconst F (v := 0) dX3_isLikedMore_12 (by decide) ?_
    refine j_istore F [some (.ref (G.1 0 0)), some (.ref (aA G a0)), some (.ref (aT G t1)), some (.ref (aT G t2)), some (.int 0), none] dX3_isLikedMore_13 rfl rfl rfl ?_
    refine j_aloadn F dX3_isLikedMore_15 rfl ?_
    refine gf_X3_291 F (v := va_rf ((r 33 t2).map (aA G))) dX3_isLikedMore_16 (4 + nA G + t2) (cg_T hu) rfl ?_
    refine j_aloadn F dX3_isLikedMore_19 rfl ?_
    refine j_st (va_rf (some (aA G a0)) :: va_rf ((r 33 t2).map (aA G)) :: []) rfl ?_
    refine j_acne F (tgt := 27) dX3_isLikedMore_20 (by decide) (fun e20 => ?_) (fun e20 => ?_)
    · have h20 : ¬ r 33 t2 = some a0 := fun z => e20 ((mapA_iff hG (CI.latest hC hu) ha).mpr z)
      refine j_iconst F (v := 0) dX3_isLikedMore_27 (by decide) ?_
      refine j_istore F [some (.ref (G.1 0 0)), some (.ref (aA G a0)), some (.ref (aT G t1)), some (.ref (aT G t2)), some (.int 0), some (.int 0)] dX3_isLikedMore_28 rfl rfl rfl ?_
      refine j_iload F dX3_isLikedMore_30 rfl ?_
      refine j_iload F dX3_isLikedMore_32 rfl ?_
      refine j_iceq F (tgt := 40) dX3_isLikedMore_34 (by decide) (fun h34 => ?_) (fun h34 => ?_)
      · refine j_aloadn F dX3_isLikedMore_40 rfl ?_
        refine j_aloadn F dX3_isLikedMore_41 rfl ?_
        refine j_rdV F (qX3_slackOf (kl k) hst (kD k) G v r t1 hC ht) lk_X3_216 dX3_isLikedMore_42 ⟨(Nat.le_of_ble_eq_true rfl), (Nat.le_of_ble_eq_true rfl)⟩ (fun _ h => h) 0 rfl rfl rfl (Nat.le_of_ble_eq_true rfl) ⟨(Nat.le_of_ble_eq_true rfl), (Nat.le_of_ble_eq_true rfl)⟩ ?_
        refine j_aloadn F dX3_isLikedMore_45 rfl ?_
        refine j_aloadn F dX3_isLikedMore_46 rfl ?_
        refine j_rdV F (qX3_slackOf (kl k) hst (kD k) G v r t2 hC hu) lk_X3_216 dX3_isLikedMore_47 ⟨(Nat.le_of_ble_eq_true rfl), (Nat.le_of_ble_eq_true rfl)⟩ (fun _ h => h) 0 rfl rfl rfl (Nat.le_of_ble_eq_true rfl) ⟨(Nat.le_of_ble_eq_true rfl), (Nat.le_of_ble_eq_true rfl)⟩ ?_
        refine j_icge F (tgt := 57) dX3_isLikedMore_50 (by decide) (fun h50 => ?_) (fun h50 => ?_)
        · refine j_iconst F (v := 0) dX3_isLikedMore_57 (by decide) ?_
          exact j_zretR F (b := false) hR dX3_isLikedMore_58 rfl (congrArg (fun z => Value.int (b1 z)) (show C_isLikedMore (nA G) (nT G) v r a0 t1 t2 = false from by rw [C_isLikedMore, if_neg h5, if_neg h20, if_pos h50]))
        · refine j_iconst F (v := 1) dX3_isLikedMore_53 (by decide) ?_
          refine j_goto F (tgt := 58) dX3_isLikedMore_54 (by decide) ?_
          exact j_zretR F (b := true) hR dX3_isLikedMore_58 rfl (congrArg (fun z => Value.int (b1 z)) (show C_isLikedMore (nA G) (nT G) v r a0 t1 t2 = true from by rw [C_isLikedMore, if_neg h5, if_neg h20, if_neg h50]))
      · exact absurd h34 (by decide)
    · have h20 : r 33 t2 = some a0 := (mapA_iff hG (CI.latest hC hu) ha).mp e20
      refine j_iconst F (v := 1) dX3_isLikedMore_23 (by decide) ?_
      refine j_goto F (tgt := 28) dX3_isLikedMore_24 (by decide) ?_
      refine j_istore F [some (.ref (G.1 0 0)), some (.ref (aA G a0)), some (.ref (aT G t1)), some (.ref (aT G t2)), some (.int 0), some (.int 1)] dX3_isLikedMore_28 rfl rfl rfl ?_
      refine j_iload F dX3_isLikedMore_30 rfl ?_
      refine j_iload F dX3_isLikedMore_32 rfl ?_
      refine j_iceq F (tgt := 40) dX3_isLikedMore_34 (by decide) (fun h34 => ?_) (fun h34 => ?_)
      · exact absurd h34 (by decide)
      · refine j_iload F dX3_isLikedMore_37 rfl ?_
        exact j_zretR F (b := false) hR dX3_isLikedMore_39 rfl (congrArg (fun z => Value.int (b1 z)) (show C_isLikedMore (nA G) (nT G) v r a0 t1 t2 = false from by rw [C_isLikedMore, if_neg h5, if_pos h20]))
  · have h5 : r 33 t1 = some a0 := (mapA_iff hG (CI.latest hC ht) ha).mp e5
    refine j_iconst F (v := 1) dX3_isLikedMore_8 (by decide) ?_
    refine j_goto F (tgt := 13) dX3_isLikedMore_9 (by decide) ?_
    refine j_istore F [some (.ref (G.1 0 0)), some (.ref (aA G a0)), some (.ref (aT G t1)), some (.ref (aT G t2)), some (.int 1), none] dX3_isLikedMore_13 rfl rfl rfl ?_
    refine j_aloadn F dX3_isLikedMore_15 rfl ?_
    refine gf_X3_291 F (v := va_rf ((r 33 t2).map (aA G))) dX3_isLikedMore_16 (4 + nA G + t2) (cg_T hu) rfl ?_
    refine j_aloadn F dX3_isLikedMore_19 rfl ?_
    refine j_st (va_rf (some (aA G a0)) :: va_rf ((r 33 t2).map (aA G)) :: []) rfl ?_
    refine j_acne F (tgt := 27) dX3_isLikedMore_20 (by decide) (fun e20 => ?_) (fun e20 => ?_)
    · have h20 : ¬ r 33 t2 = some a0 := fun z => e20 ((mapA_iff hG (CI.latest hC hu) ha).mpr z)
      refine j_iconst F (v := 0) dX3_isLikedMore_27 (by decide) ?_
      refine j_istore F [some (.ref (G.1 0 0)), some (.ref (aA G a0)), some (.ref (aT G t1)), some (.ref (aT G t2)), some (.int 1), some (.int 0)] dX3_isLikedMore_28 rfl rfl rfl ?_
      refine j_iload F dX3_isLikedMore_30 rfl ?_
      refine j_iload F dX3_isLikedMore_32 rfl ?_
      refine j_iceq F (tgt := 40) dX3_isLikedMore_34 (by decide) (fun h34 => ?_) (fun h34 => ?_)
      · exact absurd h34 (by decide)
      · refine j_iload F dX3_isLikedMore_37 rfl ?_
        exact j_zretR F (b := true) hR dX3_isLikedMore_39 rfl (congrArg (fun z => Value.int (b1 z)) (show C_isLikedMore (nA G) (nT G) v r a0 t1 t2 = true from by rw [C_isLikedMore, if_pos h5, if_neg h20]))
    · have h20 : r 33 t2 = some a0 := (mapA_iff hG (CI.latest hC hu) ha).mp e20
      refine j_iconst F (v := 1) dX3_isLikedMore_23 (by decide) ?_
      refine j_goto F (tgt := 28) dX3_isLikedMore_24 (by decide) ?_
      refine j_istore F [some (.ref (G.1 0 0)), some (.ref (aA G a0)), some (.ref (aT G t1)), some (.ref (aT G t2)), some (.int 1), some (.int 1)] dX3_isLikedMore_28 rfl rfl rfl ?_
      refine j_iload F dX3_isLikedMore_30 rfl ?_
      refine j_iload F dX3_isLikedMore_32 rfl ?_
      refine j_iceq F (tgt := 40) dX3_isLikedMore_34 (by decide) (fun h34 => ?_) (fun h34 => ?_)
      · refine j_aloadn F dX3_isLikedMore_40 rfl ?_
        refine j_aloadn F dX3_isLikedMore_41 rfl ?_
        refine j_rdV F (qX3_slackOf (kl k) hst (kD k) G v r t1 hC ht) lk_X3_216 dX3_isLikedMore_42 ⟨(Nat.le_of_ble_eq_true rfl), (Nat.le_of_ble_eq_true rfl)⟩ (fun _ h => h) 0 rfl rfl rfl (Nat.le_of_ble_eq_true rfl) ⟨(Nat.le_of_ble_eq_true rfl), (Nat.le_of_ble_eq_true rfl)⟩ ?_
        refine j_aloadn F dX3_isLikedMore_45 rfl ?_
        refine j_aloadn F dX3_isLikedMore_46 rfl ?_
        refine j_rdV F (qX3_slackOf (kl k) hst (kD k) G v r t2 hC hu) lk_X3_216 dX3_isLikedMore_47 ⟨(Nat.le_of_ble_eq_true rfl), (Nat.le_of_ble_eq_true rfl)⟩ (fun _ h => h) 0 rfl rfl rfl (Nat.le_of_ble_eq_true rfl) ⟨(Nat.le_of_ble_eq_true rfl), (Nat.le_of_ble_eq_true rfl)⟩ ?_
        refine j_icge F (tgt := 57) dX3_isLikedMore_50 (by decide) (fun h50 => ?_) (fun h50 => ?_)
        · refine j_iconst F (v := 0) dX3_isLikedMore_57 (by decide) ?_
          exact j_zretR F (b := false) hR dX3_isLikedMore_58 rfl (congrArg (fun z => Value.int (b1 z)) (show C_isLikedMore (nA G) (nT G) v r a0 t1 t2 = false from by rw [C_isLikedMore, if_pos h5, if_pos h20, if_pos h50]))
        · refine j_iconst F (v := 1) dX3_isLikedMore_53 (by decide) ?_
          refine j_goto F (tgt := 58) dX3_isLikedMore_54 (by decide) ?_
          exact j_zretR F (b := true) hR dX3_isLikedMore_58 rfl (congrArg (fun z => Value.int (b1 z)) (show C_isLikedMore (nA G) (nT G) v r a0 t1 t2 = true from by rw [C_isLikedMore, if_pos h5, if_pos h20, if_neg h50]))
      · exact absurd h34 (by decide)
theorem mb_lt {p1 : Int32} {m : Nat} (h : vp_in p1 100001) (hm : m ≤ 102240) (h2 : ¬ p1 ≤ nI m) : m < 100001 := by
  rw [Int32.le_iff_toInt_le, nI_toInt (by omega)] at h2
  have := (vp_in_iff.mp h).2
  omega
set_option maxHeartbeats 4000000 in
set_option maxRecDepth 100000 in
theorem qX1_minutesBetween (l : Launch) (hst : l.stackTraces = false) (D : va_G) (G : CG) (v : S2) (r : R2) (p0 : Int32) (p1 : Int32) (h0 : vp_in p0 100001) (h1 : vp_in p1 100001) : CR l D yX1_minutesBetween cX1_minutesBetween 5 (some .int) 2 46 (CW D G v r) [.ref (G.1 0 1), .int p0, .int p1] (.int (C_H_minutesBetween (nA G) (nT G) v r p0 p1)) := by
  refine CR_of [some (.ref (G.1 0 1)), some (.int p0), some (.int p1), none, none] hst (by decide +kernel) rfl (Nat.le_of_ble_eq_true rfl) (fun k F hl hD hR => ?_)
  subst hl hD
  refine j_iconst F (v := 0) dX1_minutesBetween_0 (by decide) ?_
  refine j_istoren F [some (.ref (G.1 0 1)), some (.int p0), some (.int p1), some (.int 0), none] dX1_minutesBetween_1 rfl rfl rfl ?_
  refine j_iloadn F dX1_minutesBetween_2 rfl ?_
  refine j_iloadn F dX1_minutesBetween_3 rfl ?_
  refine j_sipush F (v := 1440) dX1_minutesBetween_4 (by decide) ?_
  refine j_irem F dX1_minutesBetween_7 (by decide) ?_
  refine j_isub F dX1_minutesBetween_8 ?_
  refine j_istore F [some (.ref (G.1 0 1)), some (.int p0), some (.int p1), some (.int 0), some (.int (p0 - (p0 - p0 / 1440 * 1440)))] dX1_minutesBetween_9 rfl rfl rfl ?_
  refine j_lvw [some (.ref (G.1 0 1)), some (.int p0), some (.int p1), some (.int 0), some (.int (nI (ix p0 / 1440 * 1440)))] ⟨rfl, rfl, rfl, rfl, congrArg (fun z => some (Value.int z)) (nI_day h0), trivial⟩ ?_
  have hp0 := vp_lt h0
  refine (show ∀ (f m : Nat) (x : Int32), 100800 ≤ m + f * 1440 → m ≤ 102240 → C_H_minutesBetween (nA G) (nT G) v r p0 p1 = C_mbL (nA G) (nT G) v r p0 p1 f m x → J k (CW (kD k) G v r) 0 0 11 [some (.ref (G.1 0 1)), some (.int p0), some (.int p1), some (.int x), some (.int (nI m))] [] from ?_) 70 (ix p0 / 1440 * 1440) 0 (by omega) (by have := Nat.div_mul_le_self (ix p0) 1440; omega) rfl
  intro f
  induction f with
  | zero =>
    intro m x hm hm2 hc
    refine j_iload F dX1_minutesBetween_11 rfl ?_
    refine j_iloadn F dX1_minutesBetween_13 rfl ?_
    refine j_icge F (tgt := 37) dX1_minutesBetween_14 (by decide) (fun h14 => ?_) (fun h14 => ?_)
    · refine j_iloadn F dX1_minutesBetween_37 rfl ?_
      exact j_iretR F hR dX1_minutesBetween_38 (congrArg Value.int (show C_H_minutesBetween (nA G) (nT G) v r p0 p1 = x from hc))
    · exact absurd (mb_lt h1 hm2 h14) (by omega)
  | succ f ih =>
    intro m x hm hm2 hc
    refine j_iload F dX1_minutesBetween_11 rfl ?_
    refine j_iloadn F dX1_minutesBetween_13 rfl ?_
    refine j_icge F (tgt := 37) dX1_minutesBetween_14 (by decide) (fun h14 => ?_) (fun h14 => ?_)
    · refine j_iloadn F dX1_minutesBetween_37 rfl ?_
      exact j_iretR F hR dX1_minutesBetween_38 (congrArg Value.int (show C_H_minutesBetween (nA G) (nT G) v r p0 p1 = x from hc.trans (if_pos h14)))
    · refine j_iloadn F dX1_minutesBetween_17 rfl ?_
      refine j_aloadn F dX1_minutesBetween_18 rfl ?_
      refine j_iload F dX1_minutesBetween_19 rfl ?_
      refine j_iloadn F dX1_minutesBetween_21 rfl ?_
      refine j_iloadn F dX1_minutesBetween_22 rfl ?_
      refine j_rdV F (qX1_minutesOfDay (kl k) hst (kD k) G v r (nI m) p0 p1) lk_X1_22 dX1_minutesBetween_23 ⟨(Nat.le_of_ble_eq_true rfl), (Nat.le_of_ble_eq_true rfl)⟩ (fun _ h => h) 1 rfl rfl rfl (Nat.le_of_ble_eq_true rfl) ⟨(Nat.le_of_ble_eq_true rfl), (Nat.le_of_ble_eq_true rfl)⟩ ?_
      refine j_iadd F dX1_minutesBetween_26 ?_
      refine j_istoren F [some (.ref (G.1 0 1)), some (.int p0), some (.int p1), some (.int (x + (C_H_minutesOfDay (nA G) (nT G) v r (nI m) p0 p1))), some (.int (nI m))] dX1_minutesBetween_27 rfl rfl rfl ?_
      refine j_iincW F [some (.ref (G.1 0 1)), some (.int p0), some (.int p1), some (.int (x + (C_H_minutesOfDay (nA G) (nT G) v r (nI m) p0 p1))), some (.int (nI (m + 1440)))] dX1_minutesBetween_28 rfl (v := nI (m + 1440)) (nI_add _ 1440) rfl rfl rfl ?_
      refine j_goto F (tgt := 11) dX1_minutesBetween_34 (by decide) ?_
      exact ih _ _ (by omega) (by have := mb_lt h1 hm2 h14; omega) (by rw [hc]; exact if_neg h14)
theorem ms_lt {m : Nat} (hm : m ≤ 102240) (h2 : ¬ (99999 : Int32) < nI m) : m < 100000 := by
  rw [Int32.lt_iff_toInt_lt, nI_toInt (by omega)] at h2
  have e : (99999 : Int32).toInt = 99999 := by decide
  omega
def C_ageLB (na : Nat) (nt : Nat) (v : S2) (r : R2) (i : Nat) (x : S2) : S2 := if (x 24 i) = 0 then u2 x 25 i ((x 25 i) + 1) else if (x 24 i) = 1 then u2 x 25 i ((x 25 i) + 1) else x
def C_ageL (na : Nat) (nt : Nat) (v : S2) (r : R2) : Nat → S2
  | 0 => v
  | n + 1 => C_ageLB na nt v r n (C_ageL na nt v r n)
theorem C_ageL_s (na : Nat) (nt : Nat) (v : S2) (r : R2) (n : Nat) : C_ageL na nt v r (n + 1) = C_ageLB na nt v r n (C_ageL na nt v r n) := rfl
def C_ageTickets (na nt : Nat) (v : S2) (r : R2) : S2 × R2 := (C_ageL na nt v r nt, r)
set_option maxHeartbeats 4000000 in
set_option maxRecDepth 100000 in
theorem qX3_ageTickets (l : Launch) (hst : l.stackTraces = false) (D : va_G) (G : CG) (v : S2) (r : R2) (hG : GI D G) : CM l D yX3_ageTickets cX3_ageTickets 3 none 3 64 0 0 (CW D G v r) [.ref (G.1 0 0)] (dP none (CW D G (C_ageTickets (nA G) (nT G) v r).1 (C_ageTickets (nA G) (nT G) v r).2)) := by
  refine CM_of [some (.ref (G.1 0 0)), none, none] hst (by decide +kernel) rfl (Nat.le_of_ble_eq_true rfl) (fun k F hl hD hin hR => ?_)
  subst hl hD
  have hNT0 : nT G ≤ 20 := hG.nT
  refine j_iconst F (v := 0) dX3_ageTickets_0 (by decide) ?_
  refine j_istoren F [some (.ref (G.1 0 0)), some (.int 0), none] dX3_ageTickets_1 rfl rfl rfl ?_
  refine (show ∀ (fuel i : Nat) (x : S2), (nT G) - i < fuel → i ≤ (nT G) → x = C_ageL (nA G) (nT G) v r i →  J k (CW (kD k) G x r) 0 0 2 [some (.ref (G.1 0 0)), some (.int (nI i)), none] [] from ?_) ((nT G) + 1) 0 v (by omega) (Nat.zero_le _) rfl 
  intro fu2
  induction fu2 with
  | zero => intro i x hm; exact absurd hm (Nat.not_lt_zero _)
  | succ fu2 ih2 =>
    intro i x hm2 hi2 hc_x 
    refine j_iloadn F dX3_ageTickets_2 rfl ?_
    refine j_aloadn F dX3_ageTickets_3 rfl ?_
    refine gf_X3_30 F (v := .ref (G.1 0 5)) dX3_ageTickets_4 0 rfl rfl ?_
    refine j_sizeT F lk_X3_77 dX3_ageTickets_7 ⟨(Nat.le_of_ble_eq_true rfl), (Nat.le_of_ble_eq_true rfl)⟩ (Nat.le_of_ble_eq_true rfl) ⟨(Nat.le_of_ble_eq_true rfl), (Nat.le_of_ble_eq_true rfl)⟩ hst ?_
    refine j_icgeN F (x := i) (y := (nT G)) (tgt := 56) dX3_ageTickets_10 (by decide) ⟨by omega, by omega⟩ (fun h10 => ?_) (fun h10 => ?_)
    · obtain rfl : i = (nT G) := by omega
      subst hc_x
      have hz : C_ageTickets (nA G) (nT G) v r = (C_ageL (nA G) (nT G) v r (nT G), r) := rfl
      exact j_vret F hR dX3_ageTickets_56 (Nat.le_of_ble_eq_true rfl) (Nat.le_of_ble_eq_true rfl) ⟨rfl, by rw [hz]⟩
    · refine j_aloadn F dX3_ageTickets_13 rfl ?_
      refine gf_X3_30 F (v := .ref (G.1 0 5)) dX3_ageTickets_14 0 rfl rfl ?_
      refine j_iloadn F dX3_ageTickets_17 rfl ?_
      refine j_getTN F hG h10 lk_X3_231 dX3_ageTickets_18 ⟨(Nat.le_of_ble_eq_true rfl), (Nat.le_of_ble_eq_true rfl)⟩ (Nat.le_of_ble_eq_true rfl) ⟨(Nat.le_of_ble_eq_true rfl), (Nat.le_of_ble_eq_true rfl)⟩ hst ?_
      refine j_cast F ul_X3_112 dX3_ageTickets_21 (4 + nA G + i) (cg_T h10) rfl ?_
      refine j_astoren F [some (.ref (G.1 0 0)), some (.int (nI i)), some (.ref (aT G i))] dX3_ageTickets_24 rfl rfl rfl ?_
      refine j_aloadn F dX3_ageTickets_25 rfl ?_
      refine gf_X3_147 F (v := .int (x 24 i)) dX3_ageTickets_26 (4 + nA G + i) (cg_T h10) rfl ?_
      refine j_ifeq F (tgt := 40) dX3_ageTickets_29 (by decide) (fun h29 => ?_) (fun h29 => ?_)
      · refine j_aloadn F dX3_ageTickets_40 rfl ?_
        refine j_dup F dX3_ageTickets_41 rfl ?_
        refine gf_X3_187 F (v := .int (x 25 i)) dX3_ageTickets_42 (4 + nA G + i) (cg_T h10) rfl ?_
        refine j_iconst F (v := 1) dX3_ageTickets_45 (by decide) ?_
        refine j_iadd F dX3_ageTickets_46 ?_
        refine pf_X3_187 F hR.1 dX3_ageTickets_47 rfl rfl (4 + nA G + i) (cg_T h10) (Nat.le_of_ble_eq_true rfl) (CW (kD k) G (u2 x 25 i ((x 25 i) + 1)) r) (csT_5 h10) ?_
        refine j_iincN F [some (.ref (G.1 0 0)), some (.int (nI (i + 1))), some (.ref (aT G i))] dX3_ageTickets_50 rfl rfl rfl rfl ?_
        refine j_goto F (tgt := 2) dX3_ageTickets_53 (by decide) ?_
        refine j_lvw [some (.ref (G.1 0 0)), some (.int (nI (i + 1))), none] ⟨rfl, rfl, trivial⟩ ?_
        exact ih2 (i + 1) (u2 x 25 i ((x 25 i) + 1)) (by omega) (by omega) (by rw [C_ageL_s, ← hc_x, C_ageLB, if_pos h29]) 
      · refine j_aloadn F dX3_ageTickets_32 rfl ?_
        refine gf_X3_147 F (v := .int (x 24 i)) dX3_ageTickets_33 (4 + nA G + i) (cg_T h10) rfl ?_
        refine j_iconst F (v := 1) dX3_ageTickets_36 (by decide) ?_
        refine j_icne F (tgt := 50) dX3_ageTickets_37 (by decide) (fun h37 => ?_) (fun h37 => ?_)
        · refine j_iincN F [some (.ref (G.1 0 0)), some (.int (nI (i + 1))), some (.ref (aT G i))] dX3_ageTickets_50 rfl rfl rfl rfl ?_
          refine j_goto F (tgt := 2) dX3_ageTickets_53 (by decide) ?_
          refine j_lvw [some (.ref (G.1 0 0)), some (.int (nI (i + 1))), none] ⟨rfl, rfl, trivial⟩ ?_
          exact ih2 (i + 1) x (by omega) (by omega) (by rw [C_ageL_s, ← hc_x, C_ageLB, if_neg h29, if_neg h37]) 
        · refine j_aloadn F dX3_ageTickets_40 rfl ?_
          refine j_dup F dX3_ageTickets_41 rfl ?_
          refine gf_X3_187 F (v := .int (x 25 i)) dX3_ageTickets_42 (4 + nA G + i) (cg_T h10) rfl ?_
          refine j_iconst F (v := 1) dX3_ageTickets_45 (by decide) ?_
          refine j_iadd F dX3_ageTickets_46 ?_
          refine pf_X3_187 F hR.1 dX3_ageTickets_47 rfl rfl (4 + nA G + i) (cg_T h10) (Nat.le_of_ble_eq_true rfl) (CW (kD k) G (u2 x 25 i ((x 25 i) + 1)) r) (csT_5 h10) ?_
          refine j_iincN F [some (.ref (G.1 0 0)), some (.int (nI (i + 1))), some (.ref (aT G i))] dX3_ageTickets_50 rfl rfl rfl rfl ?_
          refine j_goto F (tgt := 2) dX3_ageTickets_53 (by decide) ?_
          refine j_lvw [some (.ref (G.1 0 0)), some (.int (nI (i + 1))), none] ⟨rfl, rfl, trivial⟩ ?_
          exact ih2 (i + 1) (u2 x 25 i ((x 25 i) + 1)) (by omega) (by omega) (by rw [C_ageL_s, ← hc_x, C_ageLB, if_neg h29, if_pos h37]) 
def C_homeLB (na : Nat) (nt : Nat) (v : S2) (r : R2) (i : Nat) (x : S2) (y : R2) : S2 × R2 := if y 15 i = none then (x, y) else if (C_A_isThere na nt x y i (x 0 0)) = true then (x, y) else ((C_handBack na nt x y (gd (y 15 i))).1, (C_handBack na nt x y (gd (y 15 i))).2)
def C_homeL (na : Nat) (nt : Nat) (v : S2) (r : R2) : Nat → S2 × R2
  | 0 => (v, r)
  | n + 1 => C_homeLB na nt v r n ((C_homeL na nt v r n)).1 ((C_homeL na nt v r n)).2
theorem C_homeL_s (na : Nat) (nt : Nat) (v : S2) (r : R2) (n : Nat) : C_homeL na nt v r (n + 1) = C_homeLB na nt v r n ((C_homeL na nt v r n)).1 ((C_homeL na nt v r n)).2 := rfl
def C_sendHomeAgents (na nt : Nat) (v : S2) (r : R2) : S2 × R2 := ((C_homeL na nt v r na).1, (C_homeL na nt v r na).2)
set_option maxHeartbeats 4000000 in
set_option maxRecDepth 100000 in
theorem qX3_sendHomeAgents (l : Launch) (hst : l.stackTraces = false) (D : va_G) (G : CG) (v : S2) (r : R2) (hG : GI D G) (hC : CI G v r) : CM l D yX3_sendHomeAgents cX3_sendHomeAgents 4 none 3 64 0 0 (CW D G v r) [.ref (G.1 0 0)] (dP none (CW D G (C_sendHomeAgents (nA G) (nT G) v r).1 (C_sendHomeAgents (nA G) (nT G) v r).2)) := by
  refine CM_of [some (.ref (G.1 0 0)), none, none, none] hst (by decide +kernel) rfl (Nat.le_of_ble_eq_true rfl) (fun k F hl hD hin hR => ?_)
  subst hl hD
  have hNA : nA G ≤ 6 := hG.nA
  refine j_iconst F (v := 0) dX3_sendHomeAgents_0 (by decide) ?_
  refine j_istoren F [some (.ref (G.1 0 0)), some (.int 0), none, none] dX3_sendHomeAgents_1 rfl rfl rfl ?_
  refine (show ∀ (fuel i : Nat) (x : S2) (y : R2), (nA G) - i < fuel → i ≤ (nA G) → x = (C_homeL (nA G) (nT G) v r i).1 → y = (C_homeL (nA G) (nT G) v r i).2 → CI G x y →  J k (CW (kD k) G x y) 0 0 2 [some (.ref (G.1 0 0)), some (.int (nI i)), none, none] [] from ?_) ((nA G) + 1) 0 v r (by omega) (Nat.zero_le _) rfl rfl hC
  intro fu2
  induction fu2 with
  | zero => intro i x y hm; exact absurd hm (Nat.not_lt_zero _)
  | succ fu2 ih2 =>
    intro i x y hm2 hi2 hc_x hc_y hM
    refine j_iloadn F dX3_sendHomeAgents_2 rfl ?_
    refine j_aloadn F dX3_sendHomeAgents_3 rfl ?_
    refine gf_X3_26 F (v := .ref (G.1 0 4)) dX3_sendHomeAgents_4 0 rfl rfl ?_
    refine j_sizeA F lk_X3_77 dX3_sendHomeAgents_7 ⟨(Nat.le_of_ble_eq_true rfl), (Nat.le_of_ble_eq_true rfl)⟩ (Nat.le_of_ble_eq_true rfl) ⟨(Nat.le_of_ble_eq_true rfl), (Nat.le_of_ble_eq_true rfl)⟩ hst ?_
    refine j_icgeN F (x := i) (y := (nA G)) (tgt := 55) dX3_sendHomeAgents_10 (by decide) ⟨by omega, by omega⟩ (fun h10 => ?_) (fun h10 => ?_)
    · obtain rfl : i = (nA G) := by omega
      subst hc_x
      subst hc_y
      have hz : C_sendHomeAgents (nA G) (nT G) v r = ((C_homeL (nA G) (nT G) v r (nA G)).1, (C_homeL (nA G) (nT G) v r (nA G)).2) := rfl
      exact j_vret F hR dX3_sendHomeAgents_55 (Nat.le_of_ble_eq_true rfl) (Nat.le_of_ble_eq_true rfl) ⟨rfl, by rw [hz]⟩
    · refine j_aloadn F dX3_sendHomeAgents_13 rfl ?_
      refine gf_X3_26 F (v := .ref (G.1 0 4)) dX3_sendHomeAgents_14 0 rfl rfl ?_
      refine j_iloadn F dX3_sendHomeAgents_17 rfl ?_
      refine j_getAN F hG h10 lk_X3_231 dX3_sendHomeAgents_18 ⟨(Nat.le_of_ble_eq_true rfl), (Nat.le_of_ble_eq_true rfl)⟩ (Nat.le_of_ble_eq_true rfl) ⟨(Nat.le_of_ble_eq_true rfl), (Nat.le_of_ble_eq_true rfl)⟩ hst ?_
      refine j_cast F ul_X3_86 dX3_sendHomeAgents_21 (4 + i) (cg_A h10) rfl ?_
      refine j_astoren F [some (.ref (G.1 0 0)), some (.int (nI i)), some (.ref (aA G i)), none] dX3_sendHomeAgents_24 rfl rfl rfl ?_
      refine j_aloadn F dX3_sendHomeAgents_25 rfl ?_
      refine gf_X3_107 F (v := va_rf ((y 15 i).map (aT G))) dX3_sendHomeAgents_26 (4 + i) (cg_A h10) rfl ?_
      refine j_astorenq F [some (.ref (G.1 0 0)), some (.int (nI i)), some (.ref (aA G i)), some (va_rf ((y 15 i).map (aT G)))] dX3_sendHomeAgents_29 rfl rfl rfl ?_
      refine j_aloadnq F dX3_sendHomeAgents_30 rfl ?_
      refine j_ifnullq F (tgt := 49) dX3_sendHomeAgents_31 (by decide) (fun e31 => ?_) (fun a31 e31 => ?_)
      · rw [e31]
        have h31 := map_none e31
        refine j_iincN F [some (.ref (G.1 0 0)), some (.int (nI (i + 1))), some (.ref (aA G i)), some (.null)] dX3_sendHomeAgents_49 rfl rfl rfl rfl ?_
        refine j_goto F (tgt := 2) dX3_sendHomeAgents_52 (by decide) ?_
        refine j_lvw [some (.ref (G.1 0 0)), some (.int (nI (i + 1))), none, none] ⟨rfl, rfl, trivial⟩ ?_
        exact ih2 (i + 1) x y (by omega) (by omega) (by rw [C_homeL_s, ← hc_x, ← hc_y, C_homeLB, if_pos h31]) (by rw [C_homeL_s, ← hc_x, ← hc_y, C_homeLB, if_pos h31]) hM
      · obtain ⟨ea, h31⟩ := rf_some e31
        subst ea
        rw [e31]
        refine j_aloadn F dX3_sendHomeAgents_34 rfl ?_
        refine j_aloadn F dX3_sendHomeAgents_35 rfl ?_
        refine gf_X3_33 F (v := .int (x 0 0)) dX3_sendHomeAgents_36 0 rfl rfl ?_
        refine j_rdV F (qX0_isThere (kl k) hst (kD k) G x y i (x 0 0) h10) lk_X3_271 dX3_sendHomeAgents_39 ⟨(Nat.le_of_ble_eq_true rfl), (Nat.le_of_ble_eq_true rfl)⟩ (fun _ h => h) (4 + i) (cg_A h10) rfl rfl (Nat.le_of_ble_eq_true rfl) ⟨(Nat.le_of_ble_eq_true rfl), (Nat.le_of_ble_eq_true rfl)⟩ ?_
        refine j_ifbne F (tgt := 49) dX3_sendHomeAgents_42 (by decide) (fun h42 => ?_) (fun h42 => ?_)
        · refine j_iincN F [some (.ref (G.1 0 0)), some (.int (nI (i + 1))), some (.ref (aA G i)), some (.ref (aT G (gd (y 15 i))))] dX3_sendHomeAgents_49 rfl rfl rfl rfl ?_
          refine j_goto F (tgt := 2) dX3_sendHomeAgents_52 (by decide) ?_
          refine j_lvw [some (.ref (G.1 0 0)), some (.int (nI (i + 1))), none, none] ⟨rfl, rfl, trivial⟩ ?_
          exact ih2 (i + 1) x y (by omega) (by omega) (by rw [C_homeL_s, ← hc_x, ← hc_y, C_homeLB, if_neg h31, if_pos h42]) (by rw [C_homeL_s, ← hc_x, ← hc_y, C_homeLB, if_neg h31, if_pos h42]) hM
        · refine j_aloadn F dX3_sendHomeAgents_45 rfl ?_
          refine j_dmS F hR.1 (qX3_handBack (kl k) hst (kD k) G x y (gd (y 15 i)) hM (((CI.held hM h10) _ (gd_some h31)))) lk_X3_119 dX3_sendHomeAgents_46 ⟨(Nat.le_of_ble_eq_true rfl), (Nat.le_of_ble_eq_true rfl)⟩ rfl (Nat.le_of_ble_eq_true rfl) ⟨(Nat.le_of_ble_eq_true rfl), (Nat.le_of_ble_eq_true rfl)⟩ rfl ?_
          refine j_iincN F [some (.ref (G.1 0 0)), some (.int (nI (i + 1))), some (.ref (aA G i)), some (.ref (aT G (gd (y 15 i))))] dX3_sendHomeAgents_49 rfl rfl rfl rfl ?_
          refine j_goto F (tgt := 2) dX3_sendHomeAgents_52 (by decide) ?_
          refine j_lvw [some (.ref (G.1 0 0)), some (.int (nI (i + 1))), none, none] ⟨rfl, rfl, trivial⟩ ?_
          exact ih2 (i + 1) ((C_handBack (nA G) (nT G) x y (gd (y 15 i))).1) ((C_handBack (nA G) (nT G) x y (gd (y 15 i))).2) (by omega) (by omega) (by rw [C_homeL_s, ← hc_x, ← hc_y, C_homeLB, if_neg h31, if_neg h42]) (by rw [C_homeL_s, ← hc_x, ← hc_y, C_homeLB, if_neg h31, if_neg h42]) ((CI_handBack hM))
def C_firstLB (na : Nat) (nt : Nat) (v : S2) (r : R2) (a0 : Nat) (i : Nat) (x : Option Nat) : Option Nat := if (v 24 i) = 0 then (if (C_A_hasSkill na nt v r a0 (v 21 i)) = true then (if x = none then some i else if (C_isLikedMore na nt v r a0 i (gd x)) = true then some i else some (gd x)) else x) else x
def C_firstL (na : Nat) (nt : Nat) (v : S2) (r : R2) (a0 : Nat) : Nat → Option Nat
  | 0 => none
  | n + 1 => C_firstLB na nt v r a0 n (C_firstL na nt v r a0 n)
theorem C_firstL_s (na : Nat) (nt : Nat) (v : S2) (r : R2) (a0 : Nat) (n : Nat) : C_firstL na nt v r a0 (n + 1) = C_firstLB na nt v r a0 n (C_firstL na nt v r a0 n) := rfl
def C_firstByLiking (na nt : Nat) (v : S2) (r : R2) (a0 : Nat) : Option Nat := C_firstL na nt v r a0 nt
set_option maxHeartbeats 4000000 in
set_option maxRecDepth 100000 in
theorem qX3_firstByLiking (l : Launch) (hst : l.stackTraces = false) (D : va_G) (G : CG) (v : S2) (r : R2) (a0 : Nat) (hG : GI D G) (hC : CI G v r) (ha : a0 < nA G) : CR l D yX3_firstByLiking cX3_firstByLiking 5 (some (.object "HelpDesk$Ticket")) 3 64 (CW D G v r) [.ref (G.1 0 0), .ref (aA G a0)] (va_rf ((C_firstByLiking (nA G) (nT G) v r a0).map (aT G))) := by
  refine CR_of [some (.ref (G.1 0 0)), some (.ref (aA G a0)), none, none, none] hst (by decide +kernel) rfl (Nat.le_of_ble_eq_true rfl) (fun k F hl hD hR => ?_)
  subst hl hD
  have hNT0 : nT G ≤ 20 := hG.nT
  refine j_null F dX3_firstByLiking_0 ?_
  refine j_astorenN F [some (.ref (G.1 0 0)), some (.ref (aA G a0)), some (.null), none, none] dX3_firstByLiking_1 rfl rfl rfl ?_
  refine j_iconst F (v := 0) dX3_firstByLiking_2 (by decide) ?_
  refine j_istoren F [some (.ref (G.1 0 0)), some (.ref (aA G a0)), some (.null), some (.int 0), none] dX3_firstByLiking_3 rfl rfl rfl ?_
  refine (show ∀ (fuel i : Nat) (x : Option Nat), (nT G) - i < fuel → i ≤ (nT G) → x = C_firstL (nA G) (nT G) v r a0 i → (∀ y, x = some y → y < nT G) →  J k (CW (kD k) G v r) 0 0 4 [some (.ref (G.1 0 0)), some (.ref (aA G a0)), some (va_rf ((x).map (aT G))), some (.int (nI i)), none] [] from ?_) ((nT G) + 1) 0 none (by omega) (Nat.zero_le _) rfl (fun _ e => nomatch e)
  intro fu4
  induction fu4 with
  | zero => intro i x hm; exact absurd hm (Nat.not_lt_zero _)
  | succ fu4 ih4 =>
    intro i x hm4 hi4 hc_x hx
    refine j_iloadn F dX3_firstByLiking_4 rfl ?_
    refine j_aloadn F dX3_firstByLiking_5 rfl ?_
    refine gf_X3_30 F (v := .ref (G.1 0 5)) dX3_firstByLiking_6 0 rfl rfl ?_
    refine j_sizeT F lk_X3_77 dX3_firstByLiking_9 ⟨(Nat.le_of_ble_eq_true rfl), (Nat.le_of_ble_eq_true rfl)⟩ (Nat.le_of_ble_eq_true rfl) ⟨(Nat.le_of_ble_eq_true rfl), (Nat.le_of_ble_eq_true rfl)⟩ hst ?_
    refine j_icgeN F (x := i) (y := (nT G)) (tgt := 72) dX3_firstByLiking_12 (by decide) ⟨by omega, by omega⟩ (fun h12 => ?_) (fun h12 => ?_)
    · obtain rfl : i = (nT G) := by omega
      subst hc_x
      refine j_aloadnq F dX3_firstByLiking_72 rfl ?_
      exact j_aretR F (x := (C_firstL (nA G) (nT G) v r a0 (nT G)).map (aT G)) hR dX3_firstByLiking_73 (congrArg (fun z : Option Nat => va_rf (z.map (aT G))) (show C_firstByLiking (nA G) (nT G) v r a0 = C_firstL (nA G) (nT G) v r a0 (nT G) from rfl))
    · refine j_aloadn F dX3_firstByLiking_15 rfl ?_
      refine gf_X3_30 F (v := .ref (G.1 0 5)) dX3_firstByLiking_16 0 rfl rfl ?_
      refine j_iloadn F dX3_firstByLiking_19 rfl ?_
      refine j_getTN F hG h12 lk_X3_231 dX3_firstByLiking_20 ⟨(Nat.le_of_ble_eq_true rfl), (Nat.le_of_ble_eq_true rfl)⟩ (Nat.le_of_ble_eq_true rfl) ⟨(Nat.le_of_ble_eq_true rfl), (Nat.le_of_ble_eq_true rfl)⟩ hst ?_
      refine j_cast F ul_X3_112 dX3_firstByLiking_23 (4 + nA G + i) (cg_T h12) rfl ?_
      refine j_astore F [some (.ref (G.1 0 0)), some (.ref (aA G a0)), some (va_rf ((x).map (aT G))), some (.int (nI i)), some (.ref (aT G i))] dX3_firstByLiking_26 rfl rfl rfl ?_
      refine j_aload F dX3_firstByLiking_28 rfl ?_
      refine gf_X3_147 F (v := .int (v 24 i)) dX3_firstByLiking_30 (4 + nA G + i) (cg_T h12) rfl ?_
      refine j_ifne F (tgt := 66) dX3_firstByLiking_33 (by decide) (fun h33 => ?_) (fun h33 => ?_)
      · refine j_iincN F [some (.ref (G.1 0 0)), some (.ref (aA G a0)), some (va_rf ((x).map (aT G))), some (.int (nI (i + 1))), some (.ref (aT G i))] dX3_firstByLiking_66 rfl (by rcases x with _ | _ <;> rfl) rfl rfl ?_
        refine j_goto F (tgt := 4) dX3_firstByLiking_69 (by decide) ?_
        refine j_lvw [some (.ref (G.1 0 0)), some (.ref (aA G a0)), some (va_rf ((x).map (aT G))), some (.int (nI (i + 1))), none] ⟨rfl, rfl, rfl, rfl, trivial⟩ ?_
        exact ih4 (i + 1) x (by omega) (by omega) (by rw [C_firstL_s, ← hc_x, C_firstLB, if_neg h33]) hx
      · refine j_aloadn F dX3_firstByLiking_36 rfl ?_
        refine j_aload F dX3_firstByLiking_37 rfl ?_
        refine gf_X3_111 F (v := .int (v 21 i)) dX3_firstByLiking_39 (4 + nA G + i) (cg_T h12) rfl ?_
        refine j_rdV F (qX0_hasSkill (kl k) hst (kD k) G v r a0 (v 21 i) ha) lk_X3_116 dX3_firstByLiking_42 ⟨(Nat.le_of_ble_eq_true rfl), (Nat.le_of_ble_eq_true rfl)⟩ (fun _ h => h) (4 + a0) (cg_A ha) rfl rfl (Nat.le_of_ble_eq_true rfl) ⟨(Nat.le_of_ble_eq_true rfl), (Nat.le_of_ble_eq_true rfl)⟩ ?_
        refine j_ifbeq F (tgt := 66) dX3_firstByLiking_45 (by decide) (fun h45 => ?_) (fun h45 => ?_)
        · refine j_iincN F [some (.ref (G.1 0 0)), some (.ref (aA G a0)), some (va_rf ((x).map (aT G))), some (.int (nI (i + 1))), some (.ref (aT G i))] dX3_firstByLiking_66 rfl (by rcases x with _ | _ <;> rfl) rfl rfl ?_
          refine j_goto F (tgt := 4) dX3_firstByLiking_69 (by decide) ?_
          refine j_lvw [some (.ref (G.1 0 0)), some (.ref (aA G a0)), some (va_rf ((x).map (aT G))), some (.int (nI (i + 1))), none] ⟨rfl, rfl, rfl, rfl, trivial⟩ ?_
          exact ih4 (i + 1) x (by omega) (by omega) (by rw [C_firstL_s, ← hc_x, C_firstLB, if_pos h33, if_neg h45]) hx
        · refine j_aloadnq F dX3_firstByLiking_48 rfl ?_
          refine j_ifnullq F (tgt := 63) dX3_firstByLiking_49 (by decide) (fun e49 => ?_) (fun a49 e49 => ?_)
          · rw [e49]
            have h49 := map_none e49
            refine j_aload F dX3_firstByLiking_63 rfl ?_
            refine j_astoren F [some (.ref (G.1 0 0)), some (.ref (aA G a0)), some (.ref (aT G i)), some (.int (nI i)), some (.ref (aT G i))] dX3_firstByLiking_65 rfl rfl rfl ?_
            refine j_iincN F [some (.ref (G.1 0 0)), some (.ref (aA G a0)), some (.ref (aT G i)), some (.int (nI (i + 1))), some (.ref (aT G i))] dX3_firstByLiking_66 rfl rfl rfl rfl ?_
            refine j_goto F (tgt := 4) dX3_firstByLiking_69 (by decide) ?_
            refine j_lvw [some (.ref (G.1 0 0)), some (.ref (aA G a0)), some (.ref (aT G i)), some (.int (nI (i + 1))), none] ⟨rfl, rfl, rfl, rfl, trivial⟩ ?_
            exact ih4 (i + 1) (some i) (by omega) (by omega) (by rw [C_firstL_s, ← hc_x, C_firstLB, if_pos h33, if_pos h45, if_pos h49]) ((fun _ e => by cases e; exact h12))
          · obtain ⟨ea, h49⟩ := rf_some e49
            subst ea
            rw [e49]
            refine j_aloadn F dX3_firstByLiking_52 rfl ?_
            refine j_aloadn F dX3_firstByLiking_53 rfl ?_
            refine j_aload F dX3_firstByLiking_54 rfl ?_
            refine j_aloadn F dX3_firstByLiking_56 rfl ?_
            refine j_rdV F (qX3_isLikedMore (kl k) hst (kD k) G v r a0 i (gd x) hG hC ha h12 ((hx _ (gd_some h49)))) lk_X3_297 dX3_firstByLiking_57 ⟨(Nat.le_of_ble_eq_true rfl), (Nat.le_of_ble_eq_true rfl)⟩ (fun _ h => h) 0 rfl rfl rfl (Nat.le_of_ble_eq_true rfl) ⟨(Nat.le_of_ble_eq_true rfl), (Nat.le_of_ble_eq_true rfl)⟩ ?_
            refine j_ifbeq F (tgt := 66) dX3_firstByLiking_60 (by decide) (fun h60 => ?_) (fun h60 => ?_)
            · refine j_iincN F [some (.ref (G.1 0 0)), some (.ref (aA G a0)), some (.ref (aT G (gd x))), some (.int (nI (i + 1))), some (.ref (aT G i))] dX3_firstByLiking_66 rfl rfl rfl rfl ?_
              refine j_goto F (tgt := 4) dX3_firstByLiking_69 (by decide) ?_
              refine j_lvw [some (.ref (G.1 0 0)), some (.ref (aA G a0)), some (.ref (aT G (gd x))), some (.int (nI (i + 1))), none] ⟨rfl, rfl, rfl, rfl, trivial⟩ ?_
              exact ih4 (i + 1) (some (gd x)) (by omega) (by omega) (by rw [C_firstL_s, ← hc_x, C_firstLB, if_pos h33, if_pos h45, if_neg h49, if_neg h60]) ((fun _ e => by cases e; exact (hx _ (gd_some h49))))
            · refine j_aload F dX3_firstByLiking_63 rfl ?_
              refine j_astoren F [some (.ref (G.1 0 0)), some (.ref (aA G a0)), some (.ref (aT G i)), some (.int (nI i)), some (.ref (aT G i))] dX3_firstByLiking_65 rfl rfl rfl ?_
              refine j_iincN F [some (.ref (G.1 0 0)), some (.ref (aA G a0)), some (.ref (aT G i)), some (.int (nI (i + 1))), some (.ref (aT G i))] dX3_firstByLiking_66 rfl rfl rfl rfl ?_
              refine j_goto F (tgt := 4) dX3_firstByLiking_69 (by decide) ?_
              refine j_lvw [some (.ref (G.1 0 0)), some (.ref (aA G a0)), some (.ref (aT G i)), some (.int (nI (i + 1))), none] ⟨rfl, rfl, rfl, rfl, trivial⟩ ?_
              exact ih4 (i + 1) (some i) (by omega) (by omega) (by rw [C_firstL_s, ← hc_x, C_firstLB, if_pos h33, if_pos h45, if_neg h49, if_pos h60]) ((fun _ e => by cases e; exact h12))
theorem C_firstL_lt {na nt : Nat} {v : S2} {r : R2} {a : Nat} : ∀ (n y : Nat), C_firstL na nt v r a n = some y → y < n
  | 0, y, h => by cases h
  | n + 1, y, h => by
    rw [C_firstL_s, C_firstLB] at h
    have ih : ∀ z, C_firstL na nt v r a n = some z → z < n := fun z => C_firstL_lt n z
    generalize C_firstL na nt v r a n = x at h ih
    have hx : x = some y → y < n + 1 := fun e => Nat.lt_succ_of_lt (ih y e)
    split at h
    · split at h
      · split at h
        · cases h; exact Nat.lt_succ_self n
        · rename_i hn
          split at h
          · cases h; exact Nat.lt_succ_self n
          · exact hx ((gd_some hn).trans h)
      · exact hx h
    · exact hx h
theorem C_first_lt {na nt : Nat} {v : S2} {r : R2} {a : Nat} : ∀ y, C_firstByLiking na nt v r a = some y → y < nt := fun y h => C_firstL_lt nt y h
theorem CI_age {na nt : Nat} {G : CG} {v : S2} {r : R2} (h : CI G v r) : CI G (C_ageTickets na nt v r).1 (C_ageTickets na nt v r).2 := by
  show CI G (C_ageL na nt v r nt) r
  have : ∀ n, CI G (C_ageL na nt v r n) r := fun n => by
    induction n with
    | zero => exact h
    | succ n ih =>
      rw [C_ageL_s, C_ageLB]
      split
      · exact CI_v (by decide) ih
      · split
        · exact CI_v (by decide) ih
        · exact ih
  exact this nt
theorem CI_home {na nt : Nat} {G : CG} {v : S2} {r : R2} (h : CI G v r) : CI G (C_sendHomeAgents na nt v r).1 (C_sendHomeAgents na nt v r).2 := by
  have : ∀ n, CI G (C_homeL na nt v r n).1 (C_homeL na nt v r n).2 := fun n => by
    induction n with
    | zero => exact h
    | succ n ih =>
      rw [C_homeL_s, C_homeLB]
      split
      · exact ih
      · split
        · exact ih
        · exact CI_handBack ih
  exact this na
def C_outLB (na : Nat) (nt : Nat) (v : S2) (r : R2) (i : Nat) (x : S2) (y : R2) : S2 × R2 := if y 15 i = none then (if (C_A_isThere na nt x y i (x 0 0)) = true then (if C_firstByLiking na nt x y i = none then (x, y) else ((C_give na nt x y (gd (C_firstByLiking na nt x y i)) i).1, (C_give na nt x y (gd (C_firstByLiking na nt x y i)) i).2)) else (x, y)) else (x, y)
def C_outL (na : Nat) (nt : Nat) (v : S2) (r : R2) : Nat → S2 × R2
  | 0 => (v, r)
  | n + 1 => C_outLB na nt v r n ((C_outL na nt v r n)).1 ((C_outL na nt v r n)).2
theorem C_outL_s (na : Nat) (nt : Nat) (v : S2) (r : R2) (n : Nat) : C_outL na nt v r (n + 1) = C_outLB na nt v r n ((C_outL na nt v r n)).1 ((C_outL na nt v r n)).2 := rfl
def C_giveOutTickets (na nt : Nat) (v : S2) (r : R2) : S2 × R2 := ((C_outL na nt v r na).1, (C_outL na nt v r na).2)
set_option maxHeartbeats 4000000 in
set_option maxRecDepth 100000 in
theorem qX3_giveOutTickets (l : Launch) (hst : l.stackTraces = false) (D : va_G) (G : CG) (v : S2) (r : R2) (hG : GI D G) (hC : CI G v r) : CM l D yX3_giveOutTickets cX3_giveOutTickets 4 none 4 88 0 0 (CW D G v r) [.ref (G.1 0 0)] (dP none (CW D G (C_giveOutTickets (nA G) (nT G) v r).1 (C_giveOutTickets (nA G) (nT G) v r).2)) := by
  refine CM_of [some (.ref (G.1 0 0)), none, none, none] hst (by decide +kernel) rfl (Nat.le_of_ble_eq_true rfl) (fun k F hl hD hin hR => ?_)
  subst hl hD
  have hNA : nA G ≤ 6 := hG.nA
  refine j_iconst F (v := 0) dX3_giveOutTickets_0 (by decide) ?_
  refine j_istoren F [some (.ref (G.1 0 0)), some (.int 0), none, none] dX3_giveOutTickets_1 rfl rfl rfl ?_
  refine (show ∀ (fuel i : Nat) (x : S2) (y : R2), (nA G) - i < fuel → i ≤ (nA G) → x = (C_outL (nA G) (nT G) v r i).1 → y = (C_outL (nA G) (nT G) v r i).2 → CI G x y →  J k (CW (kD k) G x y) 0 0 2 [some (.ref (G.1 0 0)), some (.int (nI i)), none, none] [] from ?_) ((nA G) + 1) 0 v r (by omega) (Nat.zero_le _) rfl rfl hC
  intro fu2
  induction fu2 with
  | zero => intro i x y hm; exact absurd hm (Nat.not_lt_zero _)
  | succ fu2 ih2 =>
    intro i x y hm2 hi2 hc_x hc_y hM
    refine j_iloadn F dX3_giveOutTickets_2 rfl ?_
    refine j_aloadn F dX3_giveOutTickets_3 rfl ?_
    refine gf_X3_26 F (v := .ref (G.1 0 4)) dX3_giveOutTickets_4 0 rfl rfl ?_
    refine j_sizeA F lk_X3_77 dX3_giveOutTickets_7 ⟨(Nat.le_of_ble_eq_true rfl), (Nat.le_of_ble_eq_true rfl)⟩ (Nat.le_of_ble_eq_true rfl) ⟨(Nat.le_of_ble_eq_true rfl), (Nat.le_of_ble_eq_true rfl)⟩ hst ?_
    refine j_icgeN F (x := i) (y := (nA G)) (tgt := 64) dX3_giveOutTickets_10 (by decide) ⟨by omega, by omega⟩ (fun h10 => ?_) (fun h10 => ?_)
    · obtain rfl : i = (nA G) := by omega
      subst hc_x
      subst hc_y
      have hz : C_giveOutTickets (nA G) (nT G) v r = ((C_outL (nA G) (nT G) v r (nA G)).1, (C_outL (nA G) (nT G) v r (nA G)).2) := rfl
      exact j_vret F hR dX3_giveOutTickets_64 (Nat.le_of_ble_eq_true rfl) (Nat.le_of_ble_eq_true rfl) ⟨rfl, by rw [hz]⟩
    · refine j_aloadn F dX3_giveOutTickets_13 rfl ?_
      refine gf_X3_26 F (v := .ref (G.1 0 4)) dX3_giveOutTickets_14 0 rfl rfl ?_
      refine j_iloadn F dX3_giveOutTickets_17 rfl ?_
      refine j_getAN F hG h10 lk_X3_231 dX3_giveOutTickets_18 ⟨(Nat.le_of_ble_eq_true rfl), (Nat.le_of_ble_eq_true rfl)⟩ (Nat.le_of_ble_eq_true rfl) ⟨(Nat.le_of_ble_eq_true rfl), (Nat.le_of_ble_eq_true rfl)⟩ hst ?_
      refine j_cast F ul_X3_86 dX3_giveOutTickets_21 (4 + i) (cg_A h10) rfl ?_
      refine j_astoren F [some (.ref (G.1 0 0)), some (.int (nI i)), some (.ref (aA G i)), none] dX3_giveOutTickets_24 rfl rfl rfl ?_
      refine j_aloadn F dX3_giveOutTickets_25 rfl ?_
      refine gf_X3_107 F (v := va_rf ((y 15 i).map (aT G))) dX3_giveOutTickets_26 (4 + i) (cg_A h10) rfl ?_
      refine j_ifnonnullq F (tgt := 58) dX3_giveOutTickets_29 (by decide) (fun a29 e29 => ?_) (fun e29 => ?_)
      · obtain ⟨ea, h29⟩ := rf_some e29
        subst ea
        refine j_iincN F [some (.ref (G.1 0 0)), some (.int (nI (i + 1))), some (.ref (aA G i)), none] dX3_giveOutTickets_58 rfl rfl rfl rfl ?_
        refine j_goto F (tgt := 2) dX3_giveOutTickets_61 (by decide) ?_
        refine j_lvw [some (.ref (G.1 0 0)), some (.int (nI (i + 1))), none, none] ⟨rfl, rfl, trivial⟩ ?_
        exact ih2 (i + 1) x y (by omega) (by omega) (by rw [C_outL_s, ← hc_x, ← hc_y, C_outLB, if_neg h29]) (by rw [C_outL_s, ← hc_x, ← hc_y, C_outLB, if_neg h29]) hM
      · have h29 := map_none e29
        refine j_aloadn F dX3_giveOutTickets_32 rfl ?_
        refine j_aloadn F dX3_giveOutTickets_33 rfl ?_
        refine gf_X3_33 F (v := .int (x 0 0)) dX3_giveOutTickets_34 0 rfl rfl ?_
        refine j_rdV F (qX0_isThere (kl k) hst (kD k) G x y i (x 0 0) h10) lk_X3_271 dX3_giveOutTickets_37 ⟨(Nat.le_of_ble_eq_true rfl), (Nat.le_of_ble_eq_true rfl)⟩ (fun _ h => h) (4 + i) (cg_A h10) rfl rfl (Nat.le_of_ble_eq_true rfl) ⟨(Nat.le_of_ble_eq_true rfl), (Nat.le_of_ble_eq_true rfl)⟩ ?_
        refine j_ifbeq F (tgt := 58) dX3_giveOutTickets_40 (by decide) (fun h40 => ?_) (fun h40 => ?_)
        · refine j_iincN F [some (.ref (G.1 0 0)), some (.int (nI (i + 1))), some (.ref (aA G i)), none] dX3_giveOutTickets_58 rfl rfl rfl rfl ?_
          refine j_goto F (tgt := 2) dX3_giveOutTickets_61 (by decide) ?_
          refine j_lvw [some (.ref (G.1 0 0)), some (.int (nI (i + 1))), none, none] ⟨rfl, rfl, trivial⟩ ?_
          exact ih2 (i + 1) x y (by omega) (by omega) (by rw [C_outL_s, ← hc_x, ← hc_y, C_outLB, if_pos h29, if_neg h40]) (by rw [C_outL_s, ← hc_x, ← hc_y, C_outLB, if_pos h29, if_neg h40]) hM
        · refine j_aloadn F dX3_giveOutTickets_43 rfl ?_
          refine j_aloadn F dX3_giveOutTickets_44 rfl ?_
          refine j_rdV F (qX3_firstByLiking (kl k) hst (kD k) G x y i hG hM h10) lk_X3_129 dX3_giveOutTickets_45 ⟨(Nat.le_of_ble_eq_true rfl), (Nat.le_of_ble_eq_true rfl)⟩ (fun _ h => h) 0 rfl rfl rfl (Nat.le_of_ble_eq_true rfl) ⟨(Nat.le_of_ble_eq_true rfl), (Nat.le_of_ble_eq_true rfl)⟩ ?_
          refine j_astorenq F [some (.ref (G.1 0 0)), some (.int (nI i)), some (.ref (aA G i)), some (va_rf ((C_firstByLiking (nA G) (nT G) x y i).map (aT G)))] dX3_giveOutTickets_48 rfl rfl rfl ?_
          refine j_aloadnq F dX3_giveOutTickets_49 rfl ?_
          refine j_ifnullq F (tgt := 58) dX3_giveOutTickets_50 (by decide) (fun e50 => ?_) (fun a50 e50 => ?_)
          · rw [e50]
            have h50 := map_none e50
            refine j_iincN F [some (.ref (G.1 0 0)), some (.int (nI (i + 1))), some (.ref (aA G i)), some (.null)] dX3_giveOutTickets_58 rfl rfl rfl rfl ?_
            refine j_goto F (tgt := 2) dX3_giveOutTickets_61 (by decide) ?_
            refine j_lvw [some (.ref (G.1 0 0)), some (.int (nI (i + 1))), none, none] ⟨rfl, rfl, trivial⟩ ?_
            exact ih2 (i + 1) x y (by omega) (by omega) (by rw [C_outL_s, ← hc_x, ← hc_y, C_outLB, if_pos h29, if_pos h40, if_pos h50]) (by rw [C_outL_s, ← hc_x, ← hc_y, C_outLB, if_pos h29, if_pos h40, if_pos h50]) hM
          · obtain ⟨ea, h50⟩ := rf_some e50
            subst ea
            rw [e50]
            refine j_aloadn F dX3_giveOutTickets_53 rfl ?_
            refine j_aloadn F dX3_giveOutTickets_54 rfl ?_
            refine j_dmS F hR.1 (qX3_give (kl k) hst (kD k) G x y (gd (C_firstByLiking (nA G) (nT G) x y i)) i ((C_first_lt _ (gd_some h50))) h10) lk_X3_274 dX3_giveOutTickets_55 ⟨(Nat.le_of_ble_eq_true rfl), (Nat.le_of_ble_eq_true rfl)⟩ rfl (Nat.le_of_ble_eq_true rfl) ⟨(Nat.le_of_ble_eq_true rfl), (Nat.le_of_ble_eq_true rfl)⟩ rfl ?_
            refine j_iincN F [some (.ref (G.1 0 0)), some (.int (nI (i + 1))), some (.ref (aA G i)), some (.ref (aT G (gd (C_firstByLiking (nA G) (nT G) x y i))))] dX3_giveOutTickets_58 rfl rfl rfl rfl ?_
            refine j_goto F (tgt := 2) dX3_giveOutTickets_61 (by decide) ?_
            refine j_lvw [some (.ref (G.1 0 0)), some (.int (nI (i + 1))), none, none] ⟨rfl, rfl, trivial⟩ ?_
            exact ih2 (i + 1) ((C_give (nA G) (nT G) x y (gd (C_firstByLiking (nA G) (nT G) x y i)) i).1) ((C_give (nA G) (nT G) x y (gd (C_firstByLiking (nA G) (nT G) x y i)) i).2) (by omega) (by omega) (by rw [C_outL_s, ← hc_x, ← hc_y, C_outLB, if_pos h29, if_pos h40, if_neg h50]) (by rw [C_outL_s, ← hc_x, ← hc_y, C_outLB, if_pos h29, if_pos h40, if_neg h50]) ((CI_give hM (C_first_lt _ (gd_some h50)) h10))
theorem CI_out {G : CG} {v : S2} {r : R2} (h : CI G v r) : CI G (C_giveOutTickets (nA G) (nT G) v r).1 (C_giveOutTickets (nA G) (nT G) v r).2 := by
  have : ∀ n, n ≤ nA G → CI G (C_outL (nA G) (nT G) v r n).1 (C_outL (nA G) (nT G) v r n).2 := fun n => by
    induction n with
    | zero => intro _; exact h
    | succ n ih =>
      intro hn
      have ih := ih (by omega)
      rw [C_outL_s, C_outLB]
      generalize (C_outL (nA G) (nT G) v r n).1 = x at ih ⊢
      generalize (C_outL (nA G) (nT G) v r n).2 = y at ih ⊢
      repeat' split
      all_goals first | exact ih | exact CI_give (na := nA G) (nt := nT G) ih (C_first_lt _ (gd_some ‹_›)) (by omega)
  exact this _ (Nat.le_refl _)
def C_workLB (na : Nat) (nt : Nat) (v : S2) (r : R2) (i : Nat) (s : Int32) (x : S2) (y : R2) : Int32 × S2 × R2 := if y 15 i = none then (s, x, y) else if ((u2 (u2 x 16 i ((x 16 i) + 1)) 26 (gd (y 15 i)) ((x 26 (gd (y 15 i))) + 1)) 26 (gd (y 15 i))) = (x 23 (gd (y 15 i))) then (s + 1, (C_solve na nt (u2 (u2 x 16 i ((x 16 i) + 1)) 26 (gd (y 15 i)) ((x 26 (gd (y 15 i))) + 1)) y (gd (y 15 i)) i).1, (C_solve na nt (u2 (u2 x 16 i ((x 16 i) + 1)) 26 (gd (y 15 i)) ((x 26 (gd (y 15 i))) + 1)) y (gd (y 15 i)) i).2) else (s, u2 (u2 x 16 i ((x 16 i) + 1)) 26 (gd (y 15 i)) ((x 26 (gd (y 15 i))) + 1), y)
def C_workL (na : Nat) (nt : Nat) (v : S2) (r : R2) : Nat → Int32 × S2 × R2
  | 0 => (0, v, r)
  | n + 1 => C_workLB na nt v r n ((C_workL na nt v r n)).1 ((C_workL na nt v r n)).2.1 ((C_workL na nt v r n)).2.2
theorem C_workL_s (na : Nat) (nt : Nat) (v : S2) (r : R2) (n : Nat) : C_workL na nt v r (n + 1) = C_workLB na nt v r n ((C_workL na nt v r n)).1 ((C_workL na nt v r n)).2.1 ((C_workL na nt v r n)).2.2 := rfl
def C_work (na nt : Nat) (v : S2) (r : R2) : Int32 × S2 × R2 := ((C_workL na nt v r na).1, (C_workL na nt v r na).2.1, (C_workL na nt v r na).2.2)
set_option maxHeartbeats 4000000 in
set_option maxRecDepth 100000 in
theorem qX3_work (l : Launch) (hst : l.stackTraces = false) (D : va_G) (G : CG) (v : S2) (r : R2) (hG : GI D G) (hC : CI G v r) : CM l D yX3_work cX3_work 5 (some .int) 3 64 0 0 (CW D G v r) [.ref (G.1 0 0)] (dP (some (.int ((C_work (nA G) (nT G) v r).1))) (CW D G (C_work (nA G) (nT G) v r).2.1 (C_work (nA G) (nT G) v r).2.2)) := by
  refine CM_of [some (.ref (G.1 0 0)), none, none, none, none] hst (by decide +kernel) rfl (Nat.le_of_ble_eq_true rfl) (fun k F hl hD hin hR => ?_)
  subst hl hD
  have hNA : nA G ≤ 6 := hG.nA
  refine j_iconst F (v := 0) dX3_work_0 (by decide) ?_
  refine j_istoren F [some (.ref (G.1 0 0)), some (.int 0), none, none, none] dX3_work_1 rfl rfl rfl ?_
  refine j_iconst F (v := 0) dX3_work_2 (by decide) ?_
  refine j_istoren F [some (.ref (G.1 0 0)), some (.int 0), some (.int 0), none, none] dX3_work_3 rfl rfl rfl ?_
  refine (show ∀ (fuel i : Nat) (s : Int32) (x : S2) (y : R2), (nA G) - i < fuel → i ≤ (nA G) → s = (C_workL (nA G) (nT G) v r i).1 → x = (C_workL (nA G) (nT G) v r i).2.1 → y = (C_workL (nA G) (nT G) v r i).2.2 → CI G x y →  J k (CW (kD k) G x y) 0 0 4 [some (.ref (G.1 0 0)), some (.int s), some (.int (nI i)), none, none] [] from ?_) ((nA G) + 1) 0 0 v r (by omega) (Nat.zero_le _) rfl rfl rfl hC
  intro fu4
  induction fu4 with
  | zero => intro i s x y hm; exact absurd hm (Nat.not_lt_zero _)
  | succ fu4 ih4 =>
    intro i s x y hm4 hi4 hc_s hc_x hc_y hM
    refine j_iloadn F dX3_work_4 rfl ?_
    refine j_aloadn F dX3_work_5 rfl ?_
    refine gf_X3_26 F (v := .ref (G.1 0 4)) dX3_work_6 0 rfl rfl ?_
    refine j_sizeA F lk_X3_77 dX3_work_9 ⟨(Nat.le_of_ble_eq_true rfl), (Nat.le_of_ble_eq_true rfl)⟩ (Nat.le_of_ble_eq_true rfl) ⟨(Nat.le_of_ble_eq_true rfl), (Nat.le_of_ble_eq_true rfl)⟩ hst ?_
    refine j_icgeN F (x := i) (y := (nA G)) (tgt := 88) dX3_work_12 (by decide) ⟨by omega, by omega⟩ (fun h12 => ?_) (fun h12 => ?_)
    · obtain rfl : i = (nA G) := by omega
      subst hc_s
      subst hc_x
      subst hc_y
      refine j_iloadn F dX3_work_88 rfl ?_
      have hz : C_work (nA G) (nT G) v r = ((C_workL (nA G) (nT G) v r (nA G)).1, (C_workL (nA G) (nT G) v r (nA G)).2.1, (C_workL (nA G) (nT G) v r (nA G)).2.2) := rfl
      exact j_iret F hR dX3_work_89 (Nat.le_of_ble_eq_true rfl) (Nat.le_of_ble_eq_true rfl) ⟨by rw [hz], by rw [hz]⟩
    · refine j_aloadn F dX3_work_15 rfl ?_
      refine gf_X3_26 F (v := .ref (G.1 0 4)) dX3_work_16 0 rfl rfl ?_
      refine j_iloadn F dX3_work_19 rfl ?_
      refine j_getAN F hG h12 lk_X3_231 dX3_work_20 ⟨(Nat.le_of_ble_eq_true rfl), (Nat.le_of_ble_eq_true rfl)⟩ (Nat.le_of_ble_eq_true rfl) ⟨(Nat.le_of_ble_eq_true rfl), (Nat.le_of_ble_eq_true rfl)⟩ hst ?_
      refine j_cast F ul_X3_86 dX3_work_23 (4 + i) (cg_A h12) rfl ?_
      refine j_astoren F [some (.ref (G.1 0 0)), some (.int s), some (.int (nI i)), some (.ref (aA G i)), none] dX3_work_26 rfl rfl rfl ?_
      refine j_aloadn F dX3_work_27 rfl ?_
      refine gf_X3_107 F (v := va_rf ((y 15 i).map (aT G))) dX3_work_28 (4 + i) (cg_A h12) rfl ?_
      refine j_astoreq F [some (.ref (G.1 0 0)), some (.int s), some (.int (nI i)), some (.ref (aA G i)), some (va_rf ((y 15 i).map (aT G)))] dX3_work_31 rfl rfl rfl ?_
      refine j_aloadq F dX3_work_33 rfl ?_
      refine j_ifnullq F (tgt := 82) dX3_work_35 (by decide) (fun e35 => ?_) (fun a35 e35 => ?_)
      · rw [e35]
        have h35 := map_none e35
        refine j_iincN F [some (.ref (G.1 0 0)), some (.int s), some (.int (nI (i + 1))), some (.ref (aA G i)), some (.null)] dX3_work_82 rfl rfl rfl rfl ?_
        refine j_goto F (tgt := 4) dX3_work_85 (by decide) ?_
        refine j_lvw [some (.ref (G.1 0 0)), some (.int s), some (.int (nI (i + 1))), none, none] ⟨rfl, rfl, rfl, trivial⟩ ?_
        exact ih4 (i + 1) s x y (by omega) (by omega) (by rw [C_workL_s, ← hc_s, ← hc_x, ← hc_y, C_workLB, if_pos h35]) (by rw [C_workL_s, ← hc_s, ← hc_x, ← hc_y, C_workLB, if_pos h35]) (by rw [C_workL_s, ← hc_s, ← hc_x, ← hc_y, C_workLB, if_pos h35]) hM
      · obtain ⟨ea, h35⟩ := rf_some e35
        subst ea
        rw [e35]
        refine j_aloadn F dX3_work_38 rfl ?_
        refine j_dup F dX3_work_39 rfl ?_
        refine gf_X3_278 F (v := .int (x 16 i)) dX3_work_40 (4 + i) (cg_A h12) rfl ?_
        refine j_iconst F (v := 1) dX3_work_43 (by decide) ?_
        refine j_iadd F dX3_work_44 ?_
        refine pf_X3_278 F hR.1 dX3_work_45 rfl rfl (4 + i) (cg_A h12) (Nat.le_of_ble_eq_true rfl) (CW (kD k) G (u2 x 16 i ((x 16 i) + 1)) y) (csA_6 h12) ?_
        refine j_aload F dX3_work_48 rfl ?_
        refine j_dup F dX3_work_50 rfl ?_
        refine gf_X3_166 F (v := .int (x 26 (gd (y 15 i)))) dX3_work_51 (4 + nA G + (gd (y 15 i))) (cg_T ((CI.held hM h12) _ (gd_some h35))) rfl ?_
        refine j_iconst F (v := 1) dX3_work_54 (by decide) ?_
        refine j_iadd F dX3_work_55 ?_
        refine pf_X3_166 F hR.1 dX3_work_56 rfl rfl (4 + nA G + (gd (y 15 i))) (cg_T ((CI.held hM h12) _ (gd_some h35))) (Nat.le_of_ble_eq_true rfl) (CW (kD k) G (u2 (u2 x 16 i ((x 16 i) + 1)) 26 (gd (y 15 i)) ((x 26 (gd (y 15 i))) + 1)) y) (csT_6 ((CI.held hM h12) _ (gd_some h35))) ?_
        refine j_aload F dX3_work_59 rfl ?_
        refine gf_X3_166 F (v := .int ((u2 (u2 x 16 i ((x 16 i) + 1)) 26 (gd (y 15 i)) ((x 26 (gd (y 15 i))) + 1)) 26 (gd (y 15 i)))) dX3_work_61 (4 + nA G + (gd (y 15 i))) (cg_T ((CI.held hM h12) _ (gd_some h35))) rfl ?_
        refine j_aload F dX3_work_64 rfl ?_
        refine gf_X3_163 F (v := .int (x 23 (gd (y 15 i)))) dX3_work_66 (4 + nA G + (gd (y 15 i))) (cg_T ((CI.held hM h12) _ (gd_some h35))) rfl ?_
        refine j_icne F (tgt := 82) dX3_work_69 (by decide) (fun h69 => ?_) (fun h69 => ?_)
        · refine j_iincN F [some (.ref (G.1 0 0)), some (.int s), some (.int (nI (i + 1))), some (.ref (aA G i)), some (.ref (aT G (gd (y 15 i))))] dX3_work_82 rfl rfl rfl rfl ?_
          refine j_goto F (tgt := 4) dX3_work_85 (by decide) ?_
          refine j_lvw [some (.ref (G.1 0 0)), some (.int s), some (.int (nI (i + 1))), none, none] ⟨rfl, rfl, rfl, trivial⟩ ?_
          exact ih4 (i + 1) s (u2 (u2 x 16 i ((x 16 i) + 1)) 26 (gd (y 15 i)) ((x 26 (gd (y 15 i))) + 1)) y (by omega) (by omega) (by rw [C_workL_s, ← hc_s, ← hc_x, ← hc_y, C_workLB, if_neg h35, if_neg h69]) (by rw [C_workL_s, ← hc_s, ← hc_x, ← hc_y, C_workLB, if_neg h35, if_neg h69]) (by rw [C_workL_s, ← hc_s, ← hc_x, ← hc_y, C_workLB, if_neg h35, if_neg h69]) ((CI_v (by decide) (CI_v (by decide) hM)))
        · refine j_aloadn F dX3_work_72 rfl ?_
          refine j_aload F dX3_work_73 rfl ?_
          refine j_aloadn F dX3_work_75 rfl ?_
          refine j_dmV F hR.1 (qX3_solve (kl k) hst (kD k) G (u2 (u2 x 16 i ((x 16 i) + 1)) 26 (gd (y 15 i)) ((x 26 (gd (y 15 i))) + 1)) y (gd (y 15 i)) i ((CI_v (by decide) (CI_v (by decide) hM))) (((CI.held hM h12) _ (gd_some h35))) h12) lk_X3_281 dX3_work_76 ⟨(Nat.le_of_ble_eq_true rfl), (Nat.le_of_ble_eq_true rfl)⟩ 0 rfl rfl rfl (Nat.le_of_ble_eq_true rfl) ⟨(Nat.le_of_ble_eq_true rfl), (Nat.le_of_ble_eq_true rfl)⟩ rfl ?_
          refine j_iinc F [some (.ref (G.1 0 0)), some (.int (s + 1)), some (.int (nI i)), some (.ref (aA G i)), some (.ref (aT G (gd (y 15 i))))] dX3_work_79 rfl (v := s + 1) rfl rfl rfl rfl ?_
          refine j_iincN F [some (.ref (G.1 0 0)), some (.int (s + 1)), some (.int (nI (i + 1))), some (.ref (aA G i)), some (.ref (aT G (gd (y 15 i))))] dX3_work_82 rfl rfl rfl rfl ?_
          refine j_goto F (tgt := 4) dX3_work_85 (by decide) ?_
          refine j_lvw [some (.ref (G.1 0 0)), some (.int (s + 1)), some (.int (nI (i + 1))), none, none] ⟨rfl, rfl, rfl, trivial⟩ ?_
          exact ih4 (i + 1) (s + 1) ((C_solve (nA G) (nT G) (u2 (u2 x 16 i ((x 16 i) + 1)) 26 (gd (y 15 i)) ((x 26 (gd (y 15 i))) + 1)) y (gd (y 15 i)) i).1) ((C_solve (nA G) (nT G) (u2 (u2 x 16 i ((x 16 i) + 1)) 26 (gd (y 15 i)) ((x 26 (gd (y 15 i))) + 1)) y (gd (y 15 i)) i).2) (by omega) (by omega) (by rw [C_workL_s, ← hc_s, ← hc_x, ← hc_y, C_workLB, if_neg h35, if_pos h69]) (by rw [C_workL_s, ← hc_s, ← hc_x, ← hc_y, C_workLB, if_neg h35, if_pos h69]) (by rw [C_workL_s, ← hc_s, ← hc_x, ← hc_y, C_workLB, if_neg h35, if_pos h69]) ((CI_solve (CI_v (by decide) (CI_v (by decide) hM))))
theorem CI_work {na nt : Nat} {G : CG} {v : S2} {r : R2} (h : CI G v r) : CI G (C_work na nt v r).2.1 (C_work na nt v r).2.2 := by
  have : ∀ n, CI G (C_workL na nt v r n).2.1 (C_workL na nt v r n).2.2 := fun n => by
    induction n with
    | zero => exact h
    | succ n ih =>
      rw [C_workL_s, C_workLB]
      generalize (C_workL na nt v r n).2.1 = x at ih ⊢
      generalize (C_workL na nt v r n).2.2 = y at ih ⊢
      repeat' split
      all_goals first | exact ih | exact CI_solve (CI_v (by decide) (CI_v (by decide) ih)) | exact CI_v (by decide) (CI_v (by decide) ih)
  exact this na
def C_passMinute (na nt : Nat) (v : S2) (r : R2) : Int32 × S2 × R2 := if (C_H_isService na nt ((C_giveOutTickets na nt ((C_sendHomeAgents na nt v r).1) ((C_sendHomeAgents na nt v r).2)).1) ((C_giveOutTickets na nt ((C_sendHomeAgents na nt v r).1) ((C_sendHomeAgents na nt v r).2)).2) (((C_giveOutTickets na nt ((C_sendHomeAgents na nt v r).1) ((C_sendHomeAgents na nt v r).2)).1) 0 0)) = true then ((C_work na nt ((C_ageTickets na nt ((C_giveOutTickets na nt ((C_sendHomeAgents na nt v r).1) ((C_sendHomeAgents na nt v r).2)).1) ((C_giveOutTickets na nt ((C_sendHomeAgents na nt v r).1) ((C_sendHomeAgents na nt v r).2)).2)).1) ((C_ageTickets na nt ((C_giveOutTickets na nt ((C_sendHomeAgents na nt v r).1) ((C_sendHomeAgents na nt v r).2)).1) ((C_giveOutTickets na nt ((C_sendHomeAgents na nt v r).1) ((C_sendHomeAgents na nt v r).2)).2)).2)).1, u2 ((C_work na nt ((C_ageTickets na nt ((C_giveOutTickets na nt ((C_sendHomeAgents na nt v r).1) ((C_sendHomeAgents na nt v r).2)).1) ((C_giveOutTickets na nt ((C_sendHomeAgents na nt v r).1) ((C_sendHomeAgents na nt v r).2)).2)).1) ((C_ageTickets na nt ((C_giveOutTickets na nt ((C_sendHomeAgents na nt v r).1) ((C_sendHomeAgents na nt v r).2)).1) ((C_giveOutTickets na nt ((C_sendHomeAgents na nt v r).1) ((C_sendHomeAgents na nt v r).2)).2)).2)).2.1) 0 0 ((((C_work na nt ((C_ageTickets na nt ((C_giveOutTickets na nt ((C_sendHomeAgents na nt v r).1) ((C_sendHomeAgents na nt v r).2)).1) ((C_giveOutTickets na nt ((C_sendHomeAgents na nt v r).1) ((C_sendHomeAgents na nt v r).2)).2)).1) ((C_ageTickets na nt ((C_giveOutTickets na nt ((C_sendHomeAgents na nt v r).1) ((C_sendHomeAgents na nt v r).2)).1) ((C_giveOutTickets na nt ((C_sendHomeAgents na nt v r).1) ((C_sendHomeAgents na nt v r).2)).2)).2)).2.1) 0 0) + 1), (C_work na nt ((C_ageTickets na nt ((C_giveOutTickets na nt ((C_sendHomeAgents na nt v r).1) ((C_sendHomeAgents na nt v r).2)).1) ((C_giveOutTickets na nt ((C_sendHomeAgents na nt v r).1) ((C_sendHomeAgents na nt v r).2)).2)).1) ((C_ageTickets na nt ((C_giveOutTickets na nt ((C_sendHomeAgents na nt v r).1) ((C_sendHomeAgents na nt v r).2)).1) ((C_giveOutTickets na nt ((C_sendHomeAgents na nt v r).1) ((C_sendHomeAgents na nt v r).2)).2)).2)).2.2) else ((C_work na nt ((C_giveOutTickets na nt ((C_sendHomeAgents na nt v r).1) ((C_sendHomeAgents na nt v r).2)).1) ((C_giveOutTickets na nt ((C_sendHomeAgents na nt v r).1) ((C_sendHomeAgents na nt v r).2)).2)).1, u2 ((C_work na nt ((C_giveOutTickets na nt ((C_sendHomeAgents na nt v r).1) ((C_sendHomeAgents na nt v r).2)).1) ((C_giveOutTickets na nt ((C_sendHomeAgents na nt v r).1) ((C_sendHomeAgents na nt v r).2)).2)).2.1) 0 0 ((((C_work na nt ((C_giveOutTickets na nt ((C_sendHomeAgents na nt v r).1) ((C_sendHomeAgents na nt v r).2)).1) ((C_giveOutTickets na nt ((C_sendHomeAgents na nt v r).1) ((C_sendHomeAgents na nt v r).2)).2)).2.1) 0 0) + 1), (C_work na nt ((C_giveOutTickets na nt ((C_sendHomeAgents na nt v r).1) ((C_sendHomeAgents na nt v r).2)).1) ((C_giveOutTickets na nt ((C_sendHomeAgents na nt v r).1) ((C_sendHomeAgents na nt v r).2)).2)).2.2)
set_option maxHeartbeats 4000000 in
set_option maxRecDepth 100000 in
theorem qX3_passMinute (l : Launch) (hst : l.stackTraces = false) (D : va_G) (G : CG) (v : S2) (r : R2) (hG : GI D G) (hC : CI G v r) : CM l D yX3_passMinute cX3_passMinute 2 (some .int) 5 111 0 0 (CW D G v r) [.ref (G.1 0 0)] (dP (some (.int ((C_passMinute (nA G) (nT G) v r).1))) (CW D G (C_passMinute (nA G) (nT G) v r).2.1 (C_passMinute (nA G) (nT G) v r).2.2)) := by
  refine CM_of [some (.ref (G.1 0 0)), none] hst (by decide +kernel) rfl (Nat.le_of_ble_eq_true rfl) (fun k F hl hD hin hR => ?_)
  subst hl hD
  refine j_aloadn F dX3_passMinute_0 rfl ?_
  refine j_dmV F hR.1 (qX3_sendHomeAgents (kl k) hst (kD k) G v r hG hC) lk_X3_256 dX3_passMinute_1 ⟨(Nat.le_of_ble_eq_true rfl), (Nat.le_of_ble_eq_true rfl)⟩ 0 rfl rfl rfl (Nat.le_of_ble_eq_true rfl) ⟨(Nat.le_of_ble_eq_true rfl), (Nat.le_of_ble_eq_true rfl)⟩ rfl ?_
  refine j_aloadn F dX3_passMinute_4 rfl ?_
  refine j_dmV F hR.1 (qX3_giveOutTickets (kl k) hst (kD k) G ((C_sendHomeAgents (nA G) (nT G) v r).1) ((C_sendHomeAgents (nA G) (nT G) v r).2) hG ((CI_home hC))) lk_X3_259 dX3_passMinute_5 ⟨(Nat.le_of_ble_eq_true rfl), (Nat.le_of_ble_eq_true rfl)⟩ 0 rfl rfl rfl (Nat.le_of_ble_eq_true rfl) ⟨(Nat.le_of_ble_eq_true rfl), (Nat.le_of_ble_eq_true rfl)⟩ rfl ?_
  refine j_aloadn F dX3_passMinute_8 rfl ?_
  refine gf_X3_10 F (v := .ref (G.1 0 1)) dX3_passMinute_9 0 rfl rfl ?_
  refine j_aloadn F dX3_passMinute_12 rfl ?_
  refine gf_X3_33 F (v := .int (((C_giveOutTickets (nA G) (nT G) ((C_sendHomeAgents (nA G) (nT G) v r).1) ((C_sendHomeAgents (nA G) (nT G) v r).2)).1) 0 0)) dX3_passMinute_13 0 rfl rfl ?_
  refine j_rdV F (qX1_isService (kl k) hst (kD k) G ((C_giveOutTickets (nA G) (nT G) ((C_sendHomeAgents (nA G) (nT G) v r).1) ((C_sendHomeAgents (nA G) (nT G) v r).2)).1) ((C_giveOutTickets (nA G) (nT G) ((C_sendHomeAgents (nA G) (nT G) v r).1) ((C_sendHomeAgents (nA G) (nT G) v r).2)).2) (((C_giveOutTickets (nA G) (nT G) ((C_sendHomeAgents (nA G) (nT G) v r).1) ((C_sendHomeAgents (nA G) (nT G) v r).2)).1) 0 0)) lk_X3_262 dX3_passMinute_16 ⟨(Nat.le_of_ble_eq_true rfl), (Nat.le_of_ble_eq_true rfl)⟩ (fun _ h => h) 1 rfl rfl rfl (Nat.le_of_ble_eq_true rfl) ⟨(Nat.le_of_ble_eq_true rfl), (Nat.le_of_ble_eq_true rfl)⟩ ?_
  refine j_ifbeq F (tgt := 26) dX3_passMinute_19 (by decide) (fun h19 => ?_) (fun h19 => ?_)
  · refine j_aloadn F dX3_passMinute_26 rfl ?_
    refine j_dmV F hR.1 (qX3_work (kl k) hst (kD k) G ((C_giveOutTickets (nA G) (nT G) ((C_sendHomeAgents (nA G) (nT G) v r).1) ((C_sendHomeAgents (nA G) (nT G) v r).2)).1) ((C_giveOutTickets (nA G) (nT G) ((C_sendHomeAgents (nA G) (nT G) v r).1) ((C_sendHomeAgents (nA G) (nT G) v r).2)).2) hG ((CI_out (CI_home hC)))) lk_X3_268 dX3_passMinute_27 ⟨(Nat.le_of_ble_eq_true rfl), (Nat.le_of_ble_eq_true rfl)⟩ 0 rfl rfl rfl (Nat.le_of_ble_eq_true rfl) ⟨(Nat.le_of_ble_eq_true rfl), (Nat.le_of_ble_eq_true rfl)⟩ rfl ?_
    refine j_istoren F [some (.ref (G.1 0 0)), some (.int ((C_work (nA G) (nT G) ((C_giveOutTickets (nA G) (nT G) ((C_sendHomeAgents (nA G) (nT G) v r).1) ((C_sendHomeAgents (nA G) (nT G) v r).2)).1) ((C_giveOutTickets (nA G) (nT G) ((C_sendHomeAgents (nA G) (nT G) v r).1) ((C_sendHomeAgents (nA G) (nT G) v r).2)).2)).1))] dX3_passMinute_30 rfl rfl rfl ?_
    refine j_aloadn F dX3_passMinute_31 rfl ?_
    refine j_dup F dX3_passMinute_32 rfl ?_
    refine gf_X3_33 F (v := .int (((C_work (nA G) (nT G) ((C_giveOutTickets (nA G) (nT G) ((C_sendHomeAgents (nA G) (nT G) v r).1) ((C_sendHomeAgents (nA G) (nT G) v r).2)).1) ((C_giveOutTickets (nA G) (nT G) ((C_sendHomeAgents (nA G) (nT G) v r).1) ((C_sendHomeAgents (nA G) (nT G) v r).2)).2)).2.1) 0 0)) dX3_passMinute_33 0 rfl rfl ?_
    refine j_iconst F (v := 1) dX3_passMinute_36 (by decide) ?_
    refine j_iadd F dX3_passMinute_37 ?_
    refine pf_X3_33 F hR.1 dX3_passMinute_38 rfl rfl 0 rfl (Nat.le_of_ble_eq_true rfl) (CW (kD k) G (u2 ((C_work (nA G) (nT G) ((C_giveOutTickets (nA G) (nT G) ((C_sendHomeAgents (nA G) (nT G) v r).1) ((C_sendHomeAgents (nA G) (nT G) v r).2)).1) ((C_giveOutTickets (nA G) (nT G) ((C_sendHomeAgents (nA G) (nT G) v r).1) ((C_sendHomeAgents (nA G) (nT G) v r).2)).2)).2.1) 0 0 ((((C_work (nA G) (nT G) ((C_giveOutTickets (nA G) (nT G) ((C_sendHomeAgents (nA G) (nT G) v r).1) ((C_sendHomeAgents (nA G) (nT G) v r).2)).1) ((C_giveOutTickets (nA G) (nT G) ((C_sendHomeAgents (nA G) (nT G) v r).1) ((C_sendHomeAgents (nA G) (nT G) v r).2)).2)).2.1) 0 0) + 1)) ((C_work (nA G) (nT G) ((C_giveOutTickets (nA G) (nT G) ((C_sendHomeAgents (nA G) (nT G) v r).1) ((C_sendHomeAgents (nA G) (nT G) v r).2)).1) ((C_giveOutTickets (nA G) (nT G) ((C_sendHomeAgents (nA G) (nT G) v r).1) ((C_sendHomeAgents (nA G) (nT G) v r).2)).2)).2.2)) cs_0 ?_
    refine j_iloadn F dX3_passMinute_41 rfl ?_
    have hz : C_passMinute (nA G) (nT G) v r = ((C_work (nA G) (nT G) ((C_giveOutTickets (nA G) (nT G) ((C_sendHomeAgents (nA G) (nT G) v r).1) ((C_sendHomeAgents (nA G) (nT G) v r).2)).1) ((C_giveOutTickets (nA G) (nT G) ((C_sendHomeAgents (nA G) (nT G) v r).1) ((C_sendHomeAgents (nA G) (nT G) v r).2)).2)).1, u2 ((C_work (nA G) (nT G) ((C_giveOutTickets (nA G) (nT G) ((C_sendHomeAgents (nA G) (nT G) v r).1) ((C_sendHomeAgents (nA G) (nT G) v r).2)).1) ((C_giveOutTickets (nA G) (nT G) ((C_sendHomeAgents (nA G) (nT G) v r).1) ((C_sendHomeAgents (nA G) (nT G) v r).2)).2)).2.1) 0 0 ((((C_work (nA G) (nT G) ((C_giveOutTickets (nA G) (nT G) ((C_sendHomeAgents (nA G) (nT G) v r).1) ((C_sendHomeAgents (nA G) (nT G) v r).2)).1) ((C_giveOutTickets (nA G) (nT G) ((C_sendHomeAgents (nA G) (nT G) v r).1) ((C_sendHomeAgents (nA G) (nT G) v r).2)).2)).2.1) 0 0) + 1), (C_work (nA G) (nT G) ((C_giveOutTickets (nA G) (nT G) ((C_sendHomeAgents (nA G) (nT G) v r).1) ((C_sendHomeAgents (nA G) (nT G) v r).2)).1) ((C_giveOutTickets (nA G) (nT G) ((C_sendHomeAgents (nA G) (nT G) v r).1) ((C_sendHomeAgents (nA G) (nT G) v r).2)).2)).2.2) := by rw [C_passMinute, if_neg h19]
    exact j_iret F hR dX3_passMinute_42 (Nat.le_of_ble_eq_true rfl) (Nat.le_of_ble_eq_true rfl) ⟨by rw [hz], by rw [hz]⟩
  · refine j_aloadn F dX3_passMinute_22 rfl ?_
    refine j_dmV F hR.1 (qX3_ageTickets (kl k) hst (kD k) G ((C_giveOutTickets (nA G) (nT G) ((C_sendHomeAgents (nA G) (nT G) v r).1) ((C_sendHomeAgents (nA G) (nT G) v r).2)).1) ((C_giveOutTickets (nA G) (nT G) ((C_sendHomeAgents (nA G) (nT G) v r).1) ((C_sendHomeAgents (nA G) (nT G) v r).2)).2) hG) lk_X3_265 dX3_passMinute_23 ⟨(Nat.le_of_ble_eq_true rfl), (Nat.le_of_ble_eq_true rfl)⟩ 0 rfl rfl rfl (Nat.le_of_ble_eq_true rfl) ⟨(Nat.le_of_ble_eq_true rfl), (Nat.le_of_ble_eq_true rfl)⟩ rfl ?_
    refine j_aloadn F dX3_passMinute_26 rfl ?_
    refine j_dmV F hR.1 (qX3_work (kl k) hst (kD k) G ((C_ageTickets (nA G) (nT G) ((C_giveOutTickets (nA G) (nT G) ((C_sendHomeAgents (nA G) (nT G) v r).1) ((C_sendHomeAgents (nA G) (nT G) v r).2)).1) ((C_giveOutTickets (nA G) (nT G) ((C_sendHomeAgents (nA G) (nT G) v r).1) ((C_sendHomeAgents (nA G) (nT G) v r).2)).2)).1) ((C_ageTickets (nA G) (nT G) ((C_giveOutTickets (nA G) (nT G) ((C_sendHomeAgents (nA G) (nT G) v r).1) ((C_sendHomeAgents (nA G) (nT G) v r).2)).1) ((C_giveOutTickets (nA G) (nT G) ((C_sendHomeAgents (nA G) (nT G) v r).1) ((C_sendHomeAgents (nA G) (nT G) v r).2)).2)).2) hG ((CI_age (CI_out (CI_home hC))))) lk_X3_268 dX3_passMinute_27 ⟨(Nat.le_of_ble_eq_true rfl), (Nat.le_of_ble_eq_true rfl)⟩ 0 rfl rfl rfl (Nat.le_of_ble_eq_true rfl) ⟨(Nat.le_of_ble_eq_true rfl), (Nat.le_of_ble_eq_true rfl)⟩ rfl ?_
    refine j_istoren F [some (.ref (G.1 0 0)), some (.int ((C_work (nA G) (nT G) ((C_ageTickets (nA G) (nT G) ((C_giveOutTickets (nA G) (nT G) ((C_sendHomeAgents (nA G) (nT G) v r).1) ((C_sendHomeAgents (nA G) (nT G) v r).2)).1) ((C_giveOutTickets (nA G) (nT G) ((C_sendHomeAgents (nA G) (nT G) v r).1) ((C_sendHomeAgents (nA G) (nT G) v r).2)).2)).1) ((C_ageTickets (nA G) (nT G) ((C_giveOutTickets (nA G) (nT G) ((C_sendHomeAgents (nA G) (nT G) v r).1) ((C_sendHomeAgents (nA G) (nT G) v r).2)).1) ((C_giveOutTickets (nA G) (nT G) ((C_sendHomeAgents (nA G) (nT G) v r).1) ((C_sendHomeAgents (nA G) (nT G) v r).2)).2)).2)).1))] dX3_passMinute_30 rfl rfl rfl ?_
    refine j_aloadn F dX3_passMinute_31 rfl ?_
    refine j_dup F dX3_passMinute_32 rfl ?_
    refine gf_X3_33 F (v := .int (((C_work (nA G) (nT G) ((C_ageTickets (nA G) (nT G) ((C_giveOutTickets (nA G) (nT G) ((C_sendHomeAgents (nA G) (nT G) v r).1) ((C_sendHomeAgents (nA G) (nT G) v r).2)).1) ((C_giveOutTickets (nA G) (nT G) ((C_sendHomeAgents (nA G) (nT G) v r).1) ((C_sendHomeAgents (nA G) (nT G) v r).2)).2)).1) ((C_ageTickets (nA G) (nT G) ((C_giveOutTickets (nA G) (nT G) ((C_sendHomeAgents (nA G) (nT G) v r).1) ((C_sendHomeAgents (nA G) (nT G) v r).2)).1) ((C_giveOutTickets (nA G) (nT G) ((C_sendHomeAgents (nA G) (nT G) v r).1) ((C_sendHomeAgents (nA G) (nT G) v r).2)).2)).2)).2.1) 0 0)) dX3_passMinute_33 0 rfl rfl ?_
    refine j_iconst F (v := 1) dX3_passMinute_36 (by decide) ?_
    refine j_iadd F dX3_passMinute_37 ?_
    refine pf_X3_33 F hR.1 dX3_passMinute_38 rfl rfl 0 rfl (Nat.le_of_ble_eq_true rfl) (CW (kD k) G (u2 ((C_work (nA G) (nT G) ((C_ageTickets (nA G) (nT G) ((C_giveOutTickets (nA G) (nT G) ((C_sendHomeAgents (nA G) (nT G) v r).1) ((C_sendHomeAgents (nA G) (nT G) v r).2)).1) ((C_giveOutTickets (nA G) (nT G) ((C_sendHomeAgents (nA G) (nT G) v r).1) ((C_sendHomeAgents (nA G) (nT G) v r).2)).2)).1) ((C_ageTickets (nA G) (nT G) ((C_giveOutTickets (nA G) (nT G) ((C_sendHomeAgents (nA G) (nT G) v r).1) ((C_sendHomeAgents (nA G) (nT G) v r).2)).1) ((C_giveOutTickets (nA G) (nT G) ((C_sendHomeAgents (nA G) (nT G) v r).1) ((C_sendHomeAgents (nA G) (nT G) v r).2)).2)).2)).2.1) 0 0 ((((C_work (nA G) (nT G) ((C_ageTickets (nA G) (nT G) ((C_giveOutTickets (nA G) (nT G) ((C_sendHomeAgents (nA G) (nT G) v r).1) ((C_sendHomeAgents (nA G) (nT G) v r).2)).1) ((C_giveOutTickets (nA G) (nT G) ((C_sendHomeAgents (nA G) (nT G) v r).1) ((C_sendHomeAgents (nA G) (nT G) v r).2)).2)).1) ((C_ageTickets (nA G) (nT G) ((C_giveOutTickets (nA G) (nT G) ((C_sendHomeAgents (nA G) (nT G) v r).1) ((C_sendHomeAgents (nA G) (nT G) v r).2)).1) ((C_giveOutTickets (nA G) (nT G) ((C_sendHomeAgents (nA G) (nT G) v r).1) ((C_sendHomeAgents (nA G) (nT G) v r).2)).2)).2)).2.1) 0 0) + 1)) ((C_work (nA G) (nT G) ((C_ageTickets (nA G) (nT G) ((C_giveOutTickets (nA G) (nT G) ((C_sendHomeAgents (nA G) (nT G) v r).1) ((C_sendHomeAgents (nA G) (nT G) v r).2)).1) ((C_giveOutTickets (nA G) (nT G) ((C_sendHomeAgents (nA G) (nT G) v r).1) ((C_sendHomeAgents (nA G) (nT G) v r).2)).2)).1) ((C_ageTickets (nA G) (nT G) ((C_giveOutTickets (nA G) (nT G) ((C_sendHomeAgents (nA G) (nT G) v r).1) ((C_sendHomeAgents (nA G) (nT G) v r).2)).1) ((C_giveOutTickets (nA G) (nT G) ((C_sendHomeAgents (nA G) (nT G) v r).1) ((C_sendHomeAgents (nA G) (nT G) v r).2)).2)).2)).2.2)) cs_0 ?_
    refine j_iloadn F dX3_passMinute_41 rfl ?_
    have hz : C_passMinute (nA G) (nT G) v r = ((C_work (nA G) (nT G) ((C_ageTickets (nA G) (nT G) ((C_giveOutTickets (nA G) (nT G) ((C_sendHomeAgents (nA G) (nT G) v r).1) ((C_sendHomeAgents (nA G) (nT G) v r).2)).1) ((C_giveOutTickets (nA G) (nT G) ((C_sendHomeAgents (nA G) (nT G) v r).1) ((C_sendHomeAgents (nA G) (nT G) v r).2)).2)).1) ((C_ageTickets (nA G) (nT G) ((C_giveOutTickets (nA G) (nT G) ((C_sendHomeAgents (nA G) (nT G) v r).1) ((C_sendHomeAgents (nA G) (nT G) v r).2)).1) ((C_giveOutTickets (nA G) (nT G) ((C_sendHomeAgents (nA G) (nT G) v r).1) ((C_sendHomeAgents (nA G) (nT G) v r).2)).2)).2)).1, u2 ((C_work (nA G) (nT G) ((C_ageTickets (nA G) (nT G) ((C_giveOutTickets (nA G) (nT G) ((C_sendHomeAgents (nA G) (nT G) v r).1) ((C_sendHomeAgents (nA G) (nT G) v r).2)).1) ((C_giveOutTickets (nA G) (nT G) ((C_sendHomeAgents (nA G) (nT G) v r).1) ((C_sendHomeAgents (nA G) (nT G) v r).2)).2)).1) ((C_ageTickets (nA G) (nT G) ((C_giveOutTickets (nA G) (nT G) ((C_sendHomeAgents (nA G) (nT G) v r).1) ((C_sendHomeAgents (nA G) (nT G) v r).2)).1) ((C_giveOutTickets (nA G) (nT G) ((C_sendHomeAgents (nA G) (nT G) v r).1) ((C_sendHomeAgents (nA G) (nT G) v r).2)).2)).2)).2.1) 0 0 ((((C_work (nA G) (nT G) ((C_ageTickets (nA G) (nT G) ((C_giveOutTickets (nA G) (nT G) ((C_sendHomeAgents (nA G) (nT G) v r).1) ((C_sendHomeAgents (nA G) (nT G) v r).2)).1) ((C_giveOutTickets (nA G) (nT G) ((C_sendHomeAgents (nA G) (nT G) v r).1) ((C_sendHomeAgents (nA G) (nT G) v r).2)).2)).1) ((C_ageTickets (nA G) (nT G) ((C_giveOutTickets (nA G) (nT G) ((C_sendHomeAgents (nA G) (nT G) v r).1) ((C_sendHomeAgents (nA G) (nT G) v r).2)).1) ((C_giveOutTickets (nA G) (nT G) ((C_sendHomeAgents (nA G) (nT G) v r).1) ((C_sendHomeAgents (nA G) (nT G) v r).2)).2)).2)).2.1) 0 0) + 1), (C_work (nA G) (nT G) ((C_ageTickets (nA G) (nT G) ((C_giveOutTickets (nA G) (nT G) ((C_sendHomeAgents (nA G) (nT G) v r).1) ((C_sendHomeAgents (nA G) (nT G) v r).2)).1) ((C_giveOutTickets (nA G) (nT G) ((C_sendHomeAgents (nA G) (nT G) v r).1) ((C_sendHomeAgents (nA G) (nT G) v r).2)).2)).1) ((C_ageTickets (nA G) (nT G) ((C_giveOutTickets (nA G) (nT G) ((C_sendHomeAgents (nA G) (nT G) v r).1) ((C_sendHomeAgents (nA G) (nT G) v r).2)).1) ((C_giveOutTickets (nA G) (nT G) ((C_sendHomeAgents (nA G) (nT G) v r).1) ((C_sendHomeAgents (nA G) (nT G) v r).2)).2)).2)).2.2) := by rw [C_passMinute, if_pos h19]
    exact j_iret F hR dX3_passMinute_42 (Nat.le_of_ble_eq_true rfl) (Nat.le_of_ble_eq_true rfl) ⟨by rw [hz], by rw [hz]⟩
theorem CI_pm {G : CG} {v : S2} {r : R2} (h : CI G v r) : CI G (C_passMinute (nA G) (nT G) v r).2.1 (C_passMinute (nA G) (nT G) v r).2.2 := by
  unfold C_passMinute
  split
  · exact CI_v (by decide) (CI_work (CI_age (CI_out (CI_home h))))
  · exact CI_v (by decide) (CI_work (CI_out (CI_home h)))
theorem p_nI {x : Int32} (h1 : ¬ x < 1) (h2 : x ≤ 600) : x = nI (ix x) ∧ ix x ≤ 600 := by
  have e1 : (1 : Int32).toInt = 1 := by decide
  have e2 : (600 : Int32).toInt = 600 := by decide
  rw [Int32.lt_iff_toInt_lt, e1] at h1
  rw [Int32.le_iff_toInt_le, e2] at h2
  have h : vp_in x 601 := vp_in_iff.mpr ⟨by omega, by omega⟩
  exact ⟨in_nI h, by have := vp_lt h; omega⟩
def C_passLB (na : Nat) (nt : Nat) (v : S2) (r : R2) (i : Nat) (s : Int32) (x : S2) (y : R2) : Int32 × S2 × R2 := (s + ((C_passMinute na nt x y).1), (C_passMinute na nt x y).2.1, (C_passMinute na nt x y).2.2)
def C_passL (na : Nat) (nt : Nat) (v : S2) (r : R2) : Nat → Int32 × S2 × R2
  | 0 => (0, v, r)
  | n + 1 => C_passLB na nt v r n ((C_passL na nt v r n)).1 ((C_passL na nt v r n)).2.1 ((C_passL na nt v r n)).2.2
theorem C_passL_s (na : Nat) (nt : Nat) (v : S2) (r : R2) (n : Nat) : C_passL na nt v r (n + 1) = C_passLB na nt v r n ((C_passL na nt v r n)).1 ((C_passL na nt v r n)).2.1 ((C_passL na nt v r n)).2.2 := rfl
def C_pass (na nt : Nat) (v : S2) (r : R2) (p0 : Int32) : Nat × Int32 × S2 × R2 := if p0 < 1 then (1, 0, v, r) else if p0 ≤ 600 then (if p0 ≤ (99999 - (v 0 0)) then (0, (C_passL na nt v r (ix p0)).1, (C_passL na nt v r (ix p0)).2.1, (C_passL na nt v r (ix p0)).2.2) else (3, 0, v, r)) else (1, 0, v, r)
set_option maxHeartbeats 4000000 in
set_option maxRecDepth 100000 in
theorem qX3_pass (l : Launch) (hst : l.stackTraces = false) (D : va_G) (G : CG) (v : S2) (r : R2) (p0 : Int32) (hG : GI D G) (hC : CI G v r) : CX l D yX3_pass cX3_pass 4 (some .int) 6 132 1 6 (CW D G v r) [.ref (G.1 0 0), .int p0] (fun u w => (C_pass (nA G) (nT G) v r p0).1 = 0 ∧ u = some (.int ((C_pass (nA G) (nT G) v r p0).2.1)) ∧ w = CW D G (C_pass (nA G) (nT G) v r p0).2.2.1 (C_pass (nA G) (nT G) v r p0).2.2.2) (fun E => (C_pass (nA G) (nT G) v r p0).1 ≠ 0 ∧ E = xE (C_pass (nA G) (nT G) v r p0).1) := by
  refine CX_of [some (.ref (G.1 0 0)), some (.int p0), none, none] hst (by decide +kernel) rfl (Nat.le_of_ble_eq_true rfl) (fun k F hl hD hR hX hNT => ?_)
  subst hl hD
  refine j_iloadn F dX3_pass_0 rfl ?_
  refine j_iconst F (v := 1) dX3_pass_1 (by decide) ?_
  refine j_iclt F (tgt := 12) dX3_pass_2 (by decide) (fun h2 => ?_) (fun h2 => ?_)
  · have hz : C_pass (nA G) (nT G) v r p0 = (1, 0, v, r) := by rw [C_pass, if_pos h2]
    exact j_throw F hX hNT lt_eA (text := "no such number of minutes") (by decide +kernel) ⟨by rw [hz]; exact (Nat.succ_ne_zero _), by rw [hz]; rfl⟩ dX3_pass_12 dX3_pass_15 dX3_pass_16 dX3_pass_18 dX3_pass_21 ⟨(Nat.le_of_ble_eq_true rfl), (Nat.le_of_ble_eq_true rfl), (Nat.le_of_ble_eq_true rfl), (Nat.le_of_ble_eq_true rfl)⟩ (Nat.le_of_ble_eq_true rfl) (Nat.le_of_ble_eq_true rfl)
  · refine j_iloadn F dX3_pass_5 rfl ?_
    refine j_sipush F (v := 600) dX3_pass_6 (by decide) ?_
    refine j_icle F (tgt := 22) dX3_pass_9 (by decide) (fun h9 => ?_) (fun h9 => ?_)
    · refine j_iloadn F dX3_pass_22 rfl ?_
      refine j_ldc F uc_X3_65 dX3_pass_23 ?_
      refine j_aloadn F dX3_pass_25 rfl ?_
      refine gf_X3_33 F (v := .int (v 0 0)) dX3_pass_26 0 rfl rfl ?_
      refine j_isub F dX3_pass_29 ?_
      refine j_icle F (tgt := 43) dX3_pass_30 (by decide) (fun h30 => ?_) (fun h30 => ?_)
      · refine j_iconst F (v := 0) dX3_pass_43 (by decide) ?_
        refine j_istoren F [some (.ref (G.1 0 0)), some (.int p0), some (.int 0), none] dX3_pass_44 rfl rfl rfl ?_
        refine j_iconst F (v := 0) dX3_pass_45 (by decide) ?_
        refine j_istoren F [some (.ref (G.1 0 0)), some (.int p0), some (.int 0), some (.int 0)] dX3_pass_46 rfl rfl rfl ?_
        have ep := p_nI h2 h9
        have ep2 := ep.2
        refine (show ∀ (fuel i : Nat) (s : Int32) (x : S2) (y : R2), (ix p0) - i < fuel → i ≤ (ix p0) → s = (C_passL (nA G) (nT G) v r i).1 → x = (C_passL (nA G) (nT G) v r i).2.1 → y = (C_passL (nA G) (nT G) v r i).2.2 → CI G x y →  J k (CW (kD k) G x y) 0 0 47 [some (.ref (G.1 0 0)), some (.int p0), some (.int s), some (.int (nI i))] [] from ?_) ((ix p0) + 1) 0 0 v r (by omega) (Nat.zero_le _) rfl rfl rfl hC
        intro fu47
        induction fu47 with
        | zero => intro i s x y hm; exact absurd hm (Nat.not_lt_zero _)
        | succ fu47 ih47 =>
          intro i s x y hm47 hi47 hc_s hc_x hc_y hM
          refine j_iloadn F dX3_pass_47 rfl ?_
          refine j_iloadn F dX3_pass_48 rfl ?_
          refine j_icgeE F (x := i) (y := (ix p0)) ep.1 (tgt := 65) dX3_pass_49 (by decide) ⟨by omega, by omega⟩ (fun h49 => ?_) (fun h49 => ?_)
          · obtain rfl : i = (ix p0) := by omega
            subst hc_s
            subst hc_x
            subst hc_y
            refine j_iloadn F dX3_pass_65 rfl ?_
            have hz : C_pass (nA G) (nT G) v r p0 = (0, (C_passL (nA G) (nT G) v r (ix p0)).1, (C_passL (nA G) (nT G) v r (ix p0)).2.1, (C_passL (nA G) (nT G) v r (ix p0)).2.2) := by rw [C_pass, if_neg h2, if_pos h9, if_pos h30]
            exact j_iret F hR dX3_pass_66 (Nat.le_of_ble_eq_true rfl) (Nat.le_of_ble_eq_true rfl) ⟨by rw [hz], by rw [hz], by rw [hz]⟩
          · refine j_iloadn F dX3_pass_52 rfl ?_
            refine j_aloadn F dX3_pass_53 rfl ?_
            refine j_dmV F hR.1 (qX3_passMinute (kl k) hst (kD k) G x y hG hM) lk_X3_226 dX3_pass_54 ⟨(Nat.le_of_ble_eq_true rfl), (Nat.le_of_ble_eq_true rfl)⟩ 0 rfl rfl rfl (Nat.le_of_ble_eq_true rfl) ⟨(Nat.le_of_ble_eq_true rfl), (Nat.le_of_ble_eq_true rfl)⟩ rfl ?_
            refine j_iadd F dX3_pass_57 ?_
            refine j_istoren F [some (.ref (G.1 0 0)), some (.int p0), some (.int (s + ((C_passMinute (nA G) (nT G) x y).1))), some (.int (nI i))] dX3_pass_58 rfl rfl rfl ?_
            refine j_iincN F [some (.ref (G.1 0 0)), some (.int p0), some (.int (s + ((C_passMinute (nA G) (nT G) x y).1))), some (.int (nI (i + 1)))] dX3_pass_59 rfl rfl rfl rfl ?_
            refine j_goto F (tgt := 47) dX3_pass_62 (by decide) ?_
            exact ih47 (i + 1) (s + ((C_passMinute (nA G) (nT G) x y).1)) ((C_passMinute (nA G) (nT G) x y).2.1) ((C_passMinute (nA G) (nT G) x y).2.2) (by omega) (by omega) (by rw [C_passL_s, ← hc_s, ← hc_x, ← hc_y, C_passLB]) (by rw [C_passL_s, ← hc_s, ← hc_x, ← hc_y, C_passLB]) (by rw [C_passL_s, ← hc_s, ← hc_x, ← hc_y, C_passLB]) ((CI_pm hM))
      · have hz : C_pass (nA G) (nT G) v r p0 = (3, 0, v, r) := by rw [C_pass, if_neg h2, if_pos h9, if_neg h30]
        exact j_throw F hX hNT lt_eS (text := "it would be later than the last minute") (by decide +kernel) ⟨by rw [hz]; exact (Nat.succ_ne_zero _), by rw [hz]; rfl⟩ dX3_pass_33 dX3_pass_36 dX3_pass_37 dX3_pass_39 dX3_pass_42 ⟨(Nat.le_of_ble_eq_true rfl), (Nat.le_of_ble_eq_true rfl), (Nat.le_of_ble_eq_true rfl), (Nat.le_of_ble_eq_true rfl)⟩ (Nat.le_of_ble_eq_true rfl) (Nat.le_of_ble_eq_true rfl)
    · have hz : C_pass (nA G) (nT G) v r p0 = (1, 0, v, r) := by rw [C_pass, if_neg h2, if_neg h9]
      exact j_throw F hX hNT lt_eA (text := "no such number of minutes") (by decide +kernel) ⟨by rw [hz]; exact (Nat.succ_ne_zero _), by rw [hz]; rfl⟩ dX3_pass_12 dX3_pass_15 dX3_pass_16 dX3_pass_18 dX3_pass_21 ⟨(Nat.le_of_ble_eq_true rfl), (Nat.le_of_ble_eq_true rfl), (Nat.le_of_ble_eq_true rfl), (Nat.le_of_ble_eq_true rfl)⟩ (Nat.le_of_ble_eq_true rfl) (Nat.le_of_ble_eq_true rfl)
def C_allLB (na : Nat) (nt : Nat) (v : S2) (r : R2) (p0 : Int32) (i : Nat) (x : Int32) : Int32 := if (v 24 i) = p0 then x ||| (1 <<< ((nI i) &&& 31)) else x
def C_allL (na : Nat) (nt : Nat) (v : S2) (r : R2) (p0 : Int32) : Nat → Int32
  | 0 => 0
  | n + 1 => C_allLB na nt v r p0 n (C_allL na nt v r p0 n)
theorem C_allL_s (na : Nat) (nt : Nat) (v : S2) (r : R2) (p0 : Int32) (n : Nat) : C_allL na nt v r p0 (n + 1) = C_allLB na nt v r p0 n (C_allL na nt v r p0 n) := rfl
def C_all (na nt : Nat) (v : S2) (r : R2) (p0 : Int32) : Nat × Int32 × S2 × R2 := if p0 < 0 then (2, 0, v, r) else if p0 ≤ 4 then (0, C_allL na nt v r p0 nt, v, r) else (2, 0, v, r)
set_option maxHeartbeats 4000000 in
set_option maxRecDepth 100000 in
theorem qX3_all (l : Launch) (hst : l.stackTraces = false) (D : va_G) (G : CG) (v : S2) (r : R2) (p0 : Int32) (hG : GI D G) : CX l D yX3_all cX3_all 4 (some .int) 6 90 1 6 (CW D G v r) [.ref (G.1 0 0), .int p0] (fun u w => (C_all (nA G) (nT G) v r p0).1 = 0 ∧ u = some (.int ((C_all (nA G) (nT G) v r p0).2.1)) ∧ w = CW D G (C_all (nA G) (nT G) v r p0).2.2.1 (C_all (nA G) (nT G) v r p0).2.2.2) (fun E => (C_all (nA G) (nT G) v r p0).1 ≠ 0 ∧ E = xE (C_all (nA G) (nT G) v r p0).1) := by
  refine CX_of [some (.ref (G.1 0 0)), some (.int p0), none, none] hst (by decide +kernel) rfl (Nat.le_of_ble_eq_true rfl) (fun k F hl hD hR hX hNT => ?_)
  subst hl hD
  have hNT0 : nT G ≤ 20 := hG.nT
  refine j_iloadn F dX3_all_0 rfl ?_
  refine j_iflt F (tgt := 9) dX3_all_1 (by decide) (fun h1 => ?_) (fun h1 => ?_)
  · have hz : C_all (nA G) (nT G) v r p0 = (2, 0, v, r) := by rw [C_all, if_pos h1]
    exact j_throw F hX hNT lt_eI (text := "no such state") (by decide +kernel) ⟨by rw [hz]; exact (Nat.succ_ne_zero _), by rw [hz]; rfl⟩ dX3_all_9 dX3_all_12 dX3_all_13 dX3_all_15 dX3_all_18 ⟨(Nat.le_of_ble_eq_true rfl), (Nat.le_of_ble_eq_true rfl), (Nat.le_of_ble_eq_true rfl), (Nat.le_of_ble_eq_true rfl)⟩ (Nat.le_of_ble_eq_true rfl) (Nat.le_of_ble_eq_true rfl)
  · refine j_iloadn F dX3_all_4 rfl ?_
    refine j_iconst F (v := 4) dX3_all_5 (by decide) ?_
    refine j_icle F (tgt := 19) dX3_all_6 (by decide) (fun h6 => ?_) (fun h6 => ?_)
    · refine j_iconst F (v := 0) dX3_all_19 (by decide) ?_
      refine j_istoren F [some (.ref (G.1 0 0)), some (.int p0), some (.int 0), none] dX3_all_20 rfl rfl rfl ?_
      refine j_iconst F (v := 0) dX3_all_21 (by decide) ?_
      refine j_istoren F [some (.ref (G.1 0 0)), some (.int p0), some (.int 0), some (.int 0)] dX3_all_22 rfl rfl rfl ?_
      refine (show ∀ (fuel i : Nat) (x : Int32), (nT G) - i < fuel → i ≤ (nT G) → x = C_allL (nA G) (nT G) v r p0 i →  J k (CW (kD k) G v r) 0 0 23 [some (.ref (G.1 0 0)), some (.int p0), some (.int x), some (.int (nI i))] [] from ?_) ((nT G) + 1) 0 0 (by omega) (Nat.zero_le _) rfl 
      intro fu23
      induction fu23 with
      | zero => intro i x hm; exact absurd hm (Nat.not_lt_zero _)
      | succ fu23 ih23 =>
        intro i x hm23 hi23 hc_x 
        refine j_iloadn F dX3_all_23 rfl ?_
        refine j_aloadn F dX3_all_24 rfl ?_
        refine gf_X3_30 F (v := .ref (G.1 0 5)) dX3_all_25 0 rfl rfl ?_
        refine j_sizeT F lk_X3_77 dX3_all_28 ⟨(Nat.le_of_ble_eq_true rfl), (Nat.le_of_ble_eq_true rfl)⟩ (Nat.le_of_ble_eq_true rfl) ⟨(Nat.le_of_ble_eq_true rfl), (Nat.le_of_ble_eq_true rfl)⟩ hst ?_
        refine j_icgeN F (x := i) (y := (nT G)) (tgt := 64) dX3_all_31 (by decide) ⟨by omega, by omega⟩ (fun h31 => ?_) (fun h31 => ?_)
        · obtain rfl : i = (nT G) := by omega
          subst hc_x
          refine j_iloadn F dX3_all_64 rfl ?_
          have hz : C_all (nA G) (nT G) v r p0 = (0, C_allL (nA G) (nT G) v r p0 (nT G), v, r) := by rw [C_all, if_neg h1, if_pos h6]
          exact j_iret F hR dX3_all_65 (Nat.le_of_ble_eq_true rfl) (Nat.le_of_ble_eq_true rfl) ⟨by rw [hz], by rw [hz], by rw [hz]⟩
        · refine j_aloadn F dX3_all_34 rfl ?_
          refine gf_X3_30 F (v := .ref (G.1 0 5)) dX3_all_35 0 rfl rfl ?_
          refine j_iloadn F dX3_all_38 rfl ?_
          refine j_getTN F hG h31 lk_X3_231 dX3_all_39 ⟨(Nat.le_of_ble_eq_true rfl), (Nat.le_of_ble_eq_true rfl)⟩ (Nat.le_of_ble_eq_true rfl) ⟨(Nat.le_of_ble_eq_true rfl), (Nat.le_of_ble_eq_true rfl)⟩ hst ?_
          refine j_cast F ul_X3_112 dX3_all_42 (4 + nA G + i) (cg_T h31) rfl ?_
          refine gf_X3_147 F (v := .int (v 24 i)) dX3_all_45 (4 + nA G + i) (cg_T h31) rfl ?_
          refine j_iloadn F dX3_all_48 rfl ?_
          refine j_icne F (tgt := 58) dX3_all_49 (by decide) (fun h49 => ?_) (fun h49 => ?_)
          · refine j_iincN F [some (.ref (G.1 0 0)), some (.int p0), some (.int x), some (.int (nI (i + 1)))] dX3_all_58 rfl rfl rfl rfl ?_
            refine j_goto F (tgt := 23) dX3_all_61 (by decide) ?_
            exact ih23 (i + 1) x (by omega) (by omega) (by rw [C_allL_s, ← hc_x, C_allLB, if_neg h49]) 
          · refine j_iloadn F dX3_all_52 rfl ?_
            refine j_iconst F (v := 1) dX3_all_53 (by decide) ?_
            refine j_iloadn F dX3_all_54 rfl ?_
            refine j_ishl F dX3_all_55 ?_
            refine j_ior F dX3_all_56 ?_
            refine j_istoren F [some (.ref (G.1 0 0)), some (.int p0), some (.int (x ||| (1 <<< ((nI i) &&& 31)))), some (.int (nI i))] dX3_all_57 rfl rfl rfl ?_
            refine j_iincN F [some (.ref (G.1 0 0)), some (.int p0), some (.int (x ||| (1 <<< ((nI i) &&& 31)))), some (.int (nI (i + 1)))] dX3_all_58 rfl rfl rfl rfl ?_
            refine j_goto F (tgt := 23) dX3_all_61 (by decide) ?_
            exact ih23 (i + 1) (x ||| (1 <<< ((nI i) &&& 31))) (by omega) (by omega) (by rw [C_allL_s, ← hc_x, C_allLB, if_pos h49]) 
    · have hz : C_all (nA G) (nT G) v r p0 = (2, 0, v, r) := by rw [C_all, if_neg h1, if_neg h6]
      exact j_throw F hX hNT lt_eI (text := "no such state") (by decide +kernel) ⟨by rw [hz]; exact (Nat.succ_ne_zero _), by rw [hz]; rfl⟩ dX3_all_9 dX3_all_12 dX3_all_13 dX3_all_15 dX3_all_18 ⟨(Nat.le_of_ble_eq_true rfl), (Nat.le_of_ble_eq_true rfl), (Nat.le_of_ble_eq_true rfl), (Nat.le_of_ble_eq_true rfl)⟩ (Nat.le_of_ble_eq_true rfl) (Nat.le_of_ble_eq_true rfl)
def C_brokenLB (na : Nat) (nt : Nat) (v : S2) (r : R2) (p0 : Bool) (i : Nat) (x : Int32) : Int32 := if p0 = true then (if (C_breaksAnswer na nt v r i) = true then x ||| (1 <<< ((nI i) &&& 31)) else x) else if (C_breaksSolution na nt v r i) = true then x ||| (1 <<< ((nI i) &&& 31)) else x
def C_brokenL (na : Nat) (nt : Nat) (v : S2) (r : R2) (p0 : Bool) : Nat → Int32
  | 0 => 0
  | n + 1 => C_brokenLB na nt v r p0 n (C_brokenL na nt v r p0 n)
theorem C_brokenL_s (na : Nat) (nt : Nat) (v : S2) (r : R2) (p0 : Bool) (n : Nat) : C_brokenL na nt v r p0 (n + 1) = C_brokenLB na nt v r p0 n (C_brokenL na nt v r p0 n) := rfl
def C_broken (na nt : Nat) (v : S2) (r : R2) (p0 : Bool) : Int32 := C_brokenL na nt v r p0 nt
def C_lackLB (na : Nat) (nt : Nat) (v : S2) (r : R2) (i : Nat) (x : Int32) : Int32 := if (C_T_isOpen na nt v r i) = true then x ||| (1 <<< ((v 21 i) &&& 31)) else x
def C_lackL (na : Nat) (nt : Nat) (v : S2) (r : R2) : Nat → Int32
  | 0 => 0
  | n + 1 => C_lackLB na nt v r n (C_lackL na nt v r n)
theorem C_lackL_s (na : Nat) (nt : Nat) (v : S2) (r : R2) (n : Nat) : C_lackL na nt v r (n + 1) = C_lackLB na nt v r n (C_lackL na nt v r n) := rfl
def C_lackMB (na : Nat) (nt : Nat) (v : S2) (r : R2) (i : Nat) (y : Int32) : Int32 := y ||| (v 14 i)
def C_lackM (na : Nat) (nt : Nat) (v : S2) (r : R2) : Nat → Int32
  | 0 => 0
  | n + 1 => C_lackMB na nt v r n (C_lackM na nt v r n)
theorem C_lackM_s (na : Nat) (nt : Nat) (v : S2) (r : R2) (n : Nat) : C_lackM na nt v r (n + 1) = C_lackMB na nt v r n (C_lackM na nt v r n) := rfl
def C_lacking (na nt : Nat) (v : S2) (r : R2) : Int32 := (C_lackL na nt v r nt) &&& ((C_lackM na nt v r na) ^^^ ((-1)))
def C_succLB (na : Nat) (nt : Nat) (v : S2) (r : R2) (i : Nat) (x : Nat) (y : Nat) : Nat × Nat := if (v 24 i) = 3 then (if (C_breaksSolution na nt v r i) = true then ((x + 1), y) else ((x + 1), (y + 1))) else (x, y)
def C_succL (na : Nat) (nt : Nat) (v : S2) (r : R2) : Nat → Nat × Nat
  | 0 => (0, 0)
  | n + 1 => C_succLB na nt v r n ((C_succL na nt v r n)).1 ((C_succL na nt v r n)).2
theorem C_succL_s (na : Nat) (nt : Nat) (v : S2) (r : R2) (n : Nat) : C_succL na nt v r (n + 1) = C_succLB na nt v r n ((C_succL na nt v r n)).1 ((C_succL na nt v r n)).2 := rfl
def C_success (na nt : Nat) (v : S2) (r : R2) : UInt64 := if (nI ((C_succL na nt v r nt).1)) = 0 then FP.dconst1 else FP.ddiv (FP.i2d (nI ((C_succL na nt v r nt).2))) (FP.i2d (nI ((C_succL na nt v r nt).1)))
def C_dALB (na : Nat) (nt : Nat) (v : S2) (r : R2) (p0 : Int64) (a1 : Nat) (i : Nat) (d : Int64) : Int64 := C_digested d (C_toldOfAgent na nt v r a1 (nI i))
def C_dAL (na : Nat) (nt : Nat) (v : S2) (r : R2) (p0 : Int64) (a1 : Nat) : Nat → Int64
  | 0 => C_digested p0 (v 14 a1)
  | n + 1 => C_dALB na nt v r p0 a1 n (C_dAL na nt v r p0 a1 n)
theorem C_dAL_s (na : Nat) (nt : Nat) (v : S2) (r : R2) (p0 : Int64) (a1 : Nat) (n : Nat) : C_dAL na nt v r p0 a1 (n + 1) = C_dALB na nt v r p0 a1 n (C_dAL na nt v r p0 a1 n) := rfl
def C_digestedAgent (na nt : Nat) (v : S2) (r : R2) (p0 : Int64) (a1 : Nat) : Int64 := C_dAL na nt v r p0 a1 4
def C_dTLB (na : Nat) (nt : Nat) (v : S2) (r : R2) (p0 : Int64) (t1 : Nat) (i : Nat) (d : Int64) : Int64 := C_digested d (C_toldOfTicket na nt v r t1 (nI i))
def C_dTL (na : Nat) (nt : Nat) (v : S2) (r : R2) (p0 : Int64) (t1 : Nat) : Nat → Int64
  | 0 => C_digested p0 (v 21 t1)
  | n + 1 => C_dTLB na nt v r p0 t1 n (C_dTL na nt v r p0 t1 n)
theorem C_dTL_s (na : Nat) (nt : Nat) (v : S2) (r : R2) (p0 : Int64) (t1 : Nat) (n : Nat) : C_dTL na nt v r p0 t1 (n + 1) = C_dTLB na nt v r p0 t1 n (C_dTL na nt v r p0 t1 n) := rfl
def C_digestedTicket (na nt : Nat) (v : S2) (r : R2) (p0 : Int64) (t1 : Nat) : Int64 := C_digested (C_digested (C_dTL na nt v r p0 t1 8) (v 20 (C_mainOf na nt v r t1))) (v 31 t1)
def C_dgPB (na : Nat) (nt : Nat) (v : S2) (r : R2) (x0 : Int64) (i : Nat) (d : Int64) : Int64 := C_digested (C_digested d (v 1 i)) (v 2 i)
def C_dgP (na : Nat) (nt : Nat) (v : S2) (r : R2) (x0 : Int64) : Nat → Int64
  | 0 => x0
  | n + 1 => C_dgPB na nt v r x0 n (C_dgP na nt v r x0 n)
theorem C_dgP_s (na : Nat) (nt : Nat) (v : S2) (r : R2) (x0 : Int64) (n : Nat) : C_dgP na nt v r x0 (n + 1) = C_dgPB na nt v r x0 n (C_dgP na nt v r x0 n) := rfl
def C_dgAB (na : Nat) (nt : Nat) (v : S2) (r : R2) (x0 : Int64) (i : Nat) (d : Int64) : Int64 := C_digestedAgent na nt v r d i
def C_dgA (na : Nat) (nt : Nat) (v : S2) (r : R2) (x0 : Int64) : Nat → Int64
  | 0 => x0
  | n + 1 => C_dgAB na nt v r x0 n (C_dgA na nt v r x0 n)
theorem C_dgA_s (na : Nat) (nt : Nat) (v : S2) (r : R2) (x0 : Int64) (n : Nat) : C_dgA na nt v r x0 (n + 1) = C_dgAB na nt v r x0 n (C_dgA na nt v r x0 n) := rfl
def C_dgTB (na : Nat) (nt : Nat) (v : S2) (r : R2) (x0 : Int64) (i : Nat) (d : Int64) : Int64 := C_digestedTicket na nt v r d i
def C_dgT (na : Nat) (nt : Nat) (v : S2) (r : R2) (x0 : Int64) : Nat → Int64
  | 0 => x0
  | n + 1 => C_dgTB na nt v r x0 n (C_dgT na nt v r x0 n)
theorem C_dgT_s (na : Nat) (nt : Nat) (v : S2) (r : R2) (x0 : Int64) (n : Nat) : C_dgT na nt v r x0 (n + 1) = C_dgTB na nt v r x0 n (C_dgT na nt v r x0 n) := rfl
def C_digest (na nt : Nat) (v : S2) (r : R2) : Int64 := C_dgT na nt v r (C_digested (C_dgA na nt v r (C_digested (C_dgP na nt v r (C_digested (C_digested (C_digested 193 (v 0 0)) (v 0 1)) (v 0 2)) 4) (nI na)) na) (nI nt)) nt