/-! THE REFERENCE'S METHODS, by program: what each does as a function of the numbers (M_..), and that its code does it (cX4_..) -/
abbrev S2 : Type := Nat → Nat → Int32
theorem vp_lt {x : Int32} {n : Nat} (h : vp_in x n) : ix x < n := Nat.not_le.mp fun q => h (Or.inr q)
theorem tab_out7 {x : Int32} (h0 : ¬ x = 0) (h1 : ¬ x = 1) (h2 : ¬ x = 2) (h3 : ¬ x = 3) (h4 : ¬ x = 4) (h5 : ¬ x = 5) (h6 : ¬ x = 6) : x.toInt < 0 ∨ 6 < x.toInt := by
  simp only [← Int32.toInt_inj] at h0 h1 h2 h3 h4 h5 h6
  simp at h0 h1 h2 h3 h4 h5 h6
  omega
theorem tab_out3 {x : Int32} (h0 : ¬ x = 0) (h1 : ¬ x = 1) (h2 : ¬ x = 2) : x.toInt < 0 ∨ 2 < x.toInt := by
  simp only [← Int32.toInt_inj] at h0 h1 h2
  simp at h0 h1 h2
  omega
/-- what holds of the reference's numbers at all times: how many agents, tickets; what may be a place; how merged tickets hang together -/
def MI (s : S2) : Prop := (∃ n, n ≤ 6 ∧ s 0 6 = nI n) ∧ (∃ n, n ≤ 20 ∧ s 0 14 = nI n) ∧ (∀ t, t < 20 → vp_in (s 16 t) 4) ∧ (∀ a, a < 6 → s 11 a = -1 ∨ vp_in (s 11 a) 20) ∧ ∃ rk : Nat → Nat, ∀ t, t < 20 → s 19 t = 4 → vp_in (s 25 t) 20 ∧ rk t < rk (ix (s 25 t))
theorem MI_u2 {s : S2} {j i : Nat} {x : Int32} (hj : j ≠ 0 ∧ j ≠ 11 ∧ j ≠ 16 ∧ j ≠ 19 ∧ j ≠ 25) (h : MI s) : MI (u2 s j i x) := by
  unfold MI u2 at *
  simp only [hj.1.symm, hj.2.1.symm, hj.2.2.1.symm, hj.2.2.2.1.symm, hj.2.2.2.2.symm, if_false]
  exact h
theorem MI_u0 {s : S2} {i : Nat} {x : Int32} (hj : i ≠ 6 ∧ i ≠ 14) (h : MI s) : MI (u2 s 0 i x) := by
  unfold MI u2 upd at *
  simp only [if_true, hj.1.symm, hj.2.symm, if_false, show ¬ (16 = 0) by decide, show ¬ (11 = 0) by decide, show ¬ (19 = 0) by decide, show ¬ (25 = 0) by decide]
  exact h
theorem MI.prio {s : S2} (h : MI s) {t : Nat} (ht : t < 20) : vp_in (s 16 t) 4 := h.2.2.1 t ht
def M_no (s : S2) (p0 : Int32) : Int32 × S2 := (0, u2 s 0 0 p0)
set_option maxHeartbeats 4000000 in
set_option maxRecDepth 100000 in
theorem qX4_no (l : Launch) (hst : l.stackTraces = false) (D : va_G) (d : Nat → Nat) (s : S2) (p0 : Int32) : CM l D yX4_no cX4_no 2 (some .int) 0 0 0 0 (MW D d s) [.ref (d 0), .int p0] (dP (some (.int ((M_no s p0).1))) (MW D d (M_no s p0).2)) := by
  refine CM_of [some (.ref (d 0)), some (.int p0)] hst (by decide +kernel) rfl (Nat.le_of_ble_eq_true rfl) (fun k F hl hD hin hR => ?_)
  subst hl hD
  refine j_aloadn F dX4_no_0 rfl ?_
  refine j_iloadn F dX4_no_1 rfl ?_
  refine pf_X4_77 F hR.1 dX4_no_2 rfl rfl 0 rfl (Nat.le_of_ble_eq_true rfl) (MW (kD k) d (u2 s 0 0 p0)) (mp_0 _ _ _ _) ?_
  refine j_iconst F (v := 0) dX4_no_5 (by decide) ?_
  have hz : M_no s p0 = (0, u2 s 0 0 p0) := rfl
  exact j_iret F hR dX4_no_6 (Nat.le_of_ble_eq_true rfl) (Nat.le_of_ble_eq_true rfl) ⟨by rw [hz], by rw [hz]⟩
def M_isIn (p0 : Int32) (p1 : Int32) (p2 : Int32) : Bool := if p0 < p1 then false else if p2 < p0 then false else true
set_option maxHeartbeats 4000000 in
set_option maxRecDepth 100000 in
theorem qX4_isIn (l : Launch) (hst : l.stackTraces = false) (D : va_G) (p0 : Int32) (p1 : Int32) (p2 : Int32) : CR l D yX4_isIn cX4_isIn 3 (some .boolean) 0 0 [] [.int p0, .int p1, .int p2] (.int (b1 (M_isIn p0 p1 p2))) := by
  refine CR_of [some (.int p0), some (.int p1), some (.int p2)] hst (by decide +kernel) rfl (Nat.le_of_ble_eq_true rfl) (fun k F hl hD hR => ?_)
  subst hl hD
  refine j_iloadn F dX4_isIn_0 rfl ?_
  refine j_iloadn F dX4_isIn_1 rfl ?_
  refine j_iclt F (tgt := 14) dX4_isIn_2 (by decide) (fun h2 => ?_) (fun h2 => ?_)
  · refine j_iconst F (v := 0) dX4_isIn_14 (by decide) ?_
    exact j_zretR F (b := false) hR dX4_isIn_15 rfl (congrArg (fun z => Value.int (b1 z)) (show M_isIn p0 p1 p2 = false from by rw [M_isIn, if_pos h2]))
  · refine j_iloadn F dX4_isIn_5 rfl ?_
    refine j_iloadn F dX4_isIn_6 rfl ?_
    refine j_icgt F (tgt := 14) dX4_isIn_7 (by decide) (fun h7 => ?_) (fun h7 => ?_)
    · refine j_iconst F (v := 0) dX4_isIn_14 (by decide) ?_
      exact j_zretR F (b := false) hR dX4_isIn_15 rfl (congrArg (fun z => Value.int (b1 z)) (show M_isIn p0 p1 p2 = false from by rw [M_isIn, if_neg h2, if_pos h7]))
    · refine j_iconst F (v := 1) dX4_isIn_10 (by decide) ?_
      refine j_goto F (tgt := 15) dX4_isIn_11 (by decide) ?_
      exact j_zretR F (b := true) hR dX4_isIn_15 rfl (congrArg (fun z => Value.int (b1 z)) (show M_isIn p0 p1 p2 = true from by rw [M_isIn, if_neg h2, if_neg h7]))
def M_has (p0 : Int32) (p1 : Int32) : Bool := if ((p0 >>> (p1 &&& 31)) &&& 1) = 1 then true else false
set_option maxHeartbeats 4000000 in
set_option maxRecDepth 100000 in
theorem qX4_has (l : Launch) (hst : l.stackTraces = false) (D : va_G) (p0 : Int32) (p1 : Int32) : CR l D yX4_has cX4_has 2 (some .boolean) 0 0 [] [.int p0, .int p1] (.int (b1 (M_has p0 p1))) := by
  refine CR_of [some (.int p0), some (.int p1)] hst (by decide +kernel) rfl (Nat.le_of_ble_eq_true rfl) (fun k F hl hD hR => ?_)
  subst hl hD
  refine j_iloadn F dX4_has_0 rfl ?_
  refine j_iloadn F dX4_has_1 rfl ?_
  refine j_ishr F dX4_has_2 ?_
  refine j_iconst F (v := 1) dX4_has_3 (by decide) ?_
  refine j_iand F dX4_has_4 ?_
  refine j_iconst F (v := 1) dX4_has_5 (by decide) ?_
  refine j_icne F (tgt := 13) dX4_has_6 (by decide) (fun h6 => ?_) (fun h6 => ?_)
  · refine j_iconst F (v := 0) dX4_has_13 (by decide) ?_
    exact j_zretR F (b := false) hR dX4_has_14 rfl (congrArg (fun z => Value.int (b1 z)) (show M_has p0 p1 = false from by rw [M_has, if_neg h6]))
  · refine j_iconst F (v := 1) dX4_has_9 (by decide) ?_
    refine j_goto F (tgt := 14) dX4_has_10 (by decide) ?_
    exact j_zretR F (b := true) hR dX4_has_14 rfl (congrArg (fun z => Value.int (b1 z)) (show M_has p0 p1 = true from by rw [M_has, if_pos h6]))
def M_isAgent (s : S2) (p0 : Int32) : Bool := (M_isIn p0 0 ((s 0 6) - 1))
set_option maxHeartbeats 4000000 in
set_option maxRecDepth 100000 in
theorem qX4_isAgent (l : Launch) (hst : l.stackTraces = false) (D : va_G) (d : Nat → Nat) (s : S2) (p0 : Int32) : CR l D yX4_isAgent cX4_isAgent 2 (some .boolean) 1 22 (MW D d s) [.ref (d 0), .int p0] (.int (b1 (M_isAgent s p0))) := by
  refine CR_of [some (.ref (d 0)), some (.int p0)] hst (by decide +kernel) rfl (Nat.le_of_ble_eq_true rfl) (fun k F hl hD hR => ?_)
  subst hl hD
  refine j_iloadn F dX4_isAgent_0 rfl ?_
  refine j_iconst F (v := 0) dX4_isAgent_1 (by decide) ?_
  refine j_aloadn F dX4_isAgent_2 rfl ?_
  refine gf_X4_80 F (v := .int (s 0 6)) dX4_isAgent_3 0 rfl rfl ?_
  refine j_iconst F (v := 1) dX4_isAgent_6 (by decide) ?_
  refine j_isub F dX4_isAgent_7 ?_
  refine j_rdS F (qX4_isIn (kl k) hst (kD k) p0 0 ((s 0 6) - 1)) lk_X4_83 dX4_isAgent_8 ⟨(Nat.le_of_ble_eq_true rfl), (Nat.le_of_ble_eq_true rfl)⟩ (fun _ h => nomatch h) rfl (Nat.le_of_ble_eq_true rfl) ⟨(Nat.le_of_ble_eq_true rfl), (Nat.le_of_ble_eq_true rfl)⟩ ?_
  exact j_zretR F (b := (M_isIn p0 0 ((s 0 6) - 1))) hR dX4_isAgent_11 rfl (congrArg (fun z => Value.int (b1 z)) (show M_isAgent s p0 = (M_isIn p0 0 ((s 0 6) - 1)) from rfl))
def M_isTicket (s : S2) (p0 : Int32) : Bool := (M_isIn p0 0 ((s 0 14) - 1))
set_option maxHeartbeats 4000000 in
set_option maxRecDepth 100000 in
theorem qX4_isTicket (l : Launch) (hst : l.stackTraces = false) (D : va_G) (d : Nat → Nat) (s : S2) (p0 : Int32) : CR l D yX4_isTicket cX4_isTicket 2 (some .boolean) 1 22 (MW D d s) [.ref (d 0), .int p0] (.int (b1 (M_isTicket s p0))) := by
  refine CR_of [some (.ref (d 0)), some (.int p0)] hst (by decide +kernel) rfl (Nat.le_of_ble_eq_true rfl) (fun k F hl hD hR => ?_)
  subst hl hD
  refine j_iloadn F dX4_isTicket_0 rfl ?_
  refine j_iconst F (v := 0) dX4_isTicket_1 (by decide) ?_
  refine j_aloadn F dX4_isTicket_2 rfl ?_
  refine gf_X4_87 F (v := .int (s 0 14)) dX4_isTicket_3 0 rfl rfl ?_
  refine j_iconst F (v := 1) dX4_isTicket_6 (by decide) ?_
  refine j_isub F dX4_isTicket_7 ?_
  refine j_rdS F (qX4_isIn (kl k) hst (kD k) p0 0 ((s 0 14) - 1)) lk_X4_83 dX4_isTicket_8 ⟨(Nat.le_of_ble_eq_true rfl), (Nat.le_of_ble_eq_true rfl)⟩ (fun _ h => nomatch h) rfl (Nat.le_of_ble_eq_true rfl) ⟨(Nat.le_of_ble_eq_true rfl), (Nat.le_of_ble_eq_true rfl)⟩ ?_
  exact j_zretR F (b := (M_isIn p0 0 ((s 0 14) - 1))) hR dX4_isTicket_11 rfl (congrArg (fun z => Value.int (b1 z)) (show M_isTicket s p0 = (M_isIn p0 0 ((s 0 14) - 1)) from rfl))
def M_isOpen (s : S2) (p0 : Int32) : Bool := if 3 ≤ (s 19 (ix p0)) then false else true
set_option maxHeartbeats 4000000 in
set_option maxRecDepth 100000 in
theorem qX4_isOpen (l : Launch) (hst : l.stackTraces = false) (D : va_G) (d : Nat → Nat) (s : S2) (p0 : Int32) (ht : vp_in p0 20) : CR l D yX4_isOpen cX4_isOpen 2 (some .boolean) 0 0 (MW D d s) [.ref (d 0), .int p0] (.int (b1 (M_isOpen s p0))) := by
  refine CR_of [some (.ref (d 0)), some (.int p0)] hst (by decide +kernel) rfl (Nat.le_of_ble_eq_true rfl) (fun k F hl hD hR => ?_)
  subst hl hD
  refine j_aloadn F dX4_isOpen_0 rfl ?_
  refine gf_X4_56 F (v := .ref (d 19)) dX4_isOpen_1 0 rfl rfl ?_
  refine j_iloadn F dX4_isOpen_4 rfl ?_
  refine j_iald F dX4_isOpen_5 (f := s 19) 14 rfl ht ?_
  refine j_iconst F (v := 3) dX4_isOpen_6 (by decide) ?_
  refine j_icge F (tgt := 14) dX4_isOpen_7 (by decide) (fun h7 => ?_) (fun h7 => ?_)
  · refine j_iconst F (v := 0) dX4_isOpen_14 (by decide) ?_
    exact j_zretR F (b := false) hR dX4_isOpen_15 rfl (congrArg (fun z => Value.int (b1 z)) (show M_isOpen s p0 = false from by rw [M_isOpen, if_pos h7]))
  · refine j_iconst F (v := 1) dX4_isOpen_10 (by decide) ?_
    refine j_goto F (tgt := 15) dX4_isOpen_11 (by decide) ?_
    exact j_zretR F (b := true) hR dX4_isOpen_15 rfl (congrArg (fun z => Value.int (b1 z)) (show M_isOpen s p0 = true from by rw [M_isOpen, if_neg h7]))
theorem isIn_iff {x lo hi : Int32} : M_isIn x lo hi = true ↔ lo ≤ x ∧ x ≤ hi := by
  unfold M_isIn
  split
  · rename_i h
    simp; intro h2; exact absurd h (Int32.not_lt.mpr h2)
  · rename_i h
    split
    · rename_i h2
      simp; intro _; exact h2
    · rename_i h2
      simp; exact ⟨Int32.not_lt.mp h, Int32.not_lt.mp h2⟩
theorem M_isIn_3 {x : Int32} (h : M_isIn x 0 3 = true) : vp_in x 4 := by
  obtain ⟨h1, h2⟩ := isIn_iff.mp h
  rw [vp_in_iff]
  rw [Int32.le_iff_toInt_le] at h1 h2
  simp at h1 h2
  omega
theorem isIn_num {x c : Int32} {n m : Nat} (hm : n ≤ m) (h31 : m < 2 ^ 31) (hc : c = nI n) (h : M_isIn x 0 (c - 1) = true) : vp_in x m := by
  obtain ⟨h1, h2⟩ := isIn_iff.mp h
  rw [vp_in_iff]
  rw [Int32.le_iff_toInt_le] at h1 h2
  have e : (c - 1).toInt = (n : Int) - 1 := by
    rw [hc, fb_subI, nI_toInt (by omega)]
    · rfl
    · rw [nI_toInt (by omega)]; simp; omega
    · rw [nI_toInt (by omega)]; simp; omega
  rw [e] at h2
  simp at h1
  omega
theorem M_isAgent_in {s : S2} {a : Int32} (hI : MI s) (h : M_isAgent s a = true) : vp_in a 6 := by
  obtain ⟨⟨n, hn, e⟩, -⟩ := hI
  exact isIn_num hn (by decide) e h
theorem M_isTicket_in {s : S2} {a : Int32} (hI : MI s) (h : M_isTicket s a = true) : vp_in a 20 := by
  obtain ⟨-, ⟨n, hn, e⟩, -⟩ := hI
  exact isIn_num hn (by decide) e h
def M_thrown (s : S2) : Int32 := s 0 0
set_option maxHeartbeats 4000000 in
set_option maxRecDepth 100000 in
theorem qX4_thrown (l : Launch) (hst : l.stackTraces = false) (D : va_G) (d : Nat → Nat) (s : S2) : CR l D yX4_thrown cX4_thrown 1 (some .int) 0 0 (MW D d s) [.ref (d 0)] (.int (M_thrown s)) := by
  refine CR_of [some (.ref (d 0))] hst (by decide +kernel) rfl (Nat.le_of_ble_eq_true rfl) (fun k F hl hD hR => ?_)
  subst hl hD
  refine j_aloadn F dX4_thrown_0 rfl ?_
  refine gf_X4_77 F (v := .int (s 0 0)) dX4_thrown_1 0 rfl rfl ?_
  exact j_iretR F hR dX4_thrown_4 (congrArg Value.int (show M_thrown s = s 0 0 from rfl))
def M_now (s : S2) : Int32 × S2 := (s 0 1, u2 s 0 0 0)
set_option maxHeartbeats 4000000 in
set_option maxRecDepth 100000 in
theorem qX4_now (l : Launch) (hst : l.stackTraces = false) (D : va_G) (d : Nat → Nat) (s : S2) : CM l D yX4_now cX4_now 1 (some .int) 0 0 0 0 (MW D d s) [.ref (d 0)] (dP (some (.int ((M_now s).1))) (MW D d (M_now s).2)) := by
  refine CM_of [some (.ref (d 0))] hst (by decide +kernel) rfl (Nat.le_of_ble_eq_true rfl) (fun k F hl hD hin hR => ?_)
  subst hl hD
  refine j_aloadn F dX4_now_0 rfl ?_
  refine j_iconst F (v := 0) dX4_now_1 (by decide) ?_
  refine pf_X4_77 F hR.1 dX4_now_2 rfl rfl 0 rfl (Nat.le_of_ble_eq_true rfl) (MW (kD k) d (u2 s 0 0 0)) (mp_0 _ _ _ _) ?_
  refine j_aloadn F dX4_now_5 rfl ?_
  refine gf_X4_94 F (v := .int (s 0 1)) dX4_now_6 0 rfl rfl ?_
  have hz : M_now s = (s 0 1, u2 s 0 0 0) := rfl
  exact j_iret F hR dX4_now_9 (Nat.le_of_ble_eq_true rfl) (Nat.le_of_ble_eq_true rfl) ⟨by rw [hz], by rw [hz]⟩
def M_setHours (s : S2) (p0 : Int32) (p1 : Int32) : Bool × S2 := if (M_isIn p0 0 1439) = true then (if (M_isIn p1 (p0 + 1) 1440) = true then (if (s 0 2) = p0 then (if (s 0 3) = p1 then (false, u2 (u2 (u2 s 0 0 0) 0 2 p0) 0 3 p1) else (true, u2 (u2 (u2 s 0 0 0) 0 2 p0) 0 3 p1)) else (true, u2 (u2 (u2 s 0 0 0) 0 2 p0) 0 3 p1)) else (false, u2 s 0 0 1)) else (false, u2 s 0 0 1)
set_option maxHeartbeats 4000000 in
set_option maxRecDepth 100000 in
theorem qX4_setHours (l : Launch) (hst : l.stackTraces = false) (D : va_G) (d : Nat → Nat) (s : S2) (p0 : Int32) (p1 : Int32) : CM l D yX4_setHours cX4_setHours 4 (some .boolean) 1 22 0 0 (MW D d s) [.ref (d 0), .int p0, .int p1] (dP (some (.int (b1 ((M_setHours s p0 p1).1)))) (MW D d (M_setHours s p0 p1).2)) := by
  refine CM_of [some (.ref (d 0)), some (.int p0), some (.int p1), none] hst (by decide +kernel) rfl (Nat.le_of_ble_eq_true rfl) (fun k F hl hD hin hR => ?_)
  subst hl hD
  refine j_aloadn F dX4_setHours_0 rfl ?_
  refine j_iloadn F dX4_setHours_1 rfl ?_
  refine j_iconst F (v := 0) dX4_setHours_2 (by decide) ?_
  refine j_sipush F (v := 1439) dX4_setHours_3 (by decide) ?_
  refine j_rdS F (qX4_isIn (kl k) hst (kD k) p0 0 1439) lk_X4_83 dX4_setHours_6 ⟨(Nat.le_of_ble_eq_true rfl), (Nat.le_of_ble_eq_true rfl)⟩ (fun _ h => nomatch h) rfl (Nat.le_of_ble_eq_true rfl) ⟨(Nat.le_of_ble_eq_true rfl), (Nat.le_of_ble_eq_true rfl)⟩ ?_
  refine j_ifbeq F (tgt := 29) dX4_setHours_9 (by decide) (fun h9 => ?_) (fun h9 => ?_)
  · refine j_iconst F (v := 1) dX4_setHours_29 (by decide) ?_
    refine pf_X4_77 F hR.1 dX4_setHours_30 rfl rfl 0 rfl (Nat.le_of_ble_eq_true rfl) (MW (kD k) d (u2 s 0 0 1)) (mp_0 _ _ _ _) ?_
    refine j_aloadn F dX4_setHours_33 rfl ?_
    refine gf_X4_77 F (v := .int 1) dX4_setHours_34 0 rfl rfl ?_
    refine j_ifeq F (tgt := 42) dX4_setHours_37 (by decide) (fun h37 => ?_) (fun h37 => ?_)
    · exact absurd h37 (by decide)
    · refine j_iconst F (v := 0) dX4_setHours_40 (by decide) ?_
      have hz : M_setHours s p0 p1 = (false, u2 s 0 0 1) := by rw [M_setHours, if_neg h9]
      exact j_zret F (b := false) hR dX4_setHours_41 (Nat.le_of_ble_eq_true rfl) (Nat.le_of_ble_eq_true rfl) rfl ⟨by rw [hz], by rw [hz]⟩
  · refine j_iloadn F dX4_setHours_12 rfl ?_
    refine j_iloadn F dX4_setHours_13 rfl ?_
    refine j_iconst F (v := 1) dX4_setHours_14 (by decide) ?_
    refine j_iadd F dX4_setHours_15 ?_
    refine j_sipush F (v := 1440) dX4_setHours_16 (by decide) ?_
    refine j_rdS F (qX4_isIn (kl k) hst (kD k) p1 (p0 + 1) 1440) lk_X4_83 dX4_setHours_19 ⟨(Nat.le_of_ble_eq_true rfl), (Nat.le_of_ble_eq_true rfl)⟩ (fun _ h => nomatch h) rfl (Nat.le_of_ble_eq_true rfl) ⟨(Nat.le_of_ble_eq_true rfl), (Nat.le_of_ble_eq_true rfl)⟩ ?_
    refine j_ifbeq F (tgt := 29) dX4_setHours_22 (by decide) (fun h22 => ?_) (fun h22 => ?_)
    · refine j_iconst F (v := 1) dX4_setHours_29 (by decide) ?_
      refine pf_X4_77 F hR.1 dX4_setHours_30 rfl rfl 0 rfl (Nat.le_of_ble_eq_true rfl) (MW (kD k) d (u2 s 0 0 1)) (mp_0 _ _ _ _) ?_
      refine j_aloadn F dX4_setHours_33 rfl ?_
      refine gf_X4_77 F (v := .int 1) dX4_setHours_34 0 rfl rfl ?_
      refine j_ifeq F (tgt := 42) dX4_setHours_37 (by decide) (fun h37 => ?_) (fun h37 => ?_)
      · exact absurd h37 (by decide)
      · refine j_iconst F (v := 0) dX4_setHours_40 (by decide) ?_
        have hz : M_setHours s p0 p1 = (false, u2 s 0 0 1) := by rw [M_setHours, if_pos h9, if_neg h22]
        exact j_zret F (b := false) hR dX4_setHours_41 (Nat.le_of_ble_eq_true rfl) (Nat.le_of_ble_eq_true rfl) rfl ⟨by rw [hz], by rw [hz]⟩
    · refine j_iconst F (v := 0) dX4_setHours_25 (by decide) ?_
      refine j_goto F (tgt := 30) dX4_setHours_26 (by decide) ?_
      refine pf_X4_77 F hR.1 dX4_setHours_30 rfl rfl 0 rfl (Nat.le_of_ble_eq_true rfl) (MW (kD k) d (u2 s 0 0 0)) (mp_0 _ _ _ _) ?_
      refine j_aloadn F dX4_setHours_33 rfl ?_
      refine gf_X4_77 F (v := .int 0) dX4_setHours_34 0 rfl rfl ?_
      refine j_ifeq F (tgt := 42) dX4_setHours_37 (by decide) (fun h37 => ?_) (fun h37 => ?_)
      · refine j_aloadn F dX4_setHours_42 rfl ?_
        refine gf_X4_7 F (v := .int (s 0 2)) dX4_setHours_43 0 rfl rfl ?_
        refine j_iloadn F dX4_setHours_46 rfl ?_
        refine j_icne F (tgt := 58) dX4_setHours_47 (by decide) (fun h47 => ?_) (fun h47 => ?_)
        · refine j_iconst F (v := 1) dX4_setHours_58 (by decide) ?_
          refine j_goto F (tgt := 63) dX4_setHours_59 (by decide) ?_
          refine j_istoren F [some (.ref (d 0)), some (.int p0), some (.int p1), some (.int 1)] dX4_setHours_63 rfl rfl rfl ?_
          refine j_aloadn F dX4_setHours_64 rfl ?_
          refine j_iloadn F dX4_setHours_65 rfl ?_
          refine pf_X4_7 F hR.1 dX4_setHours_66 rfl rfl 0 rfl (Nat.le_of_ble_eq_true rfl) (MW (kD k) d (u2 (u2 s 0 0 0) 0 2 p0)) (mp_2 _ _ _ _) ?_
          refine j_aloadn F dX4_setHours_69 rfl ?_
          refine j_iloadn F dX4_setHours_70 rfl ?_
          refine pf_X4_13 F hR.1 dX4_setHours_71 rfl rfl 0 rfl (Nat.le_of_ble_eq_true rfl) (MW (kD k) d (u2 (u2 (u2 s 0 0 0) 0 2 p0) 0 3 p1)) (mp_3 _ _ _ _) ?_
          refine j_iloadn F dX4_setHours_74 rfl ?_
          have hz : M_setHours s p0 p1 = (true, u2 (u2 (u2 s 0 0 0) 0 2 p0) 0 3 p1) := by rw [M_setHours, if_pos h9, if_pos h22, if_neg h47]
          exact j_zret F (b := true) hR dX4_setHours_75 (Nat.le_of_ble_eq_true rfl) (Nat.le_of_ble_eq_true rfl) rfl ⟨by rw [hz], by rw [hz]⟩
        · refine j_aloadn F dX4_setHours_50 rfl ?_
          refine gf_X4_13 F (v := .int (s 0 3)) dX4_setHours_51 0 rfl rfl ?_
          refine j_iloadn F dX4_setHours_54 rfl ?_
          refine j_iceq F (tgt := 62) dX4_setHours_55 (by decide) (fun h55 => ?_) (fun h55 => ?_)
          · refine j_iconst F (v := 0) dX4_setHours_62 (by decide) ?_
            refine j_istoren F [some (.ref (d 0)), some (.int p0), some (.int p1), some (.int 0)] dX4_setHours_63 rfl rfl rfl ?_
            refine j_aloadn F dX4_setHours_64 rfl ?_
            refine j_iloadn F dX4_setHours_65 rfl ?_
            refine pf_X4_7 F hR.1 dX4_setHours_66 rfl rfl 0 rfl (Nat.le_of_ble_eq_true rfl) (MW (kD k) d (u2 (u2 s 0 0 0) 0 2 p0)) (mp_2 _ _ _ _) ?_
            refine j_aloadn F dX4_setHours_69 rfl ?_
            refine j_iloadn F dX4_setHours_70 rfl ?_
            refine pf_X4_13 F hR.1 dX4_setHours_71 rfl rfl 0 rfl (Nat.le_of_ble_eq_true rfl) (MW (kD k) d (u2 (u2 (u2 s 0 0 0) 0 2 p0) 0 3 p1)) (mp_3 _ _ _ _) ?_
            refine j_iloadn F dX4_setHours_74 rfl ?_
            have hz : M_setHours s p0 p1 = (false, u2 (u2 (u2 s 0 0 0) 0 2 p0) 0 3 p1) := by rw [M_setHours, if_pos h9, if_pos h22, if_pos h47, if_pos h55]
            exact j_zret F (b := false) hR dX4_setHours_75 (Nat.le_of_ble_eq_true rfl) (Nat.le_of_ble_eq_true rfl) rfl ⟨by rw [hz], by rw [hz]⟩
          · refine j_iconst F (v := 1) dX4_setHours_58 (by decide) ?_
            refine j_goto F (tgt := 63) dX4_setHours_59 (by decide) ?_
            refine j_istoren F [some (.ref (d 0)), some (.int p0), some (.int p1), some (.int 1)] dX4_setHours_63 rfl rfl rfl ?_
            refine j_aloadn F dX4_setHours_64 rfl ?_
            refine j_iloadn F dX4_setHours_65 rfl ?_
            refine pf_X4_7 F hR.1 dX4_setHours_66 rfl rfl 0 rfl (Nat.le_of_ble_eq_true rfl) (MW (kD k) d (u2 (u2 s 0 0 0) 0 2 p0)) (mp_2 _ _ _ _) ?_
            refine j_aloadn F dX4_setHours_69 rfl ?_
            refine j_iloadn F dX4_setHours_70 rfl ?_
            refine pf_X4_13 F hR.1 dX4_setHours_71 rfl rfl 0 rfl (Nat.le_of_ble_eq_true rfl) (MW (kD k) d (u2 (u2 (u2 s 0 0 0) 0 2 p0) 0 3 p1)) (mp_3 _ _ _ _) ?_
            refine j_iloadn F dX4_setHours_74 rfl ?_
            have hz : M_setHours s p0 p1 = (true, u2 (u2 (u2 s 0 0 0) 0 2 p0) 0 3 p1) := by rw [M_setHours, if_pos h9, if_pos h22, if_pos h47, if_neg h55]
            exact j_zret F (b := true) hR dX4_setHours_75 (Nat.le_of_ble_eq_true rfl) (Nat.le_of_ble_eq_true rfl) rfl ⟨by rw [hz], by rw [hz]⟩
      · exact absurd h37 (by decide)
def M_setTargets (s : S2) (p0 : Int32) (p1 : Int32) (p2 : Int32) : Int32 × S2 := if (M_isIn p0 0 3) = true then (if (M_isIn p1 1 9999) = true then (if (M_isIn p2 p1 9999) = true then (s 5 (ix p0), u2 (u2 (u2 s 0 0 0) 4 (ix p0) p1) 5 (ix p0) p2) else ((M_no (u2 s 0 0 0) 2).1, (M_no (u2 s 0 0 0) 2).2)) else ((M_no (u2 s 0 0 0) 2).1, (M_no (u2 s 0 0 0) 2).2)) else ((M_no (u2 s 0 0 0) 1).1, (M_no (u2 s 0 0 0) 1).2)
set_option maxHeartbeats 4000000 in
set_option maxRecDepth 100000 in
theorem qX4_setTargets (l : Launch) (hst : l.stackTraces = false) (D : va_G) (d : Nat → Nat) (s : S2) (p0 : Int32) (p1 : Int32) (p2 : Int32) : CM l D yX4_setTargets cX4_setTargets 5 (some .int) 1 22 0 0 (MW D d s) [.ref (d 0), .int p0, .int p1, .int p2] (dP (some (.int ((M_setTargets s p0 p1 p2).1))) (MW D d (M_setTargets s p0 p1 p2).2)) := by
  refine CM_of [some (.ref (d 0)), some (.int p0), some (.int p1), some (.int p2), none] hst (by decide +kernel) rfl (Nat.le_of_ble_eq_true rfl) (fun k F hl hD hin hR => ?_)
  subst hl hD
  refine j_aloadn F dX4_setTargets_0 rfl ?_
  refine j_iconst F (v := 0) dX4_setTargets_1 (by decide) ?_
  refine pf_X4_77 F hR.1 dX4_setTargets_2 rfl rfl 0 rfl (Nat.le_of_ble_eq_true rfl) (MW (kD k) d (u2 s 0 0 0)) (mp_0 _ _ _ _) ?_
  refine j_iloadn F dX4_setTargets_5 rfl ?_
  refine j_iconst F (v := 0) dX4_setTargets_6 (by decide) ?_
  refine j_iconst F (v := 3) dX4_setTargets_7 (by decide) ?_
  refine j_rdS F (qX4_isIn (kl k) hst (kD k) p0 0 3) lk_X4_83 dX4_setTargets_8 ⟨(Nat.le_of_ble_eq_true rfl), (Nat.le_of_ble_eq_true rfl)⟩ (fun _ h => nomatch h) rfl (Nat.le_of_ble_eq_true rfl) ⟨(Nat.le_of_ble_eq_true rfl), (Nat.le_of_ble_eq_true rfl)⟩ ?_
  refine j_ifbne F (tgt := 20) dX4_setTargets_11 (by decide) (fun h11 => ?_) (fun h11 => ?_)
  · refine j_iloadn F dX4_setTargets_20 rfl ?_
    refine j_iconst F (v := 1) dX4_setTargets_21 (by decide) ?_
    refine j_sipush F (v := 9999) dX4_setTargets_22 (by decide) ?_
    refine j_rdS F (qX4_isIn (kl k) hst (kD k) p1 1 9999) lk_X4_83 dX4_setTargets_25 ⟨(Nat.le_of_ble_eq_true rfl), (Nat.le_of_ble_eq_true rfl)⟩ (fun _ h => nomatch h) rfl (Nat.le_of_ble_eq_true rfl) ⟨(Nat.le_of_ble_eq_true rfl), (Nat.le_of_ble_eq_true rfl)⟩ ?_
    refine j_ifbeq F (tgt := 42) dX4_setTargets_28 (by decide) (fun h28 => ?_) (fun h28 => ?_)
    · refine j_aloadn F dX4_setTargets_42 rfl ?_
      refine j_iconst F (v := 2) dX4_setTargets_43 (by decide) ?_
      refine j_dmV F hR.1 (qX4_no (kl k) hst (kD k) d (u2 s 0 0 0) 2) lk_X4_90 dX4_setTargets_44 ⟨(Nat.le_of_ble_eq_true rfl), (Nat.le_of_ble_eq_true rfl)⟩ 0 rfl rfl rfl (Nat.le_of_ble_eq_true rfl) ⟨(Nat.le_of_ble_eq_true rfl), (Nat.le_of_ble_eq_true rfl)⟩ rfl ?_
      have hz : M_setTargets s p0 p1 p2 = ((M_no (u2 s 0 0 0) 2).1, (M_no (u2 s 0 0 0) 2).2) := by rw [M_setTargets, if_pos h11, if_neg h28]
      exact j_iret F hR dX4_setTargets_47 (Nat.le_of_ble_eq_true rfl) (Nat.le_of_ble_eq_true rfl) ⟨by rw [hz], by rw [hz]⟩
    · refine j_iloadn F dX4_setTargets_31 rfl ?_
      refine j_iloadn F dX4_setTargets_32 rfl ?_
      refine j_sipush F (v := 9999) dX4_setTargets_33 (by decide) ?_
      refine j_rdS F (qX4_isIn (kl k) hst (kD k) p2 p1 9999) lk_X4_83 dX4_setTargets_36 ⟨(Nat.le_of_ble_eq_true rfl), (Nat.le_of_ble_eq_true rfl)⟩ (fun _ h => nomatch h) rfl (Nat.le_of_ble_eq_true rfl) ⟨(Nat.le_of_ble_eq_true rfl), (Nat.le_of_ble_eq_true rfl)⟩ ?_
      refine j_ifbne F (tgt := 48) dX4_setTargets_39 (by decide) (fun h39 => ?_) (fun h39 => ?_)
      · refine j_aloadn F dX4_setTargets_48 rfl ?_
        refine gf_X4_20 F (v := .ref (d 5)) dX4_setTargets_49 0 rfl rfl ?_
        refine j_iloadn F dX4_setTargets_52 rfl ?_
        refine j_iald F dX4_setTargets_53 (f := s 5) 2 rfl (M_isIn_3 h11) ?_
        refine j_istore F [some (.ref (d 0)), some (.int p0), some (.int p1), some (.int p2), some (.int (s 5 (ix p0)))] dX4_setTargets_54 rfl rfl rfl ?_
        refine j_aloadn F dX4_setTargets_56 rfl ?_
        refine gf_X4_16 F (v := .ref (d 4)) dX4_setTargets_57 0 rfl rfl ?_
        refine j_iloadn F dX4_setTargets_60 rfl ?_
        refine j_iloadn F dX4_setTargets_61 rfl ?_
        refine j_iast F hR.1 dX4_setTargets_62 1 rfl (M_isIn_3 h11) (MW (kD k) d (u2 (u2 s 0 0 0) 4 (ix p0) p1)) (mu_4 _ _ _ _ _) ?_
        refine j_aloadn F dX4_setTargets_63 rfl ?_
        refine gf_X4_20 F (v := .ref (d 5)) dX4_setTargets_64 0 rfl rfl ?_
        refine j_iloadn F dX4_setTargets_67 rfl ?_
        refine j_iloadn F dX4_setTargets_68 rfl ?_
        refine j_iast F hR.1 dX4_setTargets_69 2 rfl (M_isIn_3 h11) (MW (kD k) d (u2 (u2 (u2 s 0 0 0) 4 (ix p0) p1) 5 (ix p0) p2)) (mu_5 _ _ _ _ _) ?_
        refine j_iload F dX4_setTargets_70 rfl ?_
        have hz : M_setTargets s p0 p1 p2 = (s 5 (ix p0), u2 (u2 (u2 s 0 0 0) 4 (ix p0) p1) 5 (ix p0) p2) := by rw [M_setTargets, if_pos h11, if_pos h28, if_pos h39]
        exact j_iret F hR dX4_setTargets_72 (Nat.le_of_ble_eq_true rfl) (Nat.le_of_ble_eq_true rfl) ⟨by rw [hz], by rw [hz]⟩
      · refine j_aloadn F dX4_setTargets_42 rfl ?_
        refine j_iconst F (v := 2) dX4_setTargets_43 (by decide) ?_
        refine j_dmV F hR.1 (qX4_no (kl k) hst (kD k) d (u2 s 0 0 0) 2) lk_X4_90 dX4_setTargets_44 ⟨(Nat.le_of_ble_eq_true rfl), (Nat.le_of_ble_eq_true rfl)⟩ 0 rfl rfl rfl (Nat.le_of_ble_eq_true rfl) ⟨(Nat.le_of_ble_eq_true rfl), (Nat.le_of_ble_eq_true rfl)⟩ rfl ?_
        have hz : M_setTargets s p0 p1 p2 = ((M_no (u2 s 0 0 0) 2).1, (M_no (u2 s 0 0 0) 2).2) := by rw [M_setTargets, if_pos h11, if_pos h28, if_neg h39]
        exact j_iret F hR dX4_setTargets_47 (Nat.le_of_ble_eq_true rfl) (Nat.le_of_ble_eq_true rfl) ⟨by rw [hz], by rw [hz]⟩
  · refine j_aloadn F dX4_setTargets_14 rfl ?_
    refine j_iconst F (v := 1) dX4_setTargets_15 (by decide) ?_
    refine j_dmV F hR.1 (qX4_no (kl k) hst (kD k) d (u2 s 0 0 0) 1) lk_X4_90 dX4_setTargets_16 ⟨(Nat.le_of_ble_eq_true rfl), (Nat.le_of_ble_eq_true rfl)⟩ 0 rfl rfl rfl (Nat.le_of_ble_eq_true rfl) ⟨(Nat.le_of_ble_eq_true rfl), (Nat.le_of_ble_eq_true rfl)⟩ rfl ?_
    have hz : M_setTargets s p0 p1 p2 = ((M_no (u2 s 0 0 0) 1).1, (M_no (u2 s 0 0 0) 1).2) := by rw [M_setTargets, if_neg h11]
    exact j_iret F hR dX4_setTargets_19 (Nat.le_of_ble_eq_true rfl) (Nat.le_of_ble_eq_true rfl) ⟨by rw [hz], by rw [hz]⟩
def M_isService (s : S2) (p0 : Int32) : Bool := if 5 ≤ ((p0 / 1440) - (p0 / 1440) / 7 * 7) then false else if (M_isIn (p0 - p0 / 1440 * 1440) (s 0 2) ((s 0 3) - 1)) = true then true else false
set_option maxHeartbeats 4000000 in
set_option maxRecDepth 100000 in
theorem qX4_isService (l : Launch) (hst : l.stackTraces = false) (D : va_G) (d : Nat → Nat) (s : S2) (p0 : Int32) : CR l D yX4_isService cX4_isService 2 (some .boolean) 1 22 (MW D d s) [.ref (d 0), .int p0] (.int (b1 (M_isService s p0))) := by
  refine CR_of [some (.ref (d 0)), some (.int p0)] hst (by decide +kernel) rfl (Nat.le_of_ble_eq_true rfl) (fun k F hl hD hR => ?_)
  subst hl hD
  refine j_iloadn F dX4_isService_0 rfl ?_
  refine j_sipush F (v := 1440) dX4_isService_1 (by decide) ?_
  refine j_idiv F dX4_isService_4 (by decide) ?_
  refine j_bipush F (v := 7) dX4_isService_5 (by decide) ?_
  refine j_irem F dX4_isService_7 (by decide) ?_
  refine j_iconst F (v := 5) dX4_isService_8 (by decide) ?_
  refine j_icge F (tgt := 37) dX4_isService_9 (by decide) (fun h9 => ?_) (fun h9 => ?_)
  · refine j_iconst F (v := 0) dX4_isService_37 (by decide) ?_
    exact j_zretR F (b := false) hR dX4_isService_38 rfl (congrArg (fun z => Value.int (b1 z)) (show M_isService s p0 = false from by rw [M_isService, if_pos h9]))
  · refine j_iloadn F dX4_isService_12 rfl ?_
    refine j_sipush F (v := 1440) dX4_isService_13 (by decide) ?_
    refine j_irem F dX4_isService_16 (by decide) ?_
    refine j_aloadn F dX4_isService_17 rfl ?_
    refine gf_X4_7 F (v := .int (s 0 2)) dX4_isService_18 0 rfl rfl ?_
    refine j_aloadn F dX4_isService_21 rfl ?_
    refine gf_X4_13 F (v := .int (s 0 3)) dX4_isService_22 0 rfl rfl ?_
    refine j_iconst F (v := 1) dX4_isService_25 (by decide) ?_
    refine j_isub F dX4_isService_26 ?_
    refine j_rdS F (qX4_isIn (kl k) hst (kD k) (p0 - p0 / 1440 * 1440) (s 0 2) ((s 0 3) - 1)) lk_X4_83 dX4_isService_27 ⟨(Nat.le_of_ble_eq_true rfl), (Nat.le_of_ble_eq_true rfl)⟩ (fun _ h => nomatch h) rfl (Nat.le_of_ble_eq_true rfl) ⟨(Nat.le_of_ble_eq_true rfl), (Nat.le_of_ble_eq_true rfl)⟩ ?_
    refine j_ifbeq F (tgt := 37) dX4_isService_30 (by decide) (fun h30 => ?_) (fun h30 => ?_)
    · refine j_iconst F (v := 0) dX4_isService_37 (by decide) ?_
      exact j_zretR F (b := false) hR dX4_isService_38 rfl (congrArg (fun z => Value.int (b1 z)) (show M_isService s p0 = false from by rw [M_isService, if_neg h9, if_neg h30]))
    · refine j_iconst F (v := 1) dX4_isService_33 (by decide) ?_
      refine j_goto F (tgt := 38) dX4_isService_34 (by decide) ?_
      exact j_zretR F (b := true) hR dX4_isService_38 rfl (congrArg (fun z => Value.int (b1 z)) (show M_isService s p0 = true from by rw [M_isService, if_neg h9, if_pos h30]))
def M_serviceAhead (s : S2) (p0 : Int32) : Int32 := if 5 ≤ ((p0 / 1440) - (p0 / 1440) / 7 * 7) then (((((p0 / 1440) / 7) * 5) + (if ((p0 / 1440) - (p0 / 1440) / 7 * 7) < 5 then ((p0 / 1440) - (p0 / 1440) / 7 * 7) else 5)) * ((s 0 3) - (s 0 2))) + 0 else (((((p0 / 1440) / 7) * 5) + (if ((p0 / 1440) - (p0 / 1440) / 7 * 7) < 5 then ((p0 / 1440) - (p0 / 1440) / 7 * 7) else 5)) * ((s 0 3) - (s 0 2))) + (if 0 < ((if (s 0 3) < (p0 - p0 / 1440 * 1440) then (s 0 3) else (p0 - p0 / 1440 * 1440)) - (s 0 2)) then ((if (s 0 3) < (p0 - p0 / 1440 * 1440) then (s 0 3) else (p0 - p0 / 1440 * 1440)) - (s 0 2)) else 0)
set_option maxHeartbeats 4000000 in
set_option maxRecDepth 100000 in
theorem qX4_serviceAhead (l : Launch) (hst : l.stackTraces = false) (D : va_G) (d : Nat → Nat) (s : S2) (p0 : Int32) : CR l D yX4_serviceAhead cX4_serviceAhead 5 (some .int) 1 21 (MW D d s) [.ref (d 0), .int p0] (.int (M_serviceAhead s p0)) := by
  refine CR_of [some (.ref (d 0)), some (.int p0), none, none, none] hst (by decide +kernel) rfl (Nat.le_of_ble_eq_true rfl) (fun k F hl hD hR => ?_)
  subst hl hD
  refine j_iloadn F dX4_serviceAhead_0 rfl ?_
  refine j_sipush F (v := 1440) dX4_serviceAhead_1 (by decide) ?_
  refine j_idiv F dX4_serviceAhead_4 (by decide) ?_
  refine j_istoren F [some (.ref (d 0)), some (.int p0), some (.int (p0 / 1440)), none, none] dX4_serviceAhead_5 rfl rfl rfl ?_
  refine j_iloadn F dX4_serviceAhead_6 rfl ?_
  refine j_bipush F (v := 7) dX4_serviceAhead_7 (by decide) ?_
  refine j_idiv F dX4_serviceAhead_9 (by decide) ?_
  refine j_iconst F (v := 5) dX4_serviceAhead_10 (by decide) ?_
  refine j_imul F dX4_serviceAhead_11 ?_
  refine j_iconst F (v := 5) dX4_serviceAhead_12 (by decide) ?_
  refine j_iloadn F dX4_serviceAhead_13 rfl ?_
  refine j_bipush F (v := 7) dX4_serviceAhead_14 (by decide) ?_
  refine j_irem F dX4_serviceAhead_16 (by decide) ?_
  refine j_mmin F um_X4_97 us_min ui_Math ud_min dX4_serviceAhead_17 ⟨(Nat.le_of_ble_eq_true rfl), (Nat.le_of_ble_eq_true rfl), (Nat.le_of_ble_eq_true rfl), (Nat.le_of_ble_eq_true rfl)⟩ ?_
  refine j_iadd F dX4_serviceAhead_20 ?_
  refine j_istoren F [some (.ref (d 0)), some (.int p0), some (.int (p0 / 1440)), some (.int ((((p0 / 1440) / 7) * 5) + (if ((p0 / 1440) - (p0 / 1440) / 7 * 7) < 5 then ((p0 / 1440) - (p0 / 1440) / 7 * 7) else 5))), none] dX4_serviceAhead_21 rfl rfl rfl ?_
  refine j_iloadn F dX4_serviceAhead_22 rfl ?_
  refine j_bipush F (v := 7) dX4_serviceAhead_23 (by decide) ?_
  refine j_irem F dX4_serviceAhead_25 (by decide) ?_
  refine j_iconst F (v := 5) dX4_serviceAhead_26 (by decide) ?_
  refine j_icge F (tgt := 54) dX4_serviceAhead_27 (by decide) (fun h27 => ?_) (fun h27 => ?_)
  · refine j_iconst F (v := 0) dX4_serviceAhead_54 (by decide) ?_
    refine j_istore F [some (.ref (d 0)), some (.int p0), some (.int (p0 / 1440)), some (.int ((((p0 / 1440) / 7) * 5) + (if ((p0 / 1440) - (p0 / 1440) / 7 * 7) < 5 then ((p0 / 1440) - (p0 / 1440) / 7 * 7) else 5))), some (.int 0)] dX4_serviceAhead_55 rfl rfl rfl ?_
    refine j_iloadn F dX4_serviceAhead_57 rfl ?_
    refine j_aloadn F dX4_serviceAhead_58 rfl ?_
    refine gf_X4_13 F (v := .int (s 0 3)) dX4_serviceAhead_59 0 rfl rfl ?_
    refine j_aloadn F dX4_serviceAhead_62 rfl ?_
    refine gf_X4_7 F (v := .int (s 0 2)) dX4_serviceAhead_63 0 rfl rfl ?_
    refine j_isub F dX4_serviceAhead_66 ?_
    refine j_imul F dX4_serviceAhead_67 ?_
    refine j_iload F dX4_serviceAhead_68 rfl ?_
    refine j_iadd F dX4_serviceAhead_70 ?_
    exact j_iretR F hR dX4_serviceAhead_71 (congrArg Value.int (show M_serviceAhead s p0 = (((((p0 / 1440) / 7) * 5) + (if ((p0 / 1440) - (p0 / 1440) / 7 * 7) < 5 then ((p0 / 1440) - (p0 / 1440) / 7 * 7) else 5)) * ((s 0 3) - (s 0 2))) + 0 from by rw [M_serviceAhead, if_pos h27]))
  · refine j_iconst F (v := 0) dX4_serviceAhead_30 (by decide) ?_
    refine j_iloadn F dX4_serviceAhead_31 rfl ?_
    refine j_sipush F (v := 1440) dX4_serviceAhead_32 (by decide) ?_
    refine j_irem F dX4_serviceAhead_35 (by decide) ?_
    refine j_aloadn F dX4_serviceAhead_36 rfl ?_
    refine gf_X4_13 F (v := .int (s 0 3)) dX4_serviceAhead_37 0 rfl rfl ?_
    refine j_mmin F um_X4_97 us_min ui_Math ud_min dX4_serviceAhead_40 ⟨(Nat.le_of_ble_eq_true rfl), (Nat.le_of_ble_eq_true rfl), (Nat.le_of_ble_eq_true rfl), (Nat.le_of_ble_eq_true rfl)⟩ ?_
    refine j_aloadn F dX4_serviceAhead_43 rfl ?_
    refine gf_X4_7 F (v := .int (s 0 2)) dX4_serviceAhead_44 0 rfl rfl ?_
    refine j_isub F dX4_serviceAhead_47 ?_
    refine j_mmax F um_X4_103 us_max ui_Math ud_max dX4_serviceAhead_48 ⟨(Nat.le_of_ble_eq_true rfl), (Nat.le_of_ble_eq_true rfl), (Nat.le_of_ble_eq_true rfl), (Nat.le_of_ble_eq_true rfl)⟩ ?_
    refine j_goto F (tgt := 55) dX4_serviceAhead_51 (by decide) ?_
    refine j_istore F [some (.ref (d 0)), some (.int p0), some (.int (p0 / 1440)), some (.int ((((p0 / 1440) / 7) * 5) + (if ((p0 / 1440) - (p0 / 1440) / 7 * 7) < 5 then ((p0 / 1440) - (p0 / 1440) / 7 * 7) else 5))), some (.int (if 0 < ((if (s 0 3) < (p0 - p0 / 1440 * 1440) then (s 0 3) else (p0 - p0 / 1440 * 1440)) - (s 0 2)) then ((if (s 0 3) < (p0 - p0 / 1440 * 1440) then (s 0 3) else (p0 - p0 / 1440 * 1440)) - (s 0 2)) else 0))] dX4_serviceAhead_55 rfl rfl rfl ?_
    refine j_iloadn F dX4_serviceAhead_57 rfl ?_
    refine j_aloadn F dX4_serviceAhead_58 rfl ?_
    refine gf_X4_13 F (v := .int (s 0 3)) dX4_serviceAhead_59 0 rfl rfl ?_
    refine j_aloadn F dX4_serviceAhead_62 rfl ?_
    refine gf_X4_7 F (v := .int (s 0 2)) dX4_serviceAhead_63 0 rfl rfl ?_
    refine j_isub F dX4_serviceAhead_66 ?_
    refine j_imul F dX4_serviceAhead_67 ?_
    refine j_iload F dX4_serviceAhead_68 rfl ?_
    refine j_iadd F dX4_serviceAhead_70 ?_
    exact j_iretR F hR dX4_serviceAhead_71 (congrArg Value.int (show M_serviceAhead s p0 = (((((p0 / 1440) / 7) * 5) + (if ((p0 / 1440) - (p0 / 1440) / 7 * 7) < 5 then ((p0 / 1440) - (p0 / 1440) / 7 * 7) else 5)) * ((s 0 3) - (s 0 2))) + (if 0 < ((if (s 0 3) < (p0 - p0 / 1440 * 1440) then (s 0 3) else (p0 - p0 / 1440 * 1440)) - (s 0 2)) then ((if (s 0 3) < (p0 - p0 / 1440 * 1440) then (s 0 3) else (p0 - p0 / 1440 * 1440)) - (s 0 2)) else 0) from by rw [M_serviceAhead, if_neg h27]))
def M_service (s : S2) (p0 : Int32) (p1 : Int32) : Int32 × S2 := if p0 < 0 then ((M_no (u2 s 0 0 0) 1).1, (M_no (u2 s 0 0 0) 1).2) else if p1 < p0 then ((M_no (u2 s 0 0 0) 1).1, (M_no (u2 s 0 0 0) 1).2) else if 99999 < p1 then ((M_no (u2 s 0 0 0) 1).1, (M_no (u2 s 0 0 0) 1).2) else ((M_serviceAhead (u2 s 0 0 0) p1) - (M_serviceAhead (u2 s 0 0 0) p0), u2 s 0 0 0)
set_option maxHeartbeats 4000000 in
set_option maxRecDepth 100000 in
theorem qX4_service (l : Launch) (hst : l.stackTraces = false) (D : va_G) (d : Nat → Nat) (s : S2) (p0 : Int32) (p1 : Int32) : CM l D yX4_service cX4_service 3 (some .int) 2 45 0 0 (MW D d s) [.ref (d 0), .int p0, .int p1] (dP (some (.int ((M_service s p0 p1).1))) (MW D d (M_service s p0 p1).2)) := by
  refine CM_of [some (.ref (d 0)), some (.int p0), some (.int p1)] hst (by decide +kernel) rfl (Nat.le_of_ble_eq_true rfl) (fun k F hl hD hin hR => ?_)
  subst hl hD
  refine j_aloadn F dX4_service_0 rfl ?_
  refine j_iconst F (v := 0) dX4_service_1 (by decide) ?_
  refine pf_X4_77 F hR.1 dX4_service_2 rfl rfl 0 rfl (Nat.le_of_ble_eq_true rfl) (MW (kD k) d (u2 s 0 0 0)) (mp_0 _ _ _ _) ?_
  refine j_iloadn F dX4_service_5 rfl ?_
  refine j_iflt F (tgt := 34) dX4_service_6 (by decide) (fun h6 => ?_) (fun h6 => ?_)
  · refine j_aloadn F dX4_service_34 rfl ?_
    refine j_iconst F (v := 1) dX4_service_35 (by decide) ?_
    refine j_dmV F hR.1 (qX4_no (kl k) hst (kD k) d (u2 s 0 0 0) 1) lk_X4_90 dX4_service_36 ⟨(Nat.le_of_ble_eq_true rfl), (Nat.le_of_ble_eq_true rfl)⟩ 0 rfl rfl rfl (Nat.le_of_ble_eq_true rfl) ⟨(Nat.le_of_ble_eq_true rfl), (Nat.le_of_ble_eq_true rfl)⟩ rfl ?_
    have hz : M_service s p0 p1 = ((M_no (u2 s 0 0 0) 1).1, (M_no (u2 s 0 0 0) 1).2) := by rw [M_service, if_pos h6]
    exact j_iret F hR dX4_service_39 (Nat.le_of_ble_eq_true rfl) (Nat.le_of_ble_eq_true rfl) ⟨by rw [hz], by rw [hz]⟩
  · refine j_iloadn F dX4_service_9 rfl ?_
    refine j_iloadn F dX4_service_10 rfl ?_
    refine j_iclt F (tgt := 34) dX4_service_11 (by decide) (fun h11 => ?_) (fun h11 => ?_)
    · refine j_aloadn F dX4_service_34 rfl ?_
      refine j_iconst F (v := 1) dX4_service_35 (by decide) ?_
      refine j_dmV F hR.1 (qX4_no (kl k) hst (kD k) d (u2 s 0 0 0) 1) lk_X4_90 dX4_service_36 ⟨(Nat.le_of_ble_eq_true rfl), (Nat.le_of_ble_eq_true rfl)⟩ 0 rfl rfl rfl (Nat.le_of_ble_eq_true rfl) ⟨(Nat.le_of_ble_eq_true rfl), (Nat.le_of_ble_eq_true rfl)⟩ rfl ?_
      have hz : M_service s p0 p1 = ((M_no (u2 s 0 0 0) 1).1, (M_no (u2 s 0 0 0) 1).2) := by rw [M_service, if_neg h6, if_pos h11]
      exact j_iret F hR dX4_service_39 (Nat.le_of_ble_eq_true rfl) (Nat.le_of_ble_eq_true rfl) ⟨by rw [hz], by rw [hz]⟩
    · refine j_iloadn F dX4_service_14 rfl ?_
      refine j_ldc F uc_X4_106 dX4_service_15 ?_
      refine j_icgt F (tgt := 34) dX4_service_17 (by decide) (fun h17 => ?_) (fun h17 => ?_)
      · refine j_aloadn F dX4_service_34 rfl ?_
        refine j_iconst F (v := 1) dX4_service_35 (by decide) ?_
        refine j_dmV F hR.1 (qX4_no (kl k) hst (kD k) d (u2 s 0 0 0) 1) lk_X4_90 dX4_service_36 ⟨(Nat.le_of_ble_eq_true rfl), (Nat.le_of_ble_eq_true rfl)⟩ 0 rfl rfl rfl (Nat.le_of_ble_eq_true rfl) ⟨(Nat.le_of_ble_eq_true rfl), (Nat.le_of_ble_eq_true rfl)⟩ rfl ?_
        have hz : M_service s p0 p1 = ((M_no (u2 s 0 0 0) 1).1, (M_no (u2 s 0 0 0) 1).2) := by rw [M_service, if_neg h6, if_neg h11, if_pos h17]
        exact j_iret F hR dX4_service_39 (Nat.le_of_ble_eq_true rfl) (Nat.le_of_ble_eq_true rfl) ⟨by rw [hz], by rw [hz]⟩
      · refine j_aloadn F dX4_service_20 rfl ?_
        refine j_iloadn F dX4_service_21 rfl ?_
        refine j_rdV F (qX4_serviceAhead (kl k) hst (kD k) d (u2 s 0 0 0) p1) lk_X4_107 dX4_service_22 ⟨(Nat.le_of_ble_eq_true rfl), (Nat.le_of_ble_eq_true rfl)⟩ (fun _ h => h) 0 rfl rfl rfl (Nat.le_of_ble_eq_true rfl) ⟨(Nat.le_of_ble_eq_true rfl), (Nat.le_of_ble_eq_true rfl)⟩ ?_
        refine j_aloadn F dX4_service_25 rfl ?_
        refine j_iloadn F dX4_service_26 rfl ?_
        refine j_rdV F (qX4_serviceAhead (kl k) hst (kD k) d (u2 s 0 0 0) p0) lk_X4_107 dX4_service_27 ⟨(Nat.le_of_ble_eq_true rfl), (Nat.le_of_ble_eq_true rfl)⟩ (fun _ h => h) 0 rfl rfl rfl (Nat.le_of_ble_eq_true rfl) ⟨(Nat.le_of_ble_eq_true rfl), (Nat.le_of_ble_eq_true rfl)⟩ ?_
        refine j_isub F dX4_service_30 ?_
        refine j_goto F (tgt := 39) dX4_service_31 (by decide) ?_
        have hz : M_service s p0 p1 = ((M_serviceAhead (u2 s 0 0 0) p1) - (M_serviceAhead (u2 s 0 0 0) p0), u2 s 0 0 0) := by rw [M_service, if_neg h6, if_neg h11, if_neg h17]
        exact j_iret F hR dX4_service_39 (Nat.le_of_ble_eq_true rfl) (Nat.le_of_ble_eq_true rfl) ⟨by rw [hz], by rw [hz]⟩
def M_isThere (s : S2) (p0 : Int32) : Bool := if (M_has (s 8 (ix p0)) (((s 0 1) / 1440) - ((s 0 1) / 1440) / 7 * 7)) = true then (if (M_isIn ((s 0 1) - (s 0 1) / 1440 * 1440) (s 9 (ix p0)) ((s 10 (ix p0)) - 1)) = true then true else false) else false
set_option maxHeartbeats 4000000 in
set_option maxRecDepth 100000 in
theorem qX4_isThere (l : Launch) (hst : l.stackTraces = false) (D : va_G) (d : Nat → Nat) (s : S2) (p0 : Int32) (ha : vp_in p0 6) : CR l D yX4_isThere cX4_isThere 2 (some .boolean) 1 22 (MW D d s) [.ref (d 0), .int p0] (.int (b1 (M_isThere s p0))) := by
  refine CR_of [some (.ref (d 0)), some (.int p0)] hst (by decide +kernel) rfl (Nat.le_of_ble_eq_true rfl) (fun k F hl hD hR => ?_)
  subst hl hD
  refine j_aloadn F dX4_isThere_0 rfl ?_
  refine gf_X4_26 F (v := .ref (d 8)) dX4_isThere_1 0 rfl rfl ?_
  refine j_iloadn F dX4_isThere_4 rfl ?_
  refine j_iald F dX4_isThere_5 (f := s 8) 4 rfl ha ?_
  refine j_aloadn F dX4_isThere_6 rfl ?_
  refine gf_X4_94 F (v := .int (s 0 1)) dX4_isThere_7 0 rfl rfl ?_
  refine j_sipush F (v := 1440) dX4_isThere_10 (by decide) ?_
  refine j_idiv F dX4_isThere_13 (by decide) ?_
  refine j_bipush F (v := 7) dX4_isThere_14 (by decide) ?_
  refine j_irem F dX4_isThere_16 (by decide) ?_
  refine j_rdS F (qX4_has (kl k) hst (kD k) (s 8 (ix p0)) (((s 0 1) / 1440) - ((s 0 1) / 1440) / 7 * 7)) lk_X4_114 dX4_isThere_17 ⟨(Nat.le_of_ble_eq_true rfl), (Nat.le_of_ble_eq_true rfl)⟩ (fun _ h => nomatch h) rfl (Nat.le_of_ble_eq_true rfl) ⟨(Nat.le_of_ble_eq_true rfl), (Nat.le_of_ble_eq_true rfl)⟩ ?_
  refine j_ifbeq F (tgt := 55) dX4_isThere_20 (by decide) (fun h20 => ?_) (fun h20 => ?_)
  · refine j_iconst F (v := 0) dX4_isThere_55 (by decide) ?_
    exact j_zretR F (b := false) hR dX4_isThere_56 rfl (congrArg (fun z => Value.int (b1 z)) (show M_isThere s p0 = false from by rw [M_isThere, if_neg h20]))
  · refine j_aloadn F dX4_isThere_23 rfl ?_
    refine gf_X4_94 F (v := .int (s 0 1)) dX4_isThere_24 0 rfl rfl ?_
    refine j_sipush F (v := 1440) dX4_isThere_27 (by decide) ?_
    refine j_irem F dX4_isThere_30 (by decide) ?_
    refine j_aloadn F dX4_isThere_31 rfl ?_
    refine gf_X4_29 F (v := .ref (d 9)) dX4_isThere_32 0 rfl rfl ?_
    refine j_iloadn F dX4_isThere_35 rfl ?_
    refine j_iald F dX4_isThere_36 (f := s 9) 5 rfl ha ?_
    refine j_aloadn F dX4_isThere_37 rfl ?_
    refine gf_X4_32 F (v := .ref (d 10)) dX4_isThere_38 0 rfl rfl ?_
    refine j_iloadn F dX4_isThere_41 rfl ?_
    refine j_iald F dX4_isThere_42 (f := s 10) 6 rfl ha ?_
    refine j_iconst F (v := 1) dX4_isThere_43 (by decide) ?_
    refine j_isub F dX4_isThere_44 ?_
    refine j_rdS F (qX4_isIn (kl k) hst (kD k) ((s 0 1) - (s 0 1) / 1440 * 1440) (s 9 (ix p0)) ((s 10 (ix p0)) - 1)) lk_X4_83 dX4_isThere_45 ⟨(Nat.le_of_ble_eq_true rfl), (Nat.le_of_ble_eq_true rfl)⟩ (fun _ h => nomatch h) rfl (Nat.le_of_ble_eq_true rfl) ⟨(Nat.le_of_ble_eq_true rfl), (Nat.le_of_ble_eq_true rfl)⟩ ?_
    refine j_ifbeq F (tgt := 55) dX4_isThere_48 (by decide) (fun h48 => ?_) (fun h48 => ?_)
    · refine j_iconst F (v := 0) dX4_isThere_55 (by decide) ?_
      exact j_zretR F (b := false) hR dX4_isThere_56 rfl (congrArg (fun z => Value.int (b1 z)) (show M_isThere s p0 = false from by rw [M_isThere, if_pos h20, if_neg h48]))
    · refine j_iconst F (v := 1) dX4_isThere_51 (by decide) ?_
      refine j_goto F (tgt := 56) dX4_isThere_52 (by decide) ?_
      exact j_zretR F (b := true) hR dX4_isThere_56 rfl (congrArg (fun z => Value.int (b1 z)) (show M_isThere s p0 = true from by rw [M_isThere, if_pos h20, if_pos h48]))
def M_toldAgent (s : S2) (p0 : Int32) (p1 : Int32) : Int32 := if p1 = 0 then s 11 (ix p0) else if p1 = 1 then s 12 (ix p0) else if p1 = 2 then s 13 (ix p0) else if (M_isThere s p0) = true then 1 else 0
set_option maxHeartbeats 4000000 in
set_option maxRecDepth 100000 in
theorem qX4_toldAgent (l : Launch) (hst : l.stackTraces = false) (D : va_G) (d : Nat → Nat) (s : S2) (p0 : Int32) (p1 : Int32) (ha : vp_in p0 6) : CR l D yX4_toldAgent cX4_toldAgent 3 (some .int) 2 43 (MW D d s) [.ref (d 0), .int p0, .int p1] (.int (M_toldAgent s p0 p1)) := by
  refine CR_of [some (.ref (d 0)), some (.int p0), some (.int p1)] hst (by decide +kernel) rfl (Nat.le_of_ble_eq_true rfl) (fun k F hl hD hR => ?_)
  subst hl hD
  refine j_iloadn F dX4_toldAgent_0 rfl ?_
  refine j_ifne F (tgt := 13) dX4_toldAgent_1 (by decide) (fun h1 => ?_) (fun h1 => ?_)
  · refine j_iloadn F dX4_toldAgent_13 rfl ?_
    refine j_iconst F (v := 1) dX4_toldAgent_14 (by decide) ?_
    refine j_icne F (tgt := 27) dX4_toldAgent_15 (by decide) (fun h15 => ?_) (fun h15 => ?_)
    · refine j_iloadn F dX4_toldAgent_27 rfl ?_
      refine j_iconst F (v := 2) dX4_toldAgent_28 (by decide) ?_
      refine j_icne F (tgt := 41) dX4_toldAgent_29 (by decide) (fun h29 => ?_) (fun h29 => ?_)
      · refine j_aloadn F dX4_toldAgent_41 rfl ?_
        refine j_iloadn F dX4_toldAgent_42 rfl ?_
        refine j_rdV F (qX4_isThere (kl k) hst (kD k) d s p0 ha) lk_X4_122 dX4_toldAgent_43 ⟨(Nat.le_of_ble_eq_true rfl), (Nat.le_of_ble_eq_true rfl)⟩ (fun _ h => h) 0 rfl rfl rfl (Nat.le_of_ble_eq_true rfl) ⟨(Nat.le_of_ble_eq_true rfl), (Nat.le_of_ble_eq_true rfl)⟩ ?_
        refine j_ifbeq F (tgt := 53) dX4_toldAgent_46 (by decide) (fun h46 => ?_) (fun h46 => ?_)
        · refine j_iconst F (v := 0) dX4_toldAgent_53 (by decide) ?_
          exact j_iretR F hR dX4_toldAgent_54 (congrArg Value.int (show M_toldAgent s p0 p1 = 0 from by rw [M_toldAgent, if_neg h1, if_neg h15, if_neg h29, if_neg h46]))
        · refine j_iconst F (v := 1) dX4_toldAgent_49 (by decide) ?_
          refine j_goto F (tgt := 54) dX4_toldAgent_50 (by decide) ?_
          exact j_iretR F hR dX4_toldAgent_54 (congrArg Value.int (show M_toldAgent s p0 p1 = 1 from by rw [M_toldAgent, if_neg h1, if_neg h15, if_neg h29, if_pos h46]))
      · refine j_aloadn F dX4_toldAgent_32 rfl ?_
        refine gf_X4_41 F (v := .ref (d 13)) dX4_toldAgent_33 0 rfl rfl ?_
        refine j_iloadn F dX4_toldAgent_36 rfl ?_
        refine j_iald F dX4_toldAgent_37 (f := s 13) 9 rfl ha ?_
        refine j_goto F (tgt := 54) dX4_toldAgent_38 (by decide) ?_
        exact j_iretR F hR dX4_toldAgent_54 (congrArg Value.int (show M_toldAgent s p0 p1 = s 13 (ix p0) from by rw [M_toldAgent, if_neg h1, if_neg h15, if_pos h29]))
    · refine j_aloadn F dX4_toldAgent_18 rfl ?_
      refine gf_X4_38 F (v := .ref (d 12)) dX4_toldAgent_19 0 rfl rfl ?_
      refine j_iloadn F dX4_toldAgent_22 rfl ?_
      refine j_iald F dX4_toldAgent_23 (f := s 12) 8 rfl ha ?_
      refine j_goto F (tgt := 54) dX4_toldAgent_24 (by decide) ?_
      exact j_iretR F hR dX4_toldAgent_54 (congrArg Value.int (show M_toldAgent s p0 p1 = s 12 (ix p0) from by rw [M_toldAgent, if_neg h1, if_pos h15]))
  · refine j_aloadn F dX4_toldAgent_4 rfl ?_
    refine gf_X4_35 F (v := .ref (d 11)) dX4_toldAgent_5 0 rfl rfl ?_
    refine j_iloadn F dX4_toldAgent_8 rfl ?_
    refine j_iald F dX4_toldAgent_9 (f := s 11) 7 rfl ha ?_
    refine j_goto F (tgt := 54) dX4_toldAgent_10 (by decide) ?_
    exact j_iretR F hR dX4_toldAgent_54 (congrArg Value.int (show M_toldAgent s p0 p1 = s 11 (ix p0) from by rw [M_toldAgent, if_pos h1]))
def M_agent (s : S2) (p0 : Int32) (p1 : Int32) : Int32 × S2 := if (M_isAgent (u2 s 0 0 0) p0) = true then (if (M_isIn p1 0 3) = true then (M_toldAgent (u2 s 0 0 0) p0 p1, u2 s 0 0 0) else ((M_no (u2 s 0 0 0) 1).1, (M_no (u2 s 0 0 0) 1).2)) else ((M_no (u2 s 0 0 0) 1).1, (M_no (u2 s 0 0 0) 1).2)
set_option maxHeartbeats 4000000 in
set_option maxRecDepth 100000 in
theorem qX4_agent (l : Launch) (hst : l.stackTraces = false) (D : va_G) (d : Nat → Nat) (s : S2) (p0 : Int32) (p1 : Int32) (hI : MI s) : CM l D yX4_agent cX4_agent 3 (some .int) 3 65 0 0 (MW D d s) [.ref (d 0), .int p0, .int p1] (dP (some (.int ((M_agent s p0 p1).1))) (MW D d (M_agent s p0 p1).2)) := by
  refine CM_of [some (.ref (d 0)), some (.int p0), some (.int p1)] hst (by decide +kernel) rfl (Nat.le_of_ble_eq_true rfl) (fun k F hl hD hin hR => ?_)
  subst hl hD
  refine j_aloadn F dX4_agent_0 rfl ?_
  refine j_iconst F (v := 0) dX4_agent_1 (by decide) ?_
  refine pf_X4_77 F hR.1 dX4_agent_2 rfl rfl 0 rfl (Nat.le_of_ble_eq_true rfl) (MW (kD k) d (u2 s 0 0 0)) (mp_0 _ _ _ _) ?_
  refine j_aloadn F dX4_agent_5 rfl ?_
  refine j_iloadn F dX4_agent_6 rfl ?_
  refine j_rdV F (qX4_isAgent (kl k) hst (kD k) d (u2 s 0 0 0) p0) lk_X4_110 dX4_agent_7 ⟨(Nat.le_of_ble_eq_true rfl), (Nat.le_of_ble_eq_true rfl)⟩ (fun _ h => h) 0 rfl rfl rfl (Nat.le_of_ble_eq_true rfl) ⟨(Nat.le_of_ble_eq_true rfl), (Nat.le_of_ble_eq_true rfl)⟩ ?_
  refine j_ifbeq F (tgt := 31) dX4_agent_10 (by decide) (fun h10 => ?_) (fun h10 => ?_)
  · refine j_aloadn F dX4_agent_31 rfl ?_
    refine j_iconst F (v := 1) dX4_agent_32 (by decide) ?_
    refine j_dmV F hR.1 (qX4_no (kl k) hst (kD k) d (u2 s 0 0 0) 1) lk_X4_90 dX4_agent_33 ⟨(Nat.le_of_ble_eq_true rfl), (Nat.le_of_ble_eq_true rfl)⟩ 0 rfl rfl rfl (Nat.le_of_ble_eq_true rfl) ⟨(Nat.le_of_ble_eq_true rfl), (Nat.le_of_ble_eq_true rfl)⟩ rfl ?_
    have hz : M_agent s p0 p1 = ((M_no (u2 s 0 0 0) 1).1, (M_no (u2 s 0 0 0) 1).2) := by rw [M_agent, if_neg h10]
    exact j_iret F hR dX4_agent_36 (Nat.le_of_ble_eq_true rfl) (Nat.le_of_ble_eq_true rfl) ⟨by rw [hz], by rw [hz]⟩
  · refine j_iloadn F dX4_agent_13 rfl ?_
    refine j_iconst F (v := 0) dX4_agent_14 (by decide) ?_
    refine j_iconst F (v := 3) dX4_agent_15 (by decide) ?_
    refine j_rdS F (qX4_isIn (kl k) hst (kD k) p1 0 3) lk_X4_83 dX4_agent_16 ⟨(Nat.le_of_ble_eq_true rfl), (Nat.le_of_ble_eq_true rfl)⟩ (fun _ h => nomatch h) rfl (Nat.le_of_ble_eq_true rfl) ⟨(Nat.le_of_ble_eq_true rfl), (Nat.le_of_ble_eq_true rfl)⟩ ?_
    refine j_ifbeq F (tgt := 31) dX4_agent_19 (by decide) (fun h19 => ?_) (fun h19 => ?_)
    · refine j_aloadn F dX4_agent_31 rfl ?_
      refine j_iconst F (v := 1) dX4_agent_32 (by decide) ?_
      refine j_dmV F hR.1 (qX4_no (kl k) hst (kD k) d (u2 s 0 0 0) 1) lk_X4_90 dX4_agent_33 ⟨(Nat.le_of_ble_eq_true rfl), (Nat.le_of_ble_eq_true rfl)⟩ 0 rfl rfl rfl (Nat.le_of_ble_eq_true rfl) ⟨(Nat.le_of_ble_eq_true rfl), (Nat.le_of_ble_eq_true rfl)⟩ rfl ?_
      have hz : M_agent s p0 p1 = ((M_no (u2 s 0 0 0) 1).1, (M_no (u2 s 0 0 0) 1).2) := by rw [M_agent, if_pos h10, if_neg h19]
      exact j_iret F hR dX4_agent_36 (Nat.le_of_ble_eq_true rfl) (Nat.le_of_ble_eq_true rfl) ⟨by rw [hz], by rw [hz]⟩
    · refine j_aloadn F dX4_agent_22 rfl ?_
      refine j_iloadn F dX4_agent_23 rfl ?_
      refine j_iloadn F dX4_agent_24 rfl ?_
      refine j_rdV F (qX4_toldAgent (kl k) hst (kD k) d (u2 s 0 0 0) p0 p1 ((M_isAgent_in hI h10))) lk_X4_125 dX4_agent_25 ⟨(Nat.le_of_ble_eq_true rfl), (Nat.le_of_ble_eq_true rfl)⟩ (fun _ h => h) 0 rfl rfl rfl (Nat.le_of_ble_eq_true rfl) ⟨(Nat.le_of_ble_eq_true rfl), (Nat.le_of_ble_eq_true rfl)⟩ ?_
      refine j_goto F (tgt := 36) dX4_agent_28 (by decide) ?_
      have hz : M_agent s p0 p1 = (M_toldAgent (u2 s 0 0 0) p0 p1, u2 s 0 0 0) := by rw [M_agent, if_pos h10, if_pos h19]
      exact j_iret F hR dX4_agent_36 (Nat.le_of_ble_eq_true rfl) (Nat.le_of_ble_eq_true rfl) ⟨by rw [hz], by rw [hz]⟩
def M_slack (s : S2) (p0 : Int32) : Int32 := (s 5 (ix (s 16 (ix p0)))) - (s 20 (ix p0))
set_option maxHeartbeats 4000000 in
set_option maxRecDepth 100000 in
theorem qX4_slack (l : Launch) (hst : l.stackTraces = false) (D : va_G) (d : Nat → Nat) (s : S2) (p0 : Int32) (hI : MI s) (ht : vp_in p0 20) : CR l D yX4_slack cX4_slack 2 (some .int) 0 0 (MW D d s) [.ref (d 0), .int p0] (.int (M_slack s p0)) := by
  refine CR_of [some (.ref (d 0)), some (.int p0)] hst (by decide +kernel) rfl (Nat.le_of_ble_eq_true rfl) (fun k F hl hD hR => ?_)
  subst hl hD
  refine j_aloadn F dX4_slack_0 rfl ?_
  refine gf_X4_20 F (v := .ref (d 5)) dX4_slack_1 0 rfl rfl ?_
  refine j_aloadn F dX4_slack_4 rfl ?_
  refine gf_X4_47 F (v := .ref (d 16)) dX4_slack_5 0 rfl rfl ?_
  refine j_iloadn F dX4_slack_8 rfl ?_
  refine j_iald F dX4_slack_9 (f := s 16) 11 rfl ht ?_
  refine j_iald F dX4_slack_10 (f := s 5) 2 rfl (MI.prio hI (vp_lt ht)) ?_
  refine j_aloadn F dX4_slack_11 rfl ?_
  refine gf_X4_59 F (v := .ref (d 20)) dX4_slack_12 0 rfl rfl ?_
  refine j_iloadn F dX4_slack_15 rfl ?_
  refine j_iald F dX4_slack_16 (f := s 20) 15 rfl ht ?_
  refine j_isub F dX4_slack_17 ?_
  exact j_iretR F hR dX4_slack_18 (congrArg Value.int (show M_slack s p0 = (s 5 (ix (s 16 (ix p0)))) - (s 20 (ix p0)) from rfl))
def M_likes (s : S2) (p0 : Int32) (p1 : Int32) (p2 : Int32) : Bool := if (s 22 (ix p1)) = p0 then (if (s 22 (ix p2)) = p0 then (if (M_slack s p2) ≤ (M_slack s p1) then false else true) else true) else if (s 22 (ix p2)) = p0 then false else if (M_slack s p2) ≤ (M_slack s p1) then false else true
set_option maxHeartbeats 4000000 in
set_option maxRecDepth 100000 in
theorem qX4_likes (l : Launch) (hst : l.stackTraces = false) (D : va_G) (d : Nat → Nat) (s : S2) (p0 : Int32) (p1 : Int32) (p2 : Int32) (hI : MI s) (ht : vp_in p1 20) (hu : vp_in p2 20) : CR l D yX4_likes cX4_likes 5 (some .boolean) 1 21 (MW D d s) [.ref (d 0), .int p0, .int p1, .int p2] (.int (b1 (M_likes s p0 p1 p2))) := by
  refine CR_of [some (.ref (d 0)), some (.int p0), some (.int p1), some (.int p2), none] hst (by decide +kernel) rfl (Nat.le_of_ble_eq_true rfl) (fun k F hl hD hR => ?_)
  subst hl hD
  refine j_aloadn F dX4_likes_0 rfl ?_
  refine gf_X4_65 F (v := .ref (d 22)) dX4_likes_1 0 rfl rfl ?_
  refine j_iloadn F dX4_likes_4 rfl ?_
  refine j_iald F dX4_likes_5 (f := s 22) 17 rfl ht ?_
  refine j_iloadn F dX4_likes_6 rfl ?_
  refine j_icne F (tgt := 14) dX4_likes_7 (by decide) (fun h7 => ?_) (fun h7 => ?_)
  · refine j_iconst F (v := 0) dX4_likes_14 (by decide) ?_
    refine j_istore F [some (.ref (d 0)), some (.int p0), some (.int p1), some (.int p2), some (.int 0)] dX4_likes_15 rfl rfl rfl ?_
    refine j_iload F dX4_likes_17 rfl ?_
    refine j_aloadn F dX4_likes_19 rfl ?_
    refine gf_X4_65 F (v := .ref (d 22)) dX4_likes_20 0 rfl rfl ?_
    refine j_iloadn F dX4_likes_23 rfl ?_
    refine j_iald F dX4_likes_24 (f := s 22) 17 rfl hu ?_
    refine j_iloadn F dX4_likes_25 rfl ?_
    refine j_icne F (tgt := 33) dX4_likes_26 (by decide) (fun h26 => ?_) (fun h26 => ?_)
    · refine j_iconst F (v := 0) dX4_likes_33 (by decide) ?_
      refine j_iceq F (tgt := 40) dX4_likes_34 (by decide) (fun h34 => ?_) (fun h34 => ?_)
      · refine j_aloadn F dX4_likes_40 rfl ?_
        refine j_iloadn F dX4_likes_41 rfl ?_
        refine j_rdV F (qX4_slack (kl k) hst (kD k) d s p1 hI ht) lk_X4_128 dX4_likes_42 ⟨(Nat.le_of_ble_eq_true rfl), (Nat.le_of_ble_eq_true rfl)⟩ (fun _ h => h) 0 rfl rfl rfl (Nat.le_of_ble_eq_true rfl) ⟨(Nat.le_of_ble_eq_true rfl), (Nat.le_of_ble_eq_true rfl)⟩ ?_
        refine j_aloadn F dX4_likes_45 rfl ?_
        refine j_iloadn F dX4_likes_46 rfl ?_
        refine j_rdV F (qX4_slack (kl k) hst (kD k) d s p2 hI hu) lk_X4_128 dX4_likes_47 ⟨(Nat.le_of_ble_eq_true rfl), (Nat.le_of_ble_eq_true rfl)⟩ (fun _ h => h) 0 rfl rfl rfl (Nat.le_of_ble_eq_true rfl) ⟨(Nat.le_of_ble_eq_true rfl), (Nat.le_of_ble_eq_true rfl)⟩ ?_
        refine j_icge F (tgt := 57) dX4_likes_50 (by decide) (fun h50 => ?_) (fun h50 => ?_)
        · refine j_iconst F (v := 0) dX4_likes_57 (by decide) ?_
          exact j_zretR F (b := false) hR dX4_likes_58 rfl (congrArg (fun z => Value.int (b1 z)) (show M_likes s p0 p1 p2 = false from by rw [M_likes, if_neg h7, if_neg h26, if_pos h50]))
        · refine j_iconst F (v := 1) dX4_likes_53 (by decide) ?_
          refine j_goto F (tgt := 58) dX4_likes_54 (by decide) ?_
          exact j_zretR F (b := true) hR dX4_likes_58 rfl (congrArg (fun z => Value.int (b1 z)) (show M_likes s p0 p1 p2 = true from by rw [M_likes, if_neg h7, if_neg h26, if_neg h50]))
      · exact absurd h34 (by decide)
    · refine j_iconst F (v := 1) dX4_likes_29 (by decide) ?_
      refine j_goto F (tgt := 34) dX4_likes_30 (by decide) ?_
      refine j_iceq F (tgt := 40) dX4_likes_34 (by decide) (fun h34 => ?_) (fun h34 => ?_)
      · exact absurd h34 (by decide)
      · refine j_iload F dX4_likes_37 rfl ?_
        exact j_zretR F (b := false) hR dX4_likes_39 rfl (congrArg (fun z => Value.int (b1 z)) (show M_likes s p0 p1 p2 = false from by rw [M_likes, if_neg h7, if_pos h26]))
  · refine j_iconst F (v := 1) dX4_likes_10 (by decide) ?_
    refine j_goto F (tgt := 15) dX4_likes_11 (by decide) ?_
    refine j_istore F [some (.ref (d 0)), some (.int p0), some (.int p1), some (.int p2), some (.int 1)] dX4_likes_15 rfl rfl rfl ?_
    refine j_iload F dX4_likes_17 rfl ?_
    refine j_aloadn F dX4_likes_19 rfl ?_
    refine gf_X4_65 F (v := .ref (d 22)) dX4_likes_20 0 rfl rfl ?_
    refine j_iloadn F dX4_likes_23 rfl ?_
    refine j_iald F dX4_likes_24 (f := s 22) 17 rfl hu ?_
    refine j_iloadn F dX4_likes_25 rfl ?_
    refine j_icne F (tgt := 33) dX4_likes_26 (by decide) (fun h26 => ?_) (fun h26 => ?_)
    · refine j_iconst F (v := 0) dX4_likes_33 (by decide) ?_
      refine j_iceq F (tgt := 40) dX4_likes_34 (by decide) (fun h34 => ?_) (fun h34 => ?_)
      · exact absurd h34 (by decide)
      · refine j_iload F dX4_likes_37 rfl ?_
        exact j_zretR F (b := true) hR dX4_likes_39 rfl (congrArg (fun z => Value.int (b1 z)) (show M_likes s p0 p1 p2 = true from by rw [M_likes, if_pos h7, if_neg h26]))
    · refine j_iconst F (v := 1) dX4_likes_29 (by decide) ?_
      refine j_goto F (tgt := 34) dX4_likes_30 (by decide) ?_
      refine j_iceq F (tgt := 40) dX4_likes_34 (by decide) (fun h34 => ?_) (fun h34 => ?_)
      · refine j_aloadn F dX4_likes_40 rfl ?_
        refine j_iloadn F dX4_likes_41 rfl ?_
        refine j_rdV F (qX4_slack (kl k) hst (kD k) d s p1 hI ht) lk_X4_128 dX4_likes_42 ⟨(Nat.le_of_ble_eq_true rfl), (Nat.le_of_ble_eq_true rfl)⟩ (fun _ h => h) 0 rfl rfl rfl (Nat.le_of_ble_eq_true rfl) ⟨(Nat.le_of_ble_eq_true rfl), (Nat.le_of_ble_eq_true rfl)⟩ ?_
        refine j_aloadn F dX4_likes_45 rfl ?_
        refine j_iloadn F dX4_likes_46 rfl ?_
        refine j_rdV F (qX4_slack (kl k) hst (kD k) d s p2 hI hu) lk_X4_128 dX4_likes_47 ⟨(Nat.le_of_ble_eq_true rfl), (Nat.le_of_ble_eq_true rfl)⟩ (fun _ h => h) 0 rfl rfl rfl (Nat.le_of_ble_eq_true rfl) ⟨(Nat.le_of_ble_eq_true rfl), (Nat.le_of_ble_eq_true rfl)⟩ ?_
        refine j_icge F (tgt := 57) dX4_likes_50 (by decide) (fun h50 => ?_) (fun h50 => ?_)
        · refine j_iconst F (v := 0) dX4_likes_57 (by decide) ?_
          exact j_zretR F (b := false) hR dX4_likes_58 rfl (congrArg (fun z => Value.int (b1 z)) (show M_likes s p0 p1 p2 = false from by rw [M_likes, if_pos h7, if_pos h26, if_pos h50]))
        · refine j_iconst F (v := 1) dX4_likes_53 (by decide) ?_
          refine j_goto F (tgt := 58) dX4_likes_54 (by decide) ?_
          exact j_zretR F (b := true) hR dX4_likes_58 rfl (congrArg (fun z => Value.int (b1 z)) (show M_likes s p0 p1 p2 = true from by rw [M_likes, if_pos h7, if_pos h26, if_neg h50]))
      · exact absurd h34 (by decide)
def M_setPriority (s : S2) (p0 : Int32) (p1 : Int32) : Int32 × S2 := if (M_isTicket (u2 s 0 0 0) p0) = true then (if (M_isIn p1 0 3) = true then (if (s 19 (ix p0)) = 4 then ((M_no (u2 s 0 0 0) 3).1, (M_no (u2 s 0 0 0) 3).2) else (s 16 (ix p0), u2 (u2 s 0 0 0) 16 (ix p0) p1)) else ((M_no (u2 s 0 0 0) 2).1, (M_no (u2 s 0 0 0) 2).2)) else ((M_no (u2 s 0 0 0) 1).1, (M_no (u2 s 0 0 0) 1).2)
set_option maxHeartbeats 4000000 in
set_option maxRecDepth 100000 in
theorem qX4_setPriority (l : Launch) (hst : l.stackTraces = false) (D : va_G) (d : Nat → Nat) (s : S2) (p0 : Int32) (p1 : Int32) (hI : MI s) : CM l D yX4_setPriority cX4_setPriority 4 (some .int) 2 43 0 0 (MW D d s) [.ref (d 0), .int p0, .int p1] (dP (some (.int ((M_setPriority s p0 p1).1))) (MW D d (M_setPriority s p0 p1).2)) := by
  refine CM_of [some (.ref (d 0)), some (.int p0), some (.int p1), none] hst (by decide +kernel) rfl (Nat.le_of_ble_eq_true rfl) (fun k F hl hD hin hR => ?_)
  subst hl hD
  refine j_aloadn F dX4_setPriority_0 rfl ?_
  refine j_iconst F (v := 0) dX4_setPriority_1 (by decide) ?_
  refine pf_X4_77 F hR.1 dX4_setPriority_2 rfl rfl 0 rfl (Nat.le_of_ble_eq_true rfl) (MW (kD k) d (u2 s 0 0 0)) (mp_0 _ _ _ _) ?_
  refine j_aloadn F dX4_setPriority_5 rfl ?_
  refine j_iloadn F dX4_setPriority_6 rfl ?_
  refine j_rdV F (qX4_isTicket (kl k) hst (kD k) d (u2 s 0 0 0) p0) lk_X4_137 dX4_setPriority_7 ⟨(Nat.le_of_ble_eq_true rfl), (Nat.le_of_ble_eq_true rfl)⟩ (fun _ h => h) 0 rfl rfl rfl (Nat.le_of_ble_eq_true rfl) ⟨(Nat.le_of_ble_eq_true rfl), (Nat.le_of_ble_eq_true rfl)⟩ ?_
  refine j_ifbne F (tgt := 19) dX4_setPriority_10 (by decide) (fun h10 => ?_) (fun h10 => ?_)
  · refine j_iloadn F dX4_setPriority_19 rfl ?_
    refine j_iconst F (v := 0) dX4_setPriority_20 (by decide) ?_
    refine j_iconst F (v := 3) dX4_setPriority_21 (by decide) ?_
    refine j_rdS F (qX4_isIn (kl k) hst (kD k) p1 0 3) lk_X4_83 dX4_setPriority_22 ⟨(Nat.le_of_ble_eq_true rfl), (Nat.le_of_ble_eq_true rfl)⟩ (fun _ h => nomatch h) rfl (Nat.le_of_ble_eq_true rfl) ⟨(Nat.le_of_ble_eq_true rfl), (Nat.le_of_ble_eq_true rfl)⟩ ?_
    refine j_ifbne F (tgt := 34) dX4_setPriority_25 (by decide) (fun h25 => ?_) (fun h25 => ?_)
    · refine j_aloadn F dX4_setPriority_34 rfl ?_
      refine gf_X4_56 F (v := .ref (d 19)) dX4_setPriority_35 0 rfl rfl ?_
      refine j_iloadn F dX4_setPriority_38 rfl ?_
      refine j_iald F dX4_setPriority_39 (f := s 19) 14 rfl (M_isTicket_in hI h10) ?_
      refine j_iconst F (v := 4) dX4_setPriority_40 (by decide) ?_
      refine j_icne F (tgt := 50) dX4_setPriority_41 (by decide) (fun h41 => ?_) (fun h41 => ?_)
      · refine j_aloadn F dX4_setPriority_50 rfl ?_
        refine gf_X4_47 F (v := .ref (d 16)) dX4_setPriority_51 0 rfl rfl ?_
        refine j_iloadn F dX4_setPriority_54 rfl ?_
        refine j_iald F dX4_setPriority_55 (f := s 16) 11 rfl (M_isTicket_in hI h10) ?_
        refine j_istoren F [some (.ref (d 0)), some (.int p0), some (.int p1), some (.int (s 16 (ix p0)))] dX4_setPriority_56 rfl rfl rfl ?_
        refine j_aloadn F dX4_setPriority_57 rfl ?_
        refine gf_X4_47 F (v := .ref (d 16)) dX4_setPriority_58 0 rfl rfl ?_
        refine j_iloadn F dX4_setPriority_61 rfl ?_
        refine j_iloadn F dX4_setPriority_62 rfl ?_
        refine j_iast F hR.1 dX4_setPriority_63 11 rfl (M_isTicket_in hI h10) (MW (kD k) d (u2 (u2 s 0 0 0) 16 (ix p0) p1)) (mu_16 _ _ _ _ _) ?_
        refine j_iloadn F dX4_setPriority_64 rfl ?_
        have hz : M_setPriority s p0 p1 = (s 16 (ix p0), u2 (u2 s 0 0 0) 16 (ix p0) p1) := by rw [M_setPriority, if_pos h10, if_pos h25, if_neg h41]
        exact j_iret F hR dX4_setPriority_65 (Nat.le_of_ble_eq_true rfl) (Nat.le_of_ble_eq_true rfl) ⟨by rw [hz], by rw [hz]⟩
      · refine j_aloadn F dX4_setPriority_44 rfl ?_
        refine j_iconst F (v := 3) dX4_setPriority_45 (by decide) ?_
        refine j_dmV F hR.1 (qX4_no (kl k) hst (kD k) d (u2 s 0 0 0) 3) lk_X4_90 dX4_setPriority_46 ⟨(Nat.le_of_ble_eq_true rfl), (Nat.le_of_ble_eq_true rfl)⟩ 0 rfl rfl rfl (Nat.le_of_ble_eq_true rfl) ⟨(Nat.le_of_ble_eq_true rfl), (Nat.le_of_ble_eq_true rfl)⟩ rfl ?_
        have hz : M_setPriority s p0 p1 = ((M_no (u2 s 0 0 0) 3).1, (M_no (u2 s 0 0 0) 3).2) := by rw [M_setPriority, if_pos h10, if_pos h25, if_pos h41]
        exact j_iret F hR dX4_setPriority_49 (Nat.le_of_ble_eq_true rfl) (Nat.le_of_ble_eq_true rfl) ⟨by rw [hz], by rw [hz]⟩
    · refine j_aloadn F dX4_setPriority_28 rfl ?_
      refine j_iconst F (v := 2) dX4_setPriority_29 (by decide) ?_
      refine j_dmV F hR.1 (qX4_no (kl k) hst (kD k) d (u2 s 0 0 0) 2) lk_X4_90 dX4_setPriority_30 ⟨(Nat.le_of_ble_eq_true rfl), (Nat.le_of_ble_eq_true rfl)⟩ 0 rfl rfl rfl (Nat.le_of_ble_eq_true rfl) ⟨(Nat.le_of_ble_eq_true rfl), (Nat.le_of_ble_eq_true rfl)⟩ rfl ?_
      have hz : M_setPriority s p0 p1 = ((M_no (u2 s 0 0 0) 2).1, (M_no (u2 s 0 0 0) 2).2) := by rw [M_setPriority, if_pos h10, if_neg h25]
      exact j_iret F hR dX4_setPriority_33 (Nat.le_of_ble_eq_true rfl) (Nat.le_of_ble_eq_true rfl) ⟨by rw [hz], by rw [hz]⟩
  · refine j_aloadn F dX4_setPriority_13 rfl ?_
    refine j_iconst F (v := 1) dX4_setPriority_14 (by decide) ?_
    refine j_dmV F hR.1 (qX4_no (kl k) hst (kD k) d (u2 s 0 0 0) 1) lk_X4_90 dX4_setPriority_15 ⟨(Nat.le_of_ble_eq_true rfl), (Nat.le_of_ble_eq_true rfl)⟩ 0 rfl rfl rfl (Nat.le_of_ble_eq_true rfl) ⟨(Nat.le_of_ble_eq_true rfl), (Nat.le_of_ble_eq_true rfl)⟩ rfl ?_
    have hz : M_setPriority s p0 p1 = ((M_no (u2 s 0 0 0) 1).1, (M_no (u2 s 0 0 0) 1).2) := by rw [M_setPriority, if_neg h10]
    exact j_iret F hR dX4_setPriority_18 (Nat.le_of_ble_eq_true rfl) (Nat.le_of_ble_eq_true rfl) ⟨by rw [hz], by rw [hz]⟩
def M_resume (s : S2) (p0 : Int32) : Int32 × S2 := if (M_isTicket (u2 s 0 0 0) p0) = true then (if (s 19 (ix p0)) = 2 then ((s 0 1) - (s 25 (ix p0)), u2 (u2 s 0 0 0) 19 (ix p0) 0) else ((M_no (u2 s 0 0 0) 2).1, (M_no (u2 s 0 0 0) 2).2)) else ((M_no (u2 s 0 0 0) 1).1, (M_no (u2 s 0 0 0) 1).2)
set_option maxHeartbeats 4000000 in
set_option maxRecDepth 100000 in
theorem qX4_resume (l : Launch) (hst : l.stackTraces = false) (D : va_G) (d : Nat → Nat) (s : S2) (p0 : Int32) (hI : MI s) : CM l D yX4_resume cX4_resume 2 (some .int) 2 43 0 0 (MW D d s) [.ref (d 0), .int p0] (dP (some (.int ((M_resume s p0).1))) (MW D d (M_resume s p0).2)) := by
  refine CM_of [some (.ref (d 0)), some (.int p0)] hst (by decide +kernel) rfl (Nat.le_of_ble_eq_true rfl) (fun k F hl hD hin hR => ?_)
  subst hl hD
  refine j_aloadn F dX4_resume_0 rfl ?_
  refine j_iconst F (v := 0) dX4_resume_1 (by decide) ?_
  refine pf_X4_77 F hR.1 dX4_resume_2 rfl rfl 0 rfl (Nat.le_of_ble_eq_true rfl) (MW (kD k) d (u2 s 0 0 0)) (mp_0 _ _ _ _) ?_
  refine j_aloadn F dX4_resume_5 rfl ?_
  refine j_iloadn F dX4_resume_6 rfl ?_
  refine j_rdV F (qX4_isTicket (kl k) hst (kD k) d (u2 s 0 0 0) p0) lk_X4_137 dX4_resume_7 ⟨(Nat.le_of_ble_eq_true rfl), (Nat.le_of_ble_eq_true rfl)⟩ (fun _ h => h) 0 rfl rfl rfl (Nat.le_of_ble_eq_true rfl) ⟨(Nat.le_of_ble_eq_true rfl), (Nat.le_of_ble_eq_true rfl)⟩ ?_
  refine j_ifbne F (tgt := 19) dX4_resume_10 (by decide) (fun h10 => ?_) (fun h10 => ?_)
  · refine j_aloadn F dX4_resume_19 rfl ?_
    refine gf_X4_56 F (v := .ref (d 19)) dX4_resume_20 0 rfl rfl ?_
    refine j_iloadn F dX4_resume_23 rfl ?_
    refine j_iald F dX4_resume_24 (f := s 19) 14 rfl (M_isTicket_in hI h10) ?_
    refine j_iconst F (v := 2) dX4_resume_25 (by decide) ?_
    refine j_iceq F (tgt := 35) dX4_resume_26 (by decide) (fun h26 => ?_) (fun h26 => ?_)
    · refine j_aloadn F dX4_resume_35 rfl ?_
      refine gf_X4_56 F (v := .ref (d 19)) dX4_resume_36 0 rfl rfl ?_
      refine j_iloadn F dX4_resume_39 rfl ?_
      refine j_iconst F (v := 0) dX4_resume_40 (by decide) ?_
      refine j_iast F hR.1 dX4_resume_41 14 rfl (M_isTicket_in hI h10) (MW (kD k) d (u2 (u2 s 0 0 0) 19 (ix p0) 0)) (mu_19 _ _ _ _ _) ?_
      refine j_aloadn F dX4_resume_42 rfl ?_
      refine gf_X4_94 F (v := .int (s 0 1)) dX4_resume_43 0 rfl rfl ?_
      refine j_aloadn F dX4_resume_46 rfl ?_
      refine gf_X4_74 F (v := .ref (d 25)) dX4_resume_47 0 rfl rfl ?_
      refine j_iloadn F dX4_resume_50 rfl ?_
      refine j_iald F dX4_resume_51 (f := s 25) 20 rfl (M_isTicket_in hI h10) ?_
      refine j_isub F dX4_resume_52 ?_
      have hz : M_resume s p0 = ((s 0 1) - (s 25 (ix p0)), u2 (u2 s 0 0 0) 19 (ix p0) 0) := by rw [M_resume, if_pos h10, if_pos h26]
      exact j_iret F hR dX4_resume_53 (Nat.le_of_ble_eq_true rfl) (Nat.le_of_ble_eq_true rfl) ⟨by rw [hz], by rw [hz]⟩
    · refine j_aloadn F dX4_resume_29 rfl ?_
      refine j_iconst F (v := 2) dX4_resume_30 (by decide) ?_
      refine j_dmV F hR.1 (qX4_no (kl k) hst (kD k) d (u2 s 0 0 0) 2) lk_X4_90 dX4_resume_31 ⟨(Nat.le_of_ble_eq_true rfl), (Nat.le_of_ble_eq_true rfl)⟩ 0 rfl rfl rfl (Nat.le_of_ble_eq_true rfl) ⟨(Nat.le_of_ble_eq_true rfl), (Nat.le_of_ble_eq_true rfl)⟩ rfl ?_
      have hz : M_resume s p0 = ((M_no (u2 s 0 0 0) 2).1, (M_no (u2 s 0 0 0) 2).2) := by rw [M_resume, if_pos h10, if_neg h26]
      exact j_iret F hR dX4_resume_34 (Nat.le_of_ble_eq_true rfl) (Nat.le_of_ble_eq_true rfl) ⟨by rw [hz], by rw [hz]⟩
  · refine j_aloadn F dX4_resume_13 rfl ?_
    refine j_iconst F (v := 1) dX4_resume_14 (by decide) ?_
    refine j_dmV F hR.1 (qX4_no (kl k) hst (kD k) d (u2 s 0 0 0) 1) lk_X4_90 dX4_resume_15 ⟨(Nat.le_of_ble_eq_true rfl), (Nat.le_of_ble_eq_true rfl)⟩ 0 rfl rfl rfl (Nat.le_of_ble_eq_true rfl) ⟨(Nat.le_of_ble_eq_true rfl), (Nat.le_of_ble_eq_true rfl)⟩ rfl ?_
    have hz : M_resume s p0 = ((M_no (u2 s 0 0 0) 1).1, (M_no (u2 s 0 0 0) 1).2) := by rw [M_resume, if_neg h10]
    exact j_iret F hR dX4_resume_18 (Nat.le_of_ble_eq_true rfl) (Nat.le_of_ble_eq_true rfl) ⟨by rw [hz], by rw [hz]⟩
def M_reopen (s : S2) (p0 : Int32) (p1 : Int32) : Int32 × S2 := if (M_isTicket (u2 s 0 0 0) p0) = true then (if (M_isIn p1 1 300) = true then (if (s 19 (ix p0)) = 3 then (if ((s 0 1) - (s 25 (ix p0))) < 7200 then ((u2 (u2 (u2 s 0 0 0) 19 (ix p0) 0) 17 (ix p0) ((s 17 (ix p0)) + p1)) 17 (ix p0), u2 (u2 (u2 (u2 s 0 0 0) 19 (ix p0) 0) 17 (ix p0) ((s 17 (ix p0)) + p1)) 24 (ix p0) ((s 24 (ix p0)) + 1)) else ((M_no (u2 s 0 0 0) 3).1, (M_no (u2 s 0 0 0) 3).2)) else ((M_no (u2 s 0 0 0) 3).1, (M_no (u2 s 0 0 0) 3).2)) else ((M_no (u2 s 0 0 0) 2).1, (M_no (u2 s 0 0 0) 2).2)) else ((M_no (u2 s 0 0 0) 1).1, (M_no (u2 s 0 0 0) 1).2)
set_option maxHeartbeats 4000000 in
set_option maxRecDepth 100000 in
theorem qX4_reopen (l : Launch) (hst : l.stackTraces = false) (D : va_G) (d : Nat → Nat) (s : S2) (p0 : Int32) (p1 : Int32) (hI : MI s) : CM l D yX4_reopen cX4_reopen 3 (some .int) 2 43 0 0 (MW D d s) [.ref (d 0), .int p0, .int p1] (dP (some (.int ((M_reopen s p0 p1).1))) (MW D d (M_reopen s p0 p1).2)) := by
  refine CM_of [some (.ref (d 0)), some (.int p0), some (.int p1)] hst (by decide +kernel) rfl (Nat.le_of_ble_eq_true rfl) (fun k F hl hD hin hR => ?_)
  subst hl hD
  refine j_aloadn F dX4_reopen_0 rfl ?_
  refine j_iconst F (v := 0) dX4_reopen_1 (by decide) ?_
  refine pf_X4_77 F hR.1 dX4_reopen_2 rfl rfl 0 rfl (Nat.le_of_ble_eq_true rfl) (MW (kD k) d (u2 s 0 0 0)) (mp_0 _ _ _ _) ?_
  refine j_aloadn F dX4_reopen_5 rfl ?_
  refine j_iloadn F dX4_reopen_6 rfl ?_
  refine j_rdV F (qX4_isTicket (kl k) hst (kD k) d (u2 s 0 0 0) p0) lk_X4_137 dX4_reopen_7 ⟨(Nat.le_of_ble_eq_true rfl), (Nat.le_of_ble_eq_true rfl)⟩ (fun _ h => h) 0 rfl rfl rfl (Nat.le_of_ble_eq_true rfl) ⟨(Nat.le_of_ble_eq_true rfl), (Nat.le_of_ble_eq_true rfl)⟩ ?_
  refine j_ifbne F (tgt := 19) dX4_reopen_10 (by decide) (fun h10 => ?_) (fun h10 => ?_)
  · refine j_iloadn F dX4_reopen_19 rfl ?_
    refine j_iconst F (v := 1) dX4_reopen_20 (by decide) ?_
    refine j_sipush F (v := 300) dX4_reopen_21 (by decide) ?_
    refine j_rdS F (qX4_isIn (kl k) hst (kD k) p1 1 300) lk_X4_83 dX4_reopen_24 ⟨(Nat.le_of_ble_eq_true rfl), (Nat.le_of_ble_eq_true rfl)⟩ (fun _ h => nomatch h) rfl (Nat.le_of_ble_eq_true rfl) ⟨(Nat.le_of_ble_eq_true rfl), (Nat.le_of_ble_eq_true rfl)⟩ ?_
    refine j_ifbne F (tgt := 36) dX4_reopen_27 (by decide) (fun h27 => ?_) (fun h27 => ?_)
    · refine j_aloadn F dX4_reopen_36 rfl ?_
      refine gf_X4_56 F (v := .ref (d 19)) dX4_reopen_37 0 rfl rfl ?_
      refine j_iloadn F dX4_reopen_40 rfl ?_
      refine j_iald F dX4_reopen_41 (f := s 19) 14 rfl (M_isTicket_in hI h10) ?_
      refine j_iconst F (v := 3) dX4_reopen_42 (by decide) ?_
      refine j_icne F (tgt := 63) dX4_reopen_43 (by decide) (fun h43 => ?_) (fun h43 => ?_)
      · refine j_aloadn F dX4_reopen_63 rfl ?_
        refine j_iconst F (v := 3) dX4_reopen_64 (by decide) ?_
        refine j_dmV F hR.1 (qX4_no (kl k) hst (kD k) d (u2 s 0 0 0) 3) lk_X4_90 dX4_reopen_65 ⟨(Nat.le_of_ble_eq_true rfl), (Nat.le_of_ble_eq_true rfl)⟩ 0 rfl rfl rfl (Nat.le_of_ble_eq_true rfl) ⟨(Nat.le_of_ble_eq_true rfl), (Nat.le_of_ble_eq_true rfl)⟩ rfl ?_
        have hz : M_reopen s p0 p1 = ((M_no (u2 s 0 0 0) 3).1, (M_no (u2 s 0 0 0) 3).2) := by rw [M_reopen, if_pos h10, if_pos h27, if_neg h43]
        exact j_iret F hR dX4_reopen_68 (Nat.le_of_ble_eq_true rfl) (Nat.le_of_ble_eq_true rfl) ⟨by rw [hz], by rw [hz]⟩
      · refine j_aloadn F dX4_reopen_46 rfl ?_
        refine gf_X4_94 F (v := .int (s 0 1)) dX4_reopen_47 0 rfl rfl ?_
        refine j_aloadn F dX4_reopen_50 rfl ?_
        refine gf_X4_74 F (v := .ref (d 25)) dX4_reopen_51 0 rfl rfl ?_
        refine j_iloadn F dX4_reopen_54 rfl ?_
        refine j_iald F dX4_reopen_55 (f := s 25) 20 rfl (M_isTicket_in hI h10) ?_
        refine j_isub F dX4_reopen_56 ?_
        refine j_sipush F (v := 7200) dX4_reopen_57 (by decide) ?_
        refine j_iclt F (tgt := 69) dX4_reopen_60 (by decide) (fun h60 => ?_) (fun h60 => ?_)
        · refine j_aloadn F dX4_reopen_69 rfl ?_
          refine gf_X4_56 F (v := .ref (d 19)) dX4_reopen_70 0 rfl rfl ?_
          refine j_iloadn F dX4_reopen_73 rfl ?_
          refine j_iconst F (v := 0) dX4_reopen_74 (by decide) ?_
          refine j_iast F hR.1 dX4_reopen_75 14 rfl (M_isTicket_in hI h10) (MW (kD k) d (u2 (u2 s 0 0 0) 19 (ix p0) 0)) (mu_19 _ _ _ _ _) ?_
          refine j_aloadn F dX4_reopen_76 rfl ?_
          refine gf_X4_50 F (v := .ref (d 17)) dX4_reopen_77 0 rfl rfl ?_
          refine j_iloadn F dX4_reopen_80 rfl ?_
          refine j_dup2 F dX4_reopen_81 rfl rfl ?_
          refine j_iald F dX4_reopen_82 (f := s 17) 12 rfl (M_isTicket_in hI h10) ?_
          refine j_iloadn F dX4_reopen_83 rfl ?_
          refine j_iadd F dX4_reopen_84 ?_
          refine j_iast F hR.1 dX4_reopen_85 12 rfl (M_isTicket_in hI h10) (MW (kD k) d (u2 (u2 (u2 s 0 0 0) 19 (ix p0) 0) 17 (ix p0) ((s 17 (ix p0)) + p1))) (mu_17 _ _ _ _ _) ?_
          refine j_aloadn F dX4_reopen_86 rfl ?_
          refine gf_X4_71 F (v := .ref (d 24)) dX4_reopen_87 0 rfl rfl ?_
          refine j_iloadn F dX4_reopen_90 rfl ?_
          refine j_dup2 F dX4_reopen_91 rfl rfl ?_
          refine j_iald F dX4_reopen_92 (f := s 24) 19 rfl (M_isTicket_in hI h10) ?_
          refine j_iconst F (v := 1) dX4_reopen_93 (by decide) ?_
          refine j_iadd F dX4_reopen_94 ?_
          refine j_iast F hR.1 dX4_reopen_95 19 rfl (M_isTicket_in hI h10) (MW (kD k) d (u2 (u2 (u2 (u2 s 0 0 0) 19 (ix p0) 0) 17 (ix p0) ((s 17 (ix p0)) + p1)) 24 (ix p0) ((s 24 (ix p0)) + 1))) (mu_24 _ _ _ _ _) ?_
          refine j_aloadn F dX4_reopen_96 rfl ?_
          refine gf_X4_50 F (v := .ref (d 17)) dX4_reopen_97 0 rfl rfl ?_
          refine j_iloadn F dX4_reopen_100 rfl ?_
          refine j_iald F dX4_reopen_101 (f := (u2 (u2 (u2 s 0 0 0) 19 (ix p0) 0) 17 (ix p0) ((s 17 (ix p0)) + p1)) 17) 12 (mgq_17 (u2_ne1 (by decide))) (M_isTicket_in hI h10) ?_
          have hz : M_reopen s p0 p1 = ((u2 (u2 (u2 s 0 0 0) 19 (ix p0) 0) 17 (ix p0) ((s 17 (ix p0)) + p1)) 17 (ix p0), u2 (u2 (u2 (u2 s 0 0 0) 19 (ix p0) 0) 17 (ix p0) ((s 17 (ix p0)) + p1)) 24 (ix p0) ((s 24 (ix p0)) + 1)) := by rw [M_reopen, if_pos h10, if_pos h27, if_pos h43, if_pos h60]
          exact j_iret F hR dX4_reopen_102 (Nat.le_of_ble_eq_true rfl) (Nat.le_of_ble_eq_true rfl) ⟨by rw [hz], by rw [hz]⟩
        · refine j_aloadn F dX4_reopen_63 rfl ?_
          refine j_iconst F (v := 3) dX4_reopen_64 (by decide) ?_
          refine j_dmV F hR.1 (qX4_no (kl k) hst (kD k) d (u2 s 0 0 0) 3) lk_X4_90 dX4_reopen_65 ⟨(Nat.le_of_ble_eq_true rfl), (Nat.le_of_ble_eq_true rfl)⟩ 0 rfl rfl rfl (Nat.le_of_ble_eq_true rfl) ⟨(Nat.le_of_ble_eq_true rfl), (Nat.le_of_ble_eq_true rfl)⟩ rfl ?_
          have hz : M_reopen s p0 p1 = ((M_no (u2 s 0 0 0) 3).1, (M_no (u2 s 0 0 0) 3).2) := by rw [M_reopen, if_pos h10, if_pos h27, if_pos h43, if_neg h60]
          exact j_iret F hR dX4_reopen_68 (Nat.le_of_ble_eq_true rfl) (Nat.le_of_ble_eq_true rfl) ⟨by rw [hz], by rw [hz]⟩
    · refine j_aloadn F dX4_reopen_30 rfl ?_
      refine j_iconst F (v := 2) dX4_reopen_31 (by decide) ?_
      refine j_dmV F hR.1 (qX4_no (kl k) hst (kD k) d (u2 s 0 0 0) 2) lk_X4_90 dX4_reopen_32 ⟨(Nat.le_of_ble_eq_true rfl), (Nat.le_of_ble_eq_true rfl)⟩ 0 rfl rfl rfl (Nat.le_of_ble_eq_true rfl) ⟨(Nat.le_of_ble_eq_true rfl), (Nat.le_of_ble_eq_true rfl)⟩ rfl ?_
      have hz : M_reopen s p0 p1 = ((M_no (u2 s 0 0 0) 2).1, (M_no (u2 s 0 0 0) 2).2) := by rw [M_reopen, if_pos h10, if_neg h27]
      exact j_iret F hR dX4_reopen_35 (Nat.le_of_ble_eq_true rfl) (Nat.le_of_ble_eq_true rfl) ⟨by rw [hz], by rw [hz]⟩
  · refine j_aloadn F dX4_reopen_13 rfl ?_
    refine j_iconst F (v := 1) dX4_reopen_14 (by decide) ?_
    refine j_dmV F hR.1 (qX4_no (kl k) hst (kD k) d (u2 s 0 0 0) 1) lk_X4_90 dX4_reopen_15 ⟨(Nat.le_of_ble_eq_true rfl), (Nat.le_of_ble_eq_true rfl)⟩ 0 rfl rfl rfl (Nat.le_of_ble_eq_true rfl) ⟨(Nat.le_of_ble_eq_true rfl), (Nat.le_of_ble_eq_true rfl)⟩ rfl ?_
    have hz : M_reopen s p0 p1 = ((M_no (u2 s 0 0 0) 1).1, (M_no (u2 s 0 0 0) 1).2) := by rw [M_reopen, if_neg h10]
    exact j_iret F hR dX4_reopen_18 (Nat.le_of_ble_eq_true rfl) (Nat.le_of_ble_eq_true rfl) ⟨by rw [hz], by rw [hz]⟩
def M_ticketCount (s : S2) : Int32 × S2 := (s 0 14, u2 s 0 0 0)
set_option maxHeartbeats 4000000 in
set_option maxRecDepth 100000 in
theorem qX4_ticketCount (l : Launch) (hst : l.stackTraces = false) (D : va_G) (d : Nat → Nat) (s : S2) : CM l D yX4_ticketCount cX4_ticketCount 1 (some .int) 0 0 0 0 (MW D d s) [.ref (d 0)] (dP (some (.int ((M_ticketCount s).1))) (MW D d (M_ticketCount s).2)) := by
  refine CM_of [some (.ref (d 0))] hst (by decide +kernel) rfl (Nat.le_of_ble_eq_true rfl) (fun k F hl hD hin hR => ?_)
  subst hl hD
  refine j_aloadn F dX4_ticketCount_0 rfl ?_
  refine j_iconst F (v := 0) dX4_ticketCount_1 (by decide) ?_
  refine pf_X4_77 F hR.1 dX4_ticketCount_2 rfl rfl 0 rfl (Nat.le_of_ble_eq_true rfl) (MW (kD k) d (u2 s 0 0 0)) (mp_0 _ _ _ _) ?_
  refine j_aloadn F dX4_ticketCount_5 rfl ?_
  refine gf_X4_87 F (v := .int (s 0 14)) dX4_ticketCount_6 0 rfl rfl ?_
  have hz : M_ticketCount s = (s 0 14, u2 s 0 0 0) := rfl
  exact j_iret F hR dX4_ticketCount_9 (Nat.le_of_ble_eq_true rfl) (Nat.le_of_ble_eq_true rfl) ⟨by rw [hz], by rw [hz]⟩
def M_breaks (s : S2) (p0 : Int32) (p1 : Bool) : Bool := if (s 19 (ix p0)) = 4 then false else if p1 = true then (if (s 23 (ix p0)) = ((-1)) then (if (s 20 (ix p0)) ≤ (s 4 (ix (s 16 (ix p0)))) then false else true) else if (s 23 (ix p0)) ≤ (s 4 (ix (s 16 (ix p0)))) then false else true) else if (s 20 (ix p0)) ≤ (s 5 (ix (s 16 (ix p0)))) then false else true
set_option maxHeartbeats 4000000 in
set_option maxRecDepth 100000 in
theorem qX4_breaks (l : Launch) (hst : l.stackTraces = false) (D : va_G) (d : Nat → Nat) (s : S2) (p0 : Int32) (p1 : Bool) (hI : MI s) (ht : vp_in p0 20) : CR l D yX4_breaks cX4_breaks 3 (some .boolean) 0 0 (MW D d s) [.ref (d 0), .int p0, .int (b1 p1)] (.int (b1 (M_breaks s p0 p1))) := by
  refine CR_of [some (.ref (d 0)), some (.int p0), some (.int (b1 p1))] hst (by decide +kernel) rfl (Nat.le_of_ble_eq_true rfl) (fun k F hl hD hR => ?_)
  subst hl hD
  refine j_aloadn F dX4_breaks_0 rfl ?_
  refine gf_X4_56 F (v := .ref (d 19)) dX4_breaks_1 0 rfl rfl ?_
  refine j_iloadn F dX4_breaks_4 rfl ?_
  refine j_iald F dX4_breaks_5 (f := s 19) 14 rfl ht ?_
  refine j_iconst F (v := 4) dX4_breaks_6 (by decide) ?_
  refine j_icne F (tgt := 12) dX4_breaks_7 (by decide) (fun h7 => ?_) (fun h7 => ?_)
  · refine j_iloadn F dX4_breaks_12 rfl ?_
    refine j_ifbne F (tgt := 42) dX4_breaks_13 (by decide) (fun h13 => ?_) (fun h13 => ?_)
    · refine j_aloadn F dX4_breaks_42 rfl ?_
      refine gf_X4_68 F (v := .ref (d 23)) dX4_breaks_43 0 rfl rfl ?_
      refine j_iloadn F dX4_breaks_46 rfl ?_
      refine j_iald F dX4_breaks_47 (f := s 23) 18 rfl ht ?_
      refine j_iconst F (v := (-1)) dX4_breaks_48 (by decide) ?_
      refine j_icne F (tgt := 61) dX4_breaks_49 (by decide) (fun h49 => ?_) (fun h49 => ?_)
      · refine j_aloadn F dX4_breaks_61 rfl ?_
        refine gf_X4_68 F (v := .ref (d 23)) dX4_breaks_62 0 rfl rfl ?_
        refine j_iloadn F dX4_breaks_65 rfl ?_
        refine j_iald F dX4_breaks_66 (f := s 23) 18 rfl ht ?_
        refine j_aloadn F dX4_breaks_67 rfl ?_
        refine gf_X4_16 F (v := .ref (d 4)) dX4_breaks_68 0 rfl rfl ?_
        refine j_aloadn F dX4_breaks_71 rfl ?_
        refine gf_X4_47 F (v := .ref (d 16)) dX4_breaks_72 0 rfl rfl ?_
        refine j_iloadn F dX4_breaks_75 rfl ?_
        refine j_iald F dX4_breaks_76 (f := s 16) 11 rfl ht ?_
        refine j_iald F dX4_breaks_77 (f := s 4) 1 rfl (MI.prio hI (vp_lt ht)) ?_
        refine j_icle F (tgt := 85) dX4_breaks_78 (by decide) (fun h78 => ?_) (fun h78 => ?_)
        · refine j_iconst F (v := 0) dX4_breaks_85 (by decide) ?_
          exact j_zretR F (b := false) hR dX4_breaks_86 rfl (congrArg (fun z => Value.int (b1 z)) (show M_breaks s p0 p1 = false from by rw [M_breaks, if_neg h7, if_pos h13, if_neg h49, if_pos h78]))
        · refine j_iconst F (v := 1) dX4_breaks_81 (by decide) ?_
          refine j_goto F (tgt := 86) dX4_breaks_82 (by decide) ?_
          exact j_zretR F (b := true) hR dX4_breaks_86 rfl (congrArg (fun z => Value.int (b1 z)) (show M_breaks s p0 p1 = true from by rw [M_breaks, if_neg h7, if_pos h13, if_neg h49, if_neg h78]))
      · refine j_aloadn F dX4_breaks_52 rfl ?_
        refine gf_X4_59 F (v := .ref (d 20)) dX4_breaks_53 0 rfl rfl ?_
        refine j_iloadn F dX4_breaks_56 rfl ?_
        refine j_iald F dX4_breaks_57 (f := s 20) 15 rfl ht ?_
        refine j_goto F (tgt := 67) dX4_breaks_58 (by decide) ?_
        refine j_aloadn F dX4_breaks_67 rfl ?_
        refine gf_X4_16 F (v := .ref (d 4)) dX4_breaks_68 0 rfl rfl ?_
        refine j_aloadn F dX4_breaks_71 rfl ?_
        refine gf_X4_47 F (v := .ref (d 16)) dX4_breaks_72 0 rfl rfl ?_
        refine j_iloadn F dX4_breaks_75 rfl ?_
        refine j_iald F dX4_breaks_76 (f := s 16) 11 rfl ht ?_
        refine j_iald F dX4_breaks_77 (f := s 4) 1 rfl (MI.prio hI (vp_lt ht)) ?_
        refine j_icle F (tgt := 85) dX4_breaks_78 (by decide) (fun h78 => ?_) (fun h78 => ?_)
        · refine j_iconst F (v := 0) dX4_breaks_85 (by decide) ?_
          exact j_zretR F (b := false) hR dX4_breaks_86 rfl (congrArg (fun z => Value.int (b1 z)) (show M_breaks s p0 p1 = false from by rw [M_breaks, if_neg h7, if_pos h13, if_pos h49, if_pos h78]))
        · refine j_iconst F (v := 1) dX4_breaks_81 (by decide) ?_
          refine j_goto F (tgt := 86) dX4_breaks_82 (by decide) ?_
          exact j_zretR F (b := true) hR dX4_breaks_86 rfl (congrArg (fun z => Value.int (b1 z)) (show M_breaks s p0 p1 = true from by rw [M_breaks, if_neg h7, if_pos h13, if_pos h49, if_neg h78]))
    · refine j_aloadn F dX4_breaks_16 rfl ?_
      refine gf_X4_59 F (v := .ref (d 20)) dX4_breaks_17 0 rfl rfl ?_
      refine j_iloadn F dX4_breaks_20 rfl ?_
      refine j_iald F dX4_breaks_21 (f := s 20) 15 rfl ht ?_
      refine j_aloadn F dX4_breaks_22 rfl ?_
      refine gf_X4_20 F (v := .ref (d 5)) dX4_breaks_23 0 rfl rfl ?_
      refine j_aloadn F dX4_breaks_26 rfl ?_
      refine gf_X4_47 F (v := .ref (d 16)) dX4_breaks_27 0 rfl rfl ?_
      refine j_iloadn F dX4_breaks_30 rfl ?_
      refine j_iald F dX4_breaks_31 (f := s 16) 11 rfl ht ?_
      refine j_iald F dX4_breaks_32 (f := s 5) 2 rfl (MI.prio hI (vp_lt ht)) ?_
      refine j_icle F (tgt := 40) dX4_breaks_33 (by decide) (fun h33 => ?_) (fun h33 => ?_)
      · refine j_iconst F (v := 0) dX4_breaks_40 (by decide) ?_
        exact j_zretR F (b := false) hR dX4_breaks_41 rfl (congrArg (fun z => Value.int (b1 z)) (show M_breaks s p0 p1 = false from by rw [M_breaks, if_neg h7, if_neg h13, if_pos h33]))
      · refine j_iconst F (v := 1) dX4_breaks_36 (by decide) ?_
        refine j_goto F (tgt := 41) dX4_breaks_37 (by decide) ?_
        exact j_zretR F (b := true) hR dX4_breaks_41 rfl (congrArg (fun z => Value.int (b1 z)) (show M_breaks s p0 p1 = true from by rw [M_breaks, if_neg h7, if_neg h13, if_neg h33]))
  · refine j_iconst F (v := 0) dX4_breaks_10 (by decide) ?_
    exact j_zretR F (b := false) hR dX4_breaks_11 rfl (congrArg (fun z => Value.int (b1 z)) (show M_breaks s p0 p1 = false from by rw [M_breaks, if_pos h7]))
