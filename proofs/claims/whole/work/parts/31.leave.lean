/-! hands that let go; new agents, tickets; hours, targets -/
section LEAVE
variable {N na nt : Nat} {v : S2} {r : R2} {s : S2}
theorem take_v {t : Nat} : (C_takeFromHolder na nt v r t).1 = v := by unfold C_takeFromHolder; split <;> rfl
theorem take_r {t j : Nat} (h15 : ¬ j = 15) (h32 : ¬ j = 32) : (C_takeFromHolder na nt v r t).2 j = r j := by
  unfold C_takeFromHolder
  split
  · rfl
  · show u3 (u3 r 15 _ none) 32 t none j = r j
    rw [u3_ne1 h32, u3_ne1 h15]
theorem take_32 {t u : Nat} : (C_takeFromHolder na nt v r t).2 32 u = if u = t then none else r 32 u := by
  unfold C_takeFromHolder
  by_cases h : r 32 t = none
  · rw [if_pos h]
    by_cases e : u = t
    · rw [if_pos e, e]; exact h
    · rw [if_neg e]
  · rw [if_neg h]
    show u3 (u3 r 15 _ none) 32 t none 32 u = _
    rw [u3_at]
    by_cases e : u = t
    · rw [if_pos ⟨rfl, e⟩, if_pos e]
    · rw [if_neg (fun z => e z.2), if_neg e, u3_ne1 (by decide)]
theorem Rel.take_15 (h : Rel N na nt v r s) {t a : Nat} (ht : t < nt) (ha : a < na) : (C_takeFromHolder na nt v r t).2 15 a = if r 15 a = some t then none else r 15 a := by
  unfold C_takeFromHolder
  by_cases hn : r 32 t = none
  · rw [if_pos hn]
    by_cases e : r 15 a = some t
    · have := ((h.ag a ha).heldb t e).2.1
      rw [hn] at this; cases this
    · rw [if_neg e]
  · rw [if_neg hn]
    show u3 (u3 r 15 (gd (r 32 t)) none) 32 t none 15 a = _
    rw [u3_ne1 (by decide), u3_at]
    obtain ⟨b, hb⟩ : ∃ b, r 32 t = some b := ⟨_, gd_some hn⟩
    rw [hb]
    rw [show gd (some b) = b from rfl]
    have hbb := (h.tk t ht).holdb b hb
    by_cases e : a = b
    · rw [if_pos ⟨rfl, e⟩, e, if_pos hbb.2]
    · rw [if_neg (fun z => e z.2), if_neg]
      intro z
      have := ((h.ag a ha).heldb t z).2.1
      rw [hb] at this
      cases this
      exact e rfl
theorem Rel.take (h : Rel N na nt v r s) {t0 : Nat} (ht0 : t0 < nt) {s' : S2} (hs11 : ∀ a, a < na → s' 11 a = if s 11 a = nI t0 then -1 else s 11 a) (hs : ∀ j, ¬ j = 11 → s' j = s j) (hMI : MI s') : Rel N na nt v (C_takeFromHolder na nt v r t0).2 s' := by
  have hh := h
  obtain ⟨a1, a2, a3, a4, a5, a6, a7, a8, a9, a10, a11, a12, a13, a14, a15, a16⟩ := h
  have e0 := hs 0 (by decide)
  refine ⟨hMI, by rw [e0]; exact a2, a3, by rw [e0]; exact a4, by rw [e0]; exact a5, a6, by rw [e0]; exact a7, a8, by rw [e0]; exact a9, a10, fun i hi => by rw [hs 4 (by decide), hs 5 (by decide)]; exact a11 i hi, fun a ha => ?_, fun t ht => ?_, fun t ht => ?_, fun t h1 h2 => ?_, fun a h1 h2 => ?_⟩
  · obtain ⟨b1, b2, b3, b4, b5, b6, b7, b8, b9, b10⟩ := a12 a ha
    refine ⟨b1, by rw [hs 8 (by decide)]; exact b2, by rw [hs 9 (by decide)]; exact b3, by rw [hs 10 (by decide)]; exact b4, by rw [hs 7 (by decide)]; exact b5, by rw [hs 12 (by decide)]; exact b6, by rw [hs 13 (by decide)]; exact b7, ?_, b9, fun t e => ?_⟩
    · rw [hs11 a ha, hh.take_15 ht0 ha]
      by_cases e : r 15 a = some t0
      · rw [if_pos ((hh.hand ha ht0).mpr e), if_pos e]; rfl
      · rw [if_neg (fun z => e ((hh.hand ha ht0).mp z)), if_neg e]; exact b8
    · rw [hh.take_15 ht0 ha] at e
      by_cases e1 : r 15 a = some t0
      · rw [if_pos e1] at e; cases e
      · rw [if_neg e1] at e
        have e2 : t ≠ t0 := fun z => e1 (by rw [← z]; exact e)
        rw [take_32, if_neg e2]
        exact b10 t e
  · obtain ⟨b1, b2, b3, b4, b5, b6, b7, b8, b9, b10, b11, b12, b13, b14, b15, b16, b17, b18, b19, b20, b21, b22, b23, b24⟩ := a13 t ht
    refine ⟨b1, by rw [hs 15 (by decide)]; exact b2, by rw [hs 16 (by decide)]; exact b3, by rw [hs 17 (by decide)]; exact b4, by rw [hs 19 (by decide)]; exact b5, by rw [hs 20 (by decide)]; exact b6, by rw [hs 21 (by decide)]; exact b7, by rw [hs 23 (by decide)]; exact b8, by rw [hs 24 (by decide)]; exact b9, by rw [hs 22 (by decide), take_r (by decide) (by decide)]; exact b10, by rw [take_r (by decide) (by decide)]; exact b11, fun a e => ?_, by rw [hs 25 (by decide), take_r (by decide) (by decide)]; exact b13, by rw [take_r (by decide) (by decide)]; exact b14, by rw [hs 25 (by decide)]; exact b15, by rw [hs 25 (by decide)]; exact b16, b17, b18, b19, b20, b21, b22, b23, b24⟩
    rw [take_32] at e
    by_cases e1 : t = t0
    · rw [if_pos e1] at e; cases e
    · rw [if_neg e1] at e
      obtain ⟨c1, c2⟩ := b12 a e
      refine ⟨c1, ?_⟩
      rw [hh.take_15 ht0 c1, if_neg (fun z => e1 (by rw [c2] at z; cases z; rfl))]
      exact c2
  · rw [a14 t ht]
    exact (M_cust_cg (fun _ => by rw [hs 19 (by decide)]) (fun _ _ => by rw [hs 25 (by decide)]) (hs 18 (by decide)) (by rw [e0]) _).symm
  · rw [hs 19 (by decide), hs 20 (by decide), hs 21 (by decide), hs 24 (by decide)]; exact a15 t h1 h2
  · rw [hs 12 (by decide), hs 13 (by decide)]; exact a16 a h1 h2
theorem Rel.free (h : Rel N na nt v r s) {t0 : Nat} (ht0 : t0 < nt) : ∀ a, a < na → ¬ (C_takeFromHolder na nt v r t0).2 15 a = some t0 := fun a ha e => by
  rw [h.take_15 ht0 ha] at e
  by_cases e1 : r 15 a = some t0
  · rw [if_pos e1] at e; cases e
  · rw [if_neg e1] at e; exact e1 e
/-- the hands of 'leave' -/
theorem Rel.takeM (h : Rel N na nt v r s) {t0 : Nat} (ht0 : t0 < nt) : Rel N na nt v (C_takeFromHolder na nt v r t0).2 (M_leaveL s (nI t0) na) := by
  have e : ∀ a b, M_leaveL s (nI t0) na a b = if a = 11 ∧ b < na ∧ s 11 b = nI t0 then -1 else s a b := fun a b => M_leaveL_at _ _ _ _ _
  refine h.take ht0 (fun a ha => ?_) (fun j hj => funext fun b => ?_) ?_
  · rw [e]
    by_cases z : s 11 a = nI t0
    · rw [if_pos ⟨rfl, ha, z⟩, if_pos z]
    · rw [if_neg (fun q => z q.2.2), if_neg z]
  · rw [e, if_neg (fun q => hj q.1)]
  · obtain ⟨h1, h2, h3, h4, rk, h5⟩ := h.mi
    refine ⟨?_, ?_, fun t ht => ?_, fun a ha => ?_, rk, fun t ht hs => ?_⟩
    · rw [e, if_neg (fun q => absurd q.1 (by decide))]; exact h1
    · rw [e, if_neg (fun q => absurd q.1 (by decide))]; exact h2
    · rw [e, if_neg (fun q => absurd q.1 (by decide))]; exact h3 t ht
    · rw [e]
      split
      · exact Or.inl rfl
      · exact h4 a ha
    · rw [e, if_neg (fun q => absurd q.1 (by decide))] at hs
      rw [e, if_neg (fun q => absurd q.1 (by decide))]
      exact h5 t ht hs
theorem Rel.leave_eq (h : Rel N na nt v r s) {t0 : Nat} (ht0 : t0 < nt) (x : Int32) : M_leave s (nI t0) x = u2 (M_leaveL s (nI t0) na) 19 t0 x := by
  have := h.cTb
  rw [M_leave, h.ixA, ix_nI (by omega)]
theorem leaveL_ne {p : Int32} {n j : Nat} (hj : ¬ j = 11) : M_leaveL s p n j = s j := funext fun b => by
  rw [M_leaveL_at, if_neg (fun q => hj q.1)]
/-- a ticket is taken from its agent, and waits -/
theorem Rel.handBack (h : Rel N na nt v r s) {t0 : Nat} (ht0 : t0 < nt) (h4 : v 24 t0 = 0 ∨ v 24 t0 = 1 ∨ v 24 t0 = 2) : Rel N na nt (C_handBack na nt v r t0).1 (C_handBack na nt v r t0).2 (M_leave s (nI t0) 0) := by
  have hk := h.takeM ht0
  rw [h.leave_eq ht0]
  show Rel N na nt (u2 ((C_takeFromHolder na nt v r t0).1) 24 t0 0) (C_takeFromHolder na nt v r t0).2 _
  rw [take_v]
  have hn4 : ¬ v 24 t0 = 4 := by rcases h4 with e | e | e <;> rw [e] <;> decide
  have hs4 : ¬ s 19 t0 = 4 := by rw [(h.tk _ ht0).state]; exact hn4
  refine hk.upT2 (Nat.le_refl _) ht0 (fun j t _ z => ?_) (fun j t z => ?_) (fun _ _ _ => rfl) (MI_state hk.mi (by decide)) (fun a ha e => absurd e (h.free ht0 a ha)) ?_ (fun t ht => ?_)
  · rw [u2_at, if_neg (by omega)]
  · rw [u2_at, if_neg (by omega)]
  · obtain ⟨b1, b2, b3, b4, b5, b6, b7, b8, b9, b10, b11, b12, b13, b14, b15, b16, b17, b18, b19, b20, b21, b22, b23, b24⟩ := hk.tk _ ht0
    have z0 : u2 v 24 t0 0 24 t0 = 0 := u2_same _ _ _ _
    refine ⟨b1, b2, b3, b4, by rw [u2_same, u2_same], b6, b7, b8, b9, b10, b11, b12, ?_, fun _ => b14 hn4, ?_, ?_, Or.inl z0, b18, b19, b20, b21, fun _ => b22 h4, fun e => ?_, b24⟩
    · intro e; rw [z0] at e; exact absurd e (by decide)
    · intro e; rw [z0] at e; exact absurd e (by decide)
    · intro e; rw [z0] at e; exact absurd e (by decide)
    · rw [z0] at e; exact absurd e (by decide)
  · rw [u2_ne1 (by decide), hk.cust t ht]
    refine (M_cust_cg (fun u => ?_) (fun _ _ => by rw [u2_ne1 (by decide)]) (u2_ne1 (by decide)) (by rw [u2_ne1 (by decide)]) _).symm
    rw [u2_at, leaveL_ne (by decide)]
    by_cases e : u = t0
    · rw [if_pos ⟨rfl, e⟩, e]
      exact ⟨fun z => absurd z (by decide), fun z => absurd z hs4⟩
    · rw [if_neg (fun z => e z.2)]
theorem AG_pause (h : Rel N na nt v r s) (p0 : Int32) : AG [2, 3] N na nt (C_pause na nt v r p0) (M_pause s p0) := by
  have h0 := h.thr 0
  unfold C_pause M_pause
  rw [h0.isT]
  by_cases h1 : inR p0 nt = true
  · have hl := vp_lt (inR_iff.mp h1)
    have ep := in_nI (inR_iff.mp h1)
    have g := h.tk _ hl
    rw [if_pos h1, if_pos h1, g.state]
    have hle : v 24 (ix p0) ≤ 1 ↔ v 24 (ix p0) = 0 ∨ v 24 (ix p0) = 1 := by
      rcases g.rng with e | e | e | e | e <;> rw [e] <;> decide
    have key : (v 24 (ix p0) = 0 ∨ v 24 (ix p0) = 1) → AG [2, 3] N na nt (0, (((C_takeFromHolder na nt v r (ix p0)).1) 23 (ix p0)) - (((C_takeFromHolder na nt v r (ix p0)).1) 26 (ix p0)), u2 (u2 ((C_takeFromHolder na nt v r (ix p0)).1) 24 (ix p0) 2) 29 (ix p0) (((C_takeFromHolder na nt v r (ix p0)).1) 0 0), (C_takeFromHolder na nt v r (ix p0)).2) (((M_leave (u2 s 0 0 0) p0 2) 17 (ix p0)) - ((M_leave (u2 s 0 0 0) p0 2) 21 (ix p0)), u2 (M_leave (u2 s 0 0 0) p0 2) 25 (ix p0) ((M_leave (u2 s 0 0 0) p0 2) 0 1)) := by
      intro h4
      have hn4 : ¬ v 24 (ix p0) = 4 := by rcases h4 with e | e <;> rw [e] <;> decide
      have hs4 : ¬ s 19 (ix p0) = 4 := by rw [g.state]; exact hn4
      have hk := (h0.takeM hl).mono
      have e17 : M_leave (u2 s 0 0 0) p0 2 17 = s 17 := by rw [M_leave_fn (by decide) (by decide), u2_ne1 (by decide)]
      have e21 : M_leave (u2 s 0 0 0) p0 2 21 = s 21 := by rw [M_leave_fn (by decide) (by decide), u2_ne1 (by decide)]
      have e01 : M_leave (u2 s 0 0 0) p0 2 0 1 = v 0 0 := by rw [M_leave_fn (by decide) (by decide)]; exact h0.min
      rw [e17, e21, e01, take_v]
      rw [show M_leave (u2 s 0 0 0) p0 2 = u2 (M_leaveL (u2 s 0 0 0) (nI (ix p0)) na) 19 (ix p0) 2 from (congrArg (fun z => M_leave (u2 s 0 0 0) z 2) ep).trans (h0.leave_eq hl 2)]
      refine AG.ok ?_ (by rw [g.eff, g.don]) (hk.upT2 (Nat.le_refl _) hl (fun j t _ z => ?_) (fun j t z => ?_) (fun _ _ _ => rfl) (MI_note (MI_state hk.mi (by decide)) ?_) (fun a ha e => absurd e (h0.free hl a ha)) ?_ (fun t ht => ?_))
      · rw [u2_ne1 (by decide), u2_ne1 (by decide), leaveL_ne (by decide)]; exact u2_00 s 0
      · rw [u2_at, if_neg (by omega), u2_at, if_neg (by omega)]
      · rw [u2_at, if_neg (by omega), u2_at, if_neg (by omega)]
      · rw [u2_same]; decide
      · obtain ⟨b1, b2, b3, b4, b5, b6, b7, b8, b9, b10, b11, b12, b13, b14, b15, b16, b17, b18, b19, b20, b21, b22, b23, b24⟩ := hk.tk _ hl
        have z0 : u2 (u2 v 24 (ix p0) 2) 29 (ix p0) (v 0 0) 24 (ix p0) = 2 := by rw [u2_ne1 (by decide), u2_same]
        refine ⟨b1, b2, b3, b4, ?_, b6, b7, b8, b9, b10, b11, b12, ?_, fun _ => b14 hn4, ?_, ?_, Or.inr (Or.inr (Or.inl z0)), b18, b19, b20, b21, fun _ => b22 (h4.imp id Or.inl), fun e => ?_, b24⟩
        · rw [z0, u2_ne1 (by decide), u2_same]
        · intro e; rw [z0] at e; exact absurd e (by decide)
        · intro _; rw [u2_same, u2_same]
        · intro e; rw [z0] at e; exact absurd e (by decide)
        · rw [z0] at e; exact absurd e (by decide)
      · rw [u2_ne1 (by decide), u2_ne1 (by decide), hk.cust t ht]
        refine (M_cust_cg (fun u => ?_) (fun u hu => ?_) (by rw [u2_ne1 (by decide), u2_ne1 (by decide)]) (by rw [u2_ne1 (by decide), u2_ne1 (by decide)]) _).symm
        · rw [u2_ne1 (by decide), u2_at, leaveL_ne (by decide)]
          by_cases e : u = ix p0
          · rw [if_pos ⟨rfl, e⟩, e]
            exact ⟨fun z => absurd z (by decide), fun z => absurd z hs4⟩
          · rw [if_neg (fun z => e z.2)]
        · rw [leaveL_ne (by decide)] at hu
          have e : ¬ u = ix p0 := fun z => hs4 (by rw [← z]; exact hu)
          rw [u2_at, if_neg (fun z => e z.2), u2_ne1 (by decide)]
    by_cases h2 : v 24 (ix p0) = 0
    · rw [if_pos h2, if_pos (hle.mpr (Or.inl h2))]; exact key (Or.inl h2)
    · rw [if_neg h2]
      by_cases h3 : v 24 (ix p0) = 1
      · rw [if_pos h3, if_pos (hle.mpr (Or.inr h3))]; exact key (Or.inr h3)
      · rw [if_neg h3, if_neg (fun z => (hle.mp z).elim h2 h3)]; exact AG.no (j := 1) h (by decide) rfl
  · rw [if_neg h1, if_neg h1]; exact AG.no (j := 0) h (by decide) rfl
end LEAVE
