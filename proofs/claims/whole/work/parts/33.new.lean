/-! new agents, new tickets -/
section NEWS
variable {N na nt : Nat} {v : S2} {r : R2} {s : S2}
def AGN (hl : List Nat) (N na nt na' nt' : Nat) (v : S2) (r : R2) (c : Nat × Int32 × S2 × R2) (m : Int32 × S2) : Prop := KC hl c.1 (m.2 0 0) ∧ (c.1 = 0 → c.2.1 = m.1 ∧ Rel (N + 1) na' nt' c.2.2.1 c.2.2.2 m.2) ∧ (c.1 ≠ 0 → Rel (N + 1) na nt v r m.2)
theorem AGN.no {hl : List Nat} {c j na' nt' : Nat} (h : Rel N na nt v r s) (hc : c ≠ 0) (hj : hl[j]? = some c) : AGN hl N na nt na' nt' v r (c, 0, v, r) ((M_no (u2 s 0 0 0) (nI (j + 1))).1, (M_no (u2 s 0 0 0) (nI (j + 1))).2) :=
  ⟨Or.inr ⟨hc, j, hj, by show u2 (u2 s 0 0 0) 0 0 (nI (j + 1)) 0 0 = _; rw [u2_00]⟩, fun e => absurd e hc, fun _ => ((h.thr 0).thr _).mono⟩
theorem AGN.ok {hl : List Nat} {x y : Int32} {na' nt' : Nat} {v' : S2} {r' : R2} {s' : S2} (h0 : s' 0 0 = 0) (e : x = y) (hR : Rel (N + 1) na' nt' v' r' s') : AGN hl N na nt na' nt' v r (0, x, v', r') (y, s') := ⟨Or.inl ⟨rfl, h0⟩, fun _ => ⟨e, hR⟩, fun z => absurd rfl z⟩
theorem C_nA_ne {a b : Nat} {p0 p1 p2 p3 : Int32} (h : b ≠ a) (j : Nat) : C_nA v a p0 p1 p2 p3 j b = v j b := by
  unfold C_nA
  split <;> first | exact upd_ne h | rfl
theorem C_nA_j {a j : Nat} {p0 p1 p2 p3 : Int32} (h : j < 10 ∨ 18 ≤ j) : C_nA v a p0 p1 p2 p3 j = v j := by
  unfold C_nA
  split <;> first | (exfalso; omega) | rfl
theorem C_rA_ne {a b : Nat} (h : b ≠ a) (j : Nat) : C_rA r a j b = r j b := by
  unfold C_rA
  split <;> first | exact up_ne h | rfl
theorem C_rA_j {a j : Nat} (h : j ≠ 15) : C_rA r a j = r j := by
  unfold C_rA
  split <;> first | exact absurd rfl h | rfl
theorem C_nT_ne {a b : Nat} {p0 p1 p2 p3 : Int32} (h : b ≠ a) (j : Nat) : C_nT v a p0 p1 p2 p3 j b = v j b := by
  unfold C_nT
  split <;> first | exact upd_ne h | rfl
theorem C_nT_j {a j : Nat} {p0 p1 p2 p3 : Int32} (h : j < 20) : C_nT v a p0 p1 p2 p3 j = v j := by
  unfold C_nT
  split <;> first | (exfalso; omega) | rfl
theorem C_rT_ne {a b : Nat} (h : b ≠ a) (j : Nat) : C_rT r a j b = r j b := by
  unfold C_rT
  split <;> first | exact up_ne h | rfl
theorem C_rT_j {a j : Nat} (h : j < 32) : C_rT r a j = r j := by
  unfold C_rT
  split <;> first | (exfalso; omega) | rfl
theorem Rel.addA (h : Rel N na nt v r s) (hn : na < 6) {p0 p1 p2 p3 : Int32} (hp : 1 ≤ p3.toInt ∧ p3.toInt ≤ 1440) {s' : S2} (hs : ∀ j t, ¬ (7 ≤ j ∧ j ≤ 11 ∧ t = na) → ¬ (j = 0 ∧ t = 6) → s' j t = s j t) (h7 : s' 7 na = p0) (h8 : s' 8 na = p1) (h9 : s' 9 na = p2) (h10 : s' 10 na = p3) (h11 : s' 11 na = -1) (h6 : s' 0 6 = nI (na + 1)) : Rel N (na + 1) nt (C_nA v na p0 p1 p2 p3) (C_rA r na) s' := by
  obtain ⟨a1, a2, a3, a4, a5, a6, a7, a8, a9, a10, a11, a12, a13, a14, a15, a16⟩ := h
  have m0 : ∀ i, C_nA v na p0 p1 p2 p3 0 i = v 0 i := fun i => by rw [C_nA_j (by omega)]
  refine ⟨?_, by rw [hs 0 1 (by omega) (by omega), m0]; exact a2, by rw [m0]; exact a3, by rw [hs 0 2 (by omega) (by omega), m0]; exact a4, by rw [hs 0 3 (by omega) (by omega), m0]; exact a5, by rw [m0, m0]; exact a6, h6, hn, by rw [hs 0 14 (by omega) (by omega)]; exact a9, a10, fun i hi => ?_, fun a ha => ?_, fun t ht => ?_, fun t ht => ?_, fun t h1 h2 => ?_, fun a h1 h2 => ?_⟩
  · obtain ⟨g1, g2, g3, g4, rk, g5⟩ := a1
    refine ⟨⟨na + 1, by omega, h6⟩, by rw [hs 0 14 (by omega) (by omega)]; exact g2, fun t ht => by rw [hs 16 t (by omega) (by omega)]; exact g3 t ht, fun a ha => ?_, rk, fun t ht e => ?_⟩
    · by_cases e : a = na
      · rw [e]; exact Or.inl h11
      · rw [hs 11 a (by omega) (by omega)]; exact g4 a ha
    · rw [hs 19 t (by omega) (by omega)] at e
      rw [hs 25 t (by omega) (by omega)]; exact g5 t ht e
  · rw [hs 4 i (by omega) (by omega), hs 5 i (by omega) (by omega), C_nA_j (by omega), C_nA_j (by omega)]; exact a11 i hi
  · by_cases e : a = na
    · subst e
      obtain ⟨z1, z2⟩ := a16 a (Nat.le_refl _) hn
      refine ⟨upd_self, h8.trans upd_self.symm, h9.trans upd_self.symm, h10.trans upd_self.symm, h7.trans upd_self.symm, ?_, ?_, ?_, ?_, fun t q => ?_⟩
      · rw [hs 12 a (by omega) (by omega), z1]; exact upd_self.symm
      · rw [hs 13 a (by omega) (by omega), z2]; exact upd_self.symm
      · rw [h11, show C_rA r a 15 a = none from up_self]; rfl
      · rw [show C_nA v a p0 p1 p2 p3 13 a = p3 from upd_self]; exact hp
      · rw [show C_rA r a 15 a = none from up_self] at q; cases q
    · have hl : a < na := by omega
      exact ((a12 a hl).cg (fun j _ _ => C_nA_ne e j) (fun j _ _ => hs j a (by omega) (by omega)) (C_rA_ne e 15) (fun t _ => ⟨by rw [C_rA_j (by decide)], by rw [C_nA_j (by omega)]⟩)).wd (Nat.le_refl _)
  · refine ((a13 t ht).cg (Nat.le_refl _) (fun j _ _ => by rw [C_nA_j (by omega)]) (fun j _ => hs j t (by omega) (by omega)) (fun j _ => by rw [C_rA_j (by omega)]) (fun a e => ?_) (by rw [m0]; exact Int.le_refl _)).wd (Nat.le_succ _) (Nat.le_refl _)
    exact C_rA_ne (Nat.ne_of_lt ((a13 t ht).holdb a e).1) 15
  · rw [C_nA_j (by omega), a14 t ht]
    exact (M_cust_cg (fun u => by rw [hs 19 u (by omega) (by omega)]) (fun u _ => hs 25 u (by omega) (by omega)) (funext fun u => hs 18 u (by omega) (by omega)) (hs 0 14 (by omega) (by omega)) _).symm
  · rw [hs 19 t (by omega) (by omega), hs 20 t (by omega) (by omega), hs 21 t (by omega) (by omega), hs 24 t (by omega) (by omega)]; exact a15 t h1 h2
  · rw [hs 12 a (by omega) (by omega), hs 13 a (by omega) (by omega)]; exact a16 a (by omega) h2
theorem AG_addAgent (h : Rel N na nt v r s) (p0 p1 p2 p3 : Int32) : AGN [1, 3] N na nt (na + 1) nt v r (C_addAgent na nt v r p0 p1 p2 p3) (M_addAgent s p0 p1 p2 p3) := by
  have h0 := h.thr 0
  have hA := h.cAb
  obtain ⟨hc, hm⟩ := span_iff (x := p2) (y := p3)
  unfold C_addAgent M_addAgent
  rw [show C_isSetOfSkills p0 = M_isIn p0 0 255 from rfl]
  by_cases h1 : M_isIn p0 0 255 = true
  · rw [if_pos h1, if_pos h1]
    have e127 : M_isIn p1 1 127 = if p1 < 1 then false else if 127 < p1 then false else true := rfl
    rw [e127]
    by_cases c1 : p1 < 1
    · rw [if_pos c1, if_pos c1, if_neg (show ¬ false = true by decide)]; exact AGN.no (j := 0) h (by decide) rfl
    · rw [if_neg c1, if_neg c1]
      by_cases c2 : 127 < p1
      · rw [if_pos c2, if_pos c2, if_neg (show ¬ false = true by decide)]; exact AGN.no (j := 0) h (by decide) rfl
      · rw [if_neg c2, if_neg c2, if_pos (show true = true from rfl)]
        by_cases c3 : C_isSpanOfDay p2 p3 = true
        · have hh := hc.mp c3
          obtain ⟨m1, m2⟩ := hm.mpr hh
          rw [if_pos c3, if_pos m1, if_pos m2, h.cA]
          by_cases c4 : na = 6
          · rw [c4, if_neg (by decide), if_pos (by decide)]; rw [← c4]; exact AGN.no (j := 1) h (by decide) rfl
          · have hn : na < 6 := by omega
            rw [if_pos (show nI na < 6 from nI_lt (b := 6) hn (by decide)), if_neg (show ¬ nI na = 6 from fun q => c4 ((nI_eq (b := 6) (by omega) (by decide)).mp q)), ix_nI (by omega), nI_1, nI_pred]
            refine AGN.ok ?_ rfl (h0.mono.addA hn ⟨by omega, hh.2.2⟩ (fun j t z1 z2 => ?_) ?_ ?_ ?_ ?_ ?_ ?_)
            · rw [u2_at, if_neg (by omega), u2_at, if_neg (by omega), u2_at, if_neg (by omega), u2_at, if_neg (by omega), u2_at, if_neg (by omega), u2_at, if_neg (by omega)]; exact u2_00 s 0
            · rw [u2_at, if_neg (by omega), u2_at, if_neg (by omega), u2_at, if_neg (by omega), u2_at, if_neg (by omega), u2_at, if_neg (by omega), u2_at, if_neg (by omega)]
            · rw [u2_at, if_neg (by omega), u2_at, if_neg (by omega), u2_at, if_neg (by omega), u2_at, if_neg (by omega), u2_at, if_neg (by omega), u2_same]
            · rw [u2_at, if_neg (by omega), u2_at, if_neg (by omega), u2_at, if_neg (by omega), u2_at, if_neg (by omega), u2_same]
            · rw [u2_at, if_neg (by omega), u2_at, if_neg (by omega), u2_at, if_neg (by omega), u2_same]
            · rw [u2_at, if_neg (by omega), u2_at, if_neg (by omega), u2_same]
            · rw [u2_at, if_neg (by omega), u2_same]
            · rw [u2_same]
        · rw [if_neg c3]
          by_cases m1 : M_isIn p2 0 1439 = true
          · rw [if_pos m1, if_neg (fun m2 => c3 (hc.mpr (hm.mp ⟨m1, m2⟩)))]; exact AGN.no (j := 0) h (by decide) rfl
          · rw [if_neg m1]; exact AGN.no (j := 0) h (by decide) rfl
  · rw [if_neg h1, if_neg h1]; exact AGN.no (j := 0) h (by decide) rfl
/-- chains of old tickets do not come to a new one -/
theorem Rel.witNew (h : Rel N na nt v r s) (hn : nt < 20) {s' : S2} (h19 : ∀ t, s' 19 t = 4 ↔ s 19 t = 4) (h25 : ∀ t, s 19 t = 4 → s' 25 t = s 25 t) : ∀ n i, i < nt → M_wit s' (nI nt) n (nI i) = false
  | 0, i, hi => by
    rw [M_wit]
    exact decide_eq_false (fun e => by have := (nI_eq (by omega) (by omega)).mp e; omega)
  | n + 1, i, hi => by
    rw [M_wit, if_neg (fun e => by have := (nI_eq (by omega) (by omega)).mp e; omega), ix_nI (by omega)]
    by_cases h4 : s 19 i = 4
    · rw [if_pos ((h19 i).mpr h4), h25 i h4]
      obtain ⟨u, hu, _, e⟩ := (h.tk i hi).mrg ((h.tk i hi).state ▸ h4)
      rw [e]
      exact h.witNew hn h19 h25 n u hu
    · rw [if_neg (fun q => h4 ((h19 i).mp q))]
theorem Rel.addT (h : Rel N na nt v r s) (hn : nt < 20) {p0 p1 p2 p3 : Int32} (hp0 : vp_in p0 8) (hp1 : vp_in p1 4) (hp2 : 1 ≤ p2.toInt ∧ p2.toInt ≤ 600) {s' : S2} (hs : ∀ j t, ¬ (15 ≤ j ∧ t = nt) → ¬ (j = 0 ∧ t = 14) → s' j t = s j t) (hs2 : ∀ j, j = 19 ∨ j = 20 ∨ j = 21 ∨ j = 24 → s' j nt = s j nt) (h15 : s' 15 nt = p0) (h16 : s' 16 nt = p1) (h17 : s' 17 nt = p2) (h18 : s' 18 nt = p3) (h22 : s' 22 nt = -1) (h23 : s' 23 nt = -1) (h14 : s' 0 14 = nI (nt + 1)) : Rel N na (nt + 1) (C_nT v nt p0 p1 p2 p3) (C_rT r nt) s' := by
  have hh := h
  obtain ⟨a1, a2, a3, a4, a5, a6, a7, a8, a9, a10, a11, a12, a13, a14, a15, a16⟩ := h
  have m0 : ∀ i, C_nT v nt p0 p1 p2 p3 0 i = v 0 i := fun i => by rw [C_nT_j (by omega)]
  obtain ⟨z1, z2, z3, z4⟩ := a15 nt (Nat.le_refl _) hn
  have g19 : s' 19 nt = 0 := by rw [hs2 19 (by omega)]; exact z1
  have e19 : ∀ t, s' 19 t = 4 ↔ s 19 t = 4 := fun t => by
    by_cases e : t = nt
    · rw [e, g19, z1]
    · rw [hs 19 t (by omega) (by omega)]
  have e25 : ∀ t, s 19 t = 4 → s' 25 t = s 25 t := fun t q => by
    by_cases e : t = nt
    · rw [e, z1] at q; exact absurd q (by decide)
    · exact hs 25 t (by omega) (by omega)
  have hcl : ∀ t, M_customersOf s' t = M_custL s' t (nt + 1) := fun t => by
    rw [M_customersOf, h14, ix_nI (by omega)]
  have hco : ∀ t, M_customersOf s t = M_custL s t nt := fun t => by rw [M_customersOf, hh.ixT]
  refine ⟨?_, by rw [hs 0 1 (by omega) (by omega), m0]; exact a2, by rw [m0]; exact a3, by rw [hs 0 2 (by omega) (by omega), m0]; exact a4, by rw [hs 0 3 (by omega) (by omega), m0]; exact a5, by rw [m0, m0]; exact a6, by rw [hs 0 6 (by omega) (by omega)]; exact a7, a8, h14, hn, fun i hi => ?_, fun a ha => ?_, fun t ht => ?_, fun t ht => ?_, fun t h1 h2 => ?_, fun a h1 h2 => ?_⟩
  · obtain ⟨g1, g2, g3, g4, rk, g5⟩ := a1
    refine ⟨by rw [hs 0 6 (by omega) (by omega)]; exact g1, ⟨nt + 1, by omega, h14⟩, fun t ht => ?_, fun a ha => by rw [hs 11 a (by omega) (by omega)]; exact g4 a ha, rk, fun t ht e => ?_⟩
    · by_cases e : t = nt
      · rw [e, h16]; exact hp1
      · rw [hs 16 t (by omega) (by omega)]; exact g3 t ht
    · have e4 := (e19 t).mp e
      rw [e25 t e4]; exact g5 t ht e4
  · rw [hs 4 i (by omega) (by omega), hs 5 i (by omega) (by omega), C_nT_j (by omega), C_nT_j (by omega)]; exact a11 i hi
  · refine ((a12 a ha).cg (fun j _ _ => by rw [C_nT_j (by omega)]) (fun j _ _ => hs j a (by omega) (by omega)) (by rw [C_rT_j (by omega)]) (fun t e => ?_)).wd (Nat.le_succ _)
    have hne : t ≠ nt := Nat.ne_of_lt ((a12 a ha).heldb t e).1
    exact ⟨C_rT_ne hne 32, C_nT_ne hne 24⟩
  · by_cases e : t = nt
    · subst e
      have w : ∀ x : Int32, upd (v 24) t x t = x := fun x => upd_self
      have z24 : C_nT v t p0 p1 p2 p3 24 t = 0 := upd_self
      have z25 : C_nT v t p0 p1 p2 p3 25 t = 0 := upd_self
      have z0 : (0 : Int32).toInt = 0 := by decide
      have hmn := vp_in_iff.mp a3
      refine ⟨upd_self, h15.trans upd_self.symm, h16.trans upd_self.symm, h17.trans upd_self.symm, g19.trans upd_self.symm, ?_, ?_, h23.trans upd_self.symm, ?_, ?_, fun a q => ?_, fun a q => ?_, fun q => ?_, fun _ => up_self, fun q => ?_, fun q => ?_, Or.inl z24, ?_, ?_, ?_, Or.inl upd_self, fun _ => ?_, fun q => ?_, ?_⟩
      · rw [hs2 20 (by omega), z2]; exact upd_self.symm
      · rw [hs2 21 (by omega), z3]; exact upd_self.symm
      · rw [hs2 24 (by omega), z4]; exact upd_self.symm
      · rw [h22, show C_rT r t 33 t = none from up_self]; rfl
      · rw [show C_rT r t 33 t = none from up_self] at q; cases q
      · rw [show C_rT r t 32 t = none from up_self] at q; cases q
      · rw [z24] at q; exact absurd q (by decide)
      · rw [z24] at q; exact absurd q (by decide)
      · rw [z24] at q; exact absurd q (by decide)
      · rw [show C_nT v t p0 p1 p2 p3 22 t = p1 from upd_self]; exact hp1
      · rw [show C_nT v t p0 p1 p2 p3 21 t = p0 from upd_self]; exact hp0
      · rw [z25, m0, z0]; omega
      · rw [show C_nT v t p0 p1 p2 p3 26 t = 0 from upd_self, show C_nT v t p0 p1 p2 p3 23 t = p2 from upd_self, Int32.lt_iff_toInt_lt, z0]; omega
      · rw [z24] at q; exact absurd q (by decide)
      · rw [show C_nT v t p0 p1 p2 p3 23 t = p2 from upd_self]; omega
    · have hl : t < nt := by omega
      exact ((a13 t hl).cg (Nat.le_refl _) (fun j _ _ => C_nT_ne e j) (fun j _ => hs j t (by omega) (by omega)) (fun j _ => C_rT_ne e j) (fun a _ => by rw [C_rT_j (by omega)]) (by rw [m0]; exact Int.le_refl _)).wd (Nat.le_refl _) (Nat.le_succ _)
  · rw [hcl, M_custL, M_custLB, M_isWithin]
    by_cases e : t = nt
    · subst e
      have hz : ∀ n, n ≤ t → M_custL s' (nI t) n = 0 := fun n => by
        induction n with
        | zero => exact fun _ => rfl
        | succ n ih =>
          intro q
          rw [M_custL, M_custLB, M_isWithin, hh.witNew hn e19 e25 20 n (by omega), if_neg (by decide)]
          exact ih (by omega)
      rw [M_wit_eq, if_pos rfl, hz t (Nat.le_refl _), h18, Int32.zero_or]
      exact upd_self
    · have hl : t < nt := by omega
      rw [M_wit_stop (fun q => e ((nI_eq (by omega) (by omega)).mp q).symm) (by rw [ix_nI (by omega), g19]; decide), if_neg (show ¬ false = true by decide), C_nT_ne e 31, a14 t hl, hco]
      have hz : ∀ n, n ≤ nt → M_custL s (nI t) n = M_custL s' (nI t) n := fun n => by
        induction n with
        | zero => exact fun _ => rfl
        | succ n ih =>
          intro q
          rw [M_custL, M_custL, M_custLB, M_custLB, M_isWithin, M_isWithin, M_wit_cg e19 e25, ih (by omega), hs 18 n (by omega) (by omega)]
      exact hz nt (Nat.le_refl _)
  · rw [hs 19 t (by omega) (by omega), hs 20 t (by omega) (by omega), hs 21 t (by omega) (by omega), hs 24 t (by omega) (by omega)]; exact a15 t (by omega) h2
  · rw [hs 12 a (by omega) (by omega), hs 13 a (by omega) (by omega)]; exact a16 a h1 h2
theorem AG_open (h : Rel N na nt v r s) (p0 p1 p2 p3 : Int32) : AGN [1, 3] N na nt na (nt + 1) v r (C_open na nt v r p0 p1 p2 p3) (M_open s p0 p1 p2 p3) := by
  have h0 := h.thr 0
  have hT := h.cTb
  have z0 : (0 : Int32).toInt = 0 := by decide
  have z1 : (1 : Int32).toInt = 1 := by decide
  have z600 : (600 : Int32).toInt = 600 := by decide
  have hi0 : M_isIn p0 0 7 = true ↔ ¬ p0 < 0 ∧ p0 < 8 := isIn_lt (n := 7) (by decide)
  have hi3 : M_isIn p3 0 9 = true ↔ ¬ p3 < 0 ∧ p3 < 10 := isIn_lt (n := 9) (by decide)
  have h8 : 8 ≤ p0 ↔ ¬ p0 < 8 := by rw [Int32.le_iff_toInt_le, Int32.lt_iff_toInt_lt]; omega
  unfold C_open M_open
  rw [isPrio_iff, isIn3]
  by_cases c0 : p0 < 0
  · rw [if_pos c0, if_neg (fun q => (hi0.mp q).1 c0)]; exact AGN.no (j := 0) h (by decide) rfl
  · rw [if_neg c0]
    by_cases c1 : p0 < 8
    · rw [if_neg (fun q => h8.mp q c1), if_pos (hi0.mpr ⟨c0, c1⟩)]
      by_cases c2 : inR p1 4 = true
      · rw [if_pos c2, if_pos c2, show M_isIn p2 1 600 = if p2 < 1 then false else if 600 < p2 then false else true from rfl]
        by_cases c3 : p2 < 1
        · rw [if_pos c3, if_pos c3, if_neg (show ¬ false = true by decide)]; exact AGN.no (j := 0) h (by decide) rfl
        · rw [if_neg c3, if_neg c3]
          by_cases c4 : 600 < p2
          · rw [if_pos c4, if_pos c4, if_neg (show ¬ false = true by decide)]; exact AGN.no (j := 0) h (by decide) rfl
          · rw [if_neg c4, if_neg c4, if_pos (show true = true from rfl)]
            by_cases c5 : p3 < 0
            · rw [if_pos c5, if_neg (fun q => (hi3.mp q).1 c5)]; exact AGN.no (j := 0) h (by decide) rfl
            · rw [if_neg c5]
              by_cases c6 : p3 < 10
              · rw [if_pos c6, if_pos (hi3.mpr ⟨c5, c6⟩), h.cT]
                by_cases c7 : nt = 20
                · rw [c7, if_neg (by decide), if_pos (by decide)]; rw [← c7]; exact AGN.no (j := 1) h (by decide) rfl
                · have hn : nt < 20 := by omega
                  rw [if_pos (show nI nt < 20 from nI_lt (b := 20) hn (by decide)), if_neg (show ¬ nI nt = 20 from fun q => c7 ((nI_eq (b := 20) (by omega) (by decide)).mp q)), ix_nI (by omega), nI_1, nI_pred]
                  have hp0 : vp_in p0 8 := vp_in_iff.mpr (by
                    have z8 : (8 : Int32).toInt = 8 := by decide
                    rw [Int32.lt_iff_toInt_lt] at c0 c1
                    omega)
                  refine AGN.ok ?_ rfl (h0.mono.addT hn hp0 (inR_iff.mp c2) ?_ (fun j t q1 q2 => ?_) (fun j q => ?_) ?_ ?_ ?_ ?_ ?_ ?_ ?_)
                  · rw [u2_at, if_neg (by omega), u2_at, if_neg (by omega), u2_at, if_neg (by omega), u2_at, if_neg (by omega), u2_at, if_neg (by omega), u2_at, if_neg (by omega), u2_at, if_neg (by omega)]; exact u2_00 s 0
                  · rw [Int32.lt_iff_toInt_lt] at c3 c4
                    omega
                  · rw [u2_at, if_neg (by omega), u2_at, if_neg (by omega), u2_at, if_neg (by omega), u2_at, if_neg (by omega), u2_at, if_neg (by omega), u2_at, if_neg (by omega), u2_at, if_neg (by omega)]
                  · rw [u2_at, if_neg (by omega), u2_at, if_neg (by omega), u2_at, if_neg (by omega), u2_at, if_neg (by omega), u2_at, if_neg (by omega), u2_at, if_neg (by omega), u2_at, if_neg (by omega)]
                  · rw [u2_at, if_neg (by omega), u2_at, if_neg (by omega), u2_at, if_neg (by omega), u2_at, if_neg (by omega), u2_at, if_neg (by omega), u2_at, if_neg (by omega), u2_same]
                  · rw [u2_at, if_neg (by omega), u2_at, if_neg (by omega), u2_at, if_neg (by omega), u2_at, if_neg (by omega), u2_at, if_neg (by omega), u2_same]
                  · rw [u2_at, if_neg (by omega), u2_at, if_neg (by omega), u2_at, if_neg (by omega), u2_at, if_neg (by omega), u2_same]
                  · rw [u2_at, if_neg (by omega), u2_at, if_neg (by omega), u2_at, if_neg (by omega), u2_same]
                  · rw [u2_at, if_neg (by omega), u2_at, if_neg (by omega), u2_same]
                  · rw [u2_at, if_neg (by omega), u2_same]
                  · rw [u2_same]
              · rw [if_neg c6, if_neg (fun q => c6 (hi3.mp q).2)]; exact AGN.no (j := 0) h (by decide) rfl
      · rw [if_neg c2, if_neg c2]; exact AGN.no (j := 0) h (by decide) rfl
    · rw [if_pos (h8.mpr c1), if_neg (fun q => c1 (hi0.mp q).2)]; exact AGN.no (j := 0) h (by decide) rfl
end NEWS
