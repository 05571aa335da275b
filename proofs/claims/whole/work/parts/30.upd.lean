/-! calls that change one thing -/
section UPD
variable {N na nt : Nat} {v : S2} {r : R2} {s : S2}
theorem MI_pr {s : S2} {i : Nat} {x : Int32} (hx : vp_in x 4) (h : MI s) : MI (u2 s 16 i x) := by
  obtain ⟨h1, h2, h3, h4, rk, h5⟩ := h
  refine ⟨?_, ?_, fun t ht => ?_, fun a ha => ?_, rk, fun t ht hs => ?_⟩
  · rw [u2_ne1 (by decide)]; exact h1
  · rw [u2_ne1 (by decide)]; exact h2
  · rw [u2_at]
    split
    · exact hx
    · exact h3 t ht
  · rw [u2_ne1 (by decide)]; exact h4 a ha
  · rw [u2_ne1 (by decide)] at hs
    rw [u2_ne1 (by decide)]
    exact h5 t ht hs
theorem AG.ok {α : Type} {hl : List Nat} {x y : α} {na' nt' : Nat} {v' : S2} {r' : R2} {s' : S2} (h0 : s' 0 0 = 0) (e : x = y) (hR : Rel (N + 1) na' nt' v' r' s') : AG hl N na' nt' (0, x, v', r') (y, s') := ⟨Or.inl ⟨rfl, h0⟩, fun _ => e, hR⟩
theorem Rel.upT2 {N' : Nat} {v' : S2} {r' : R2} {s' : S2} (h : Rel N na nt v r s) (hN : N ≤ N') {t0 : Nat} (ht0 : t0 < nt) (hv : ∀ j t, ¬ j = 31 → ¬ (20 ≤ j ∧ t = t0) → v' j t = v j t) (hs : ∀ j t, ¬ (15 ≤ j ∧ t = t0) → s' j t = s j t) (hr : ∀ j t, ¬ (33 ≤ j ∧ t = t0) → r' j t = r j t) (hMI : MI s') (h24 : ∀ a, a < na → r 15 a = some t0 → v' 24 t0 = 1) (htk : TkR N' na nt v' r' s' t0) (hcu : ∀ t, t < nt → v' 31 t = M_customersOf s' (nI t)) : Rel N' na nt v' r' s' := by
  have hm : v' 0 0 = v 0 0 := hv 0 0 (by decide) (by omega)
  obtain ⟨a1, a2, a3, a4, a5, a6, a7, a8, a9, a10, a11, a12, a13, a14, a15, a16⟩ := h
  refine ⟨hMI, ?_, ?_, ?_, ?_, ?_, ?_, a8, ?_, a10, fun i hi => ?_, fun a ha => ?_, fun t ht => ?_, hcu, fun t h1 h2 => ?_, fun a h1 h2 => ?_⟩
  · rw [hs 0 1 (by omega), hm]; exact a2
  · rw [hm]; exact a3
  · rw [hs 0 2 (by omega), hv 0 1 (by decide) (by omega)]; exact a4
  · rw [hs 0 3 (by omega), hv 0 2 (by decide) (by omega)]; exact a5
  · rw [hv 0 1 (by decide) (by omega), hv 0 2 (by decide) (by omega)]; exact a6
  · rw [hs 0 6 (by omega)]; exact a7
  · rw [hs 0 14 (by omega)]; exact a9
  · rw [hs 4 i (by omega), hs 5 i (by omega), hv 1 i (by decide) (by omega), hv 2 i (by decide) (by omega)]; exact a11 i hi
  · refine (a12 a ha).cg (fun j h1 h2 => hv j a (by omega) (by omega)) (fun j h1 h2 => hs j a (by omega)) (hr 15 a (by omega)) (fun t e => ⟨hr 32 t (by omega), ?_⟩)
    by_cases e0 : t = t0
    · subst e0
      have e1 := ((a12 a ha).heldb t e).2.2
      rw [h24 a ha e, e1]
    · exact hv 24 t (by decide) (by omega)
  · by_cases e0 : t = t0
    · subst e0; exact htk
    · exact (a13 t ht).cg hN (fun j h1 h2 => hv j t (by omega) (by omega)) (fun j h1 => hs j t (by omega)) (fun j h1 => hr j t (by omega)) (fun a _ => hr 15 a (by omega)) (by rw [hm]; exact Int.le_refl _)
  · rw [hs 19 t (by omega), hs 20 t (by omega), hs 21 t (by omega), hs 24 t (by omega)]; exact a15 t h1 h2
  · rw [hs 12 a (by omega), hs 13 a (by omega)]; exact a16 a h1 h2
theorem Rel.upT {N' : Nat} {v' : S2} {r' : R2} {s' : S2} (h : Rel N na nt v r s) (hN : N ≤ N') {t0 : Nat} (ht0 : t0 < nt) (hv : ∀ j t, ¬ (20 ≤ j ∧ t = t0) → v' j t = v j t) (hs : ∀ j t, ¬ (15 ≤ j ∧ t = t0) → s' j t = s j t) (hr : ∀ j t, ¬ (33 ≤ j ∧ t = t0) → r' j t = r j t) (hMI : MI s') (h24 : v 24 t0 = 1 → v' 24 t0 = 1) (htk : TkR N' na nt v' r' s' t0) (hcu : ∀ t, t < nt → v' 31 t = M_customersOf s' (nI t)) : Rel N' na nt v' r' s' :=
  h.upT2 hN ht0 (fun j t _ => hv j t) hs hr hMI (fun a ha e => h24 ((h.ag a ha).heldb _ e).2.2) htk hcu
theorem isPrio_iff {x : Int32} : C_isPriority x = inR x 4 := by
  have e0 : (0 : Int32).toInt = 0 := by decide
  have e4 : (4 : Int32).toInt = 4 := by decide
  unfold C_isPriority
  by_cases h1 : x < 0
  · rw [if_pos h1]
    exact (Bool.eq_false_iff.mpr (not_in0 h1)).symm
  · rw [if_neg h1]
    by_cases h2 : 4 ≤ x
    · rw [if_pos h2]
      exact (Bool.eq_false_iff.mpr (fun z => by
        have := (vp_in_iff.mp (inR_iff.mp z)).2
        rw [Int32.le_iff_toInt_le, e4] at h2
        omega)).symm
    · rw [if_neg h2]
      rw [Int32.le_iff_toInt_le, e4] at h2
      rw [Int32.lt_iff_toInt_lt, e0] at h1
      exact (inR_iff.mpr (vp_in_iff.mpr ⟨by omega, by omega⟩)).symm
theorem isIn3 {x : Int32} : M_isIn x 0 3 = inR x 4 := in_nm1 (n := 4) (by decide)
theorem AG_setPriority (h : Rel N na nt v r s) (p0 p1 : Int32) : AG [2, 1, 3] N na nt (C_setPriority na nt v r p0 p1) (M_setPriority s p0 p1) := by
  have h0 := h.thr 0
  unfold C_setPriority M_setPriority
  rw [h0.isT, isPrio_iff, isIn3]
  by_cases h1 : inR p0 nt = true
  · have hl := vp_lt (inR_iff.mp h1)
    have g := h0.tk _ hl
    rw [if_pos h1, if_pos h1]
    by_cases h2 : inR p1 4 = true
    · rw [if_pos h2, if_pos h2, (h.tk _ hl).state]
      by_cases h3 : v 24 (ix p0) = 4
      · rw [if_pos h3, if_pos h3]; exact AG.no (j := 2) h (by decide) rfl
      · rw [if_neg h3, if_neg h3]
        refine AG.ok (by rw [u2_ne1 (by decide)]; exact u2_00 s 0) (h.tk _ hl).prio.symm (h0.mono.upT (Nat.le_refl _) hl (fun j t z => ?_) (fun j t z => ?_) (fun _ _ _ => rfl) (MI_pr (inR_iff.mp h2) h0.mi) (fun e => ?_) ?_ (fun t ht => ?_))
        · rw [u2_at, if_neg (by omega)]
        · rw [u2_at, if_neg (by omega)]
        · rw [u2_ne1 (by decide)]; exact e
        · obtain ⟨b1, b2, b3, b4, b5, b6, b7, b8, b9, b10, b11, b12, b13, b14, b15, b16, b17, b18, b19, b20, b21, b22, b23, b24⟩ := h0.mono.tk _ hl
          exact ⟨b1, b2, by rw [u2_same, u2_same], b4, b5, b6, b7, b8, b9, b10, b11, b12, b13, b14, b15, b16, b17, by rw [u2_same]; exact inR_iff.mp h2, b19, b20, b21, b22, b23, b24⟩
        · rw [u2_ne1 (by decide), h0.cust t ht]
          exact (M_cust_cg (fun _ => by rw [u2_ne1 (by decide)]) (fun _ _ => by rw [u2_ne1 (by decide)]) (u2_ne1 (by decide)) (by rw [u2_ne1 (by decide)]) _).symm
    · rw [if_neg h2, if_neg h2]; exact AG.no (j := 1) h (by decide) rfl
  · rw [if_neg h1, if_neg h1]; exact AG.no (j := 0) h (by decide) rfl
theorem AG_resume (h : Rel N na nt v r s) (p0 : Int32) : AG [2, 3] N na nt (C_resume na nt v r p0) (M_resume s p0) := by
  have h0 := h.thr 0
  unfold C_resume M_resume
  rw [h0.isT]
  by_cases h1 : inR p0 nt = true
  · have hl := vp_lt (inR_iff.mp h1)
    have hT := h.cTb
    rw [if_pos h1, if_pos h1, (h.tk _ hl).state]
    by_cases h3 : v 24 (ix p0) = 2
    · rw [if_pos h3, if_pos h3]
      have hn4 : ¬ s 19 (ix p0) = 4 := by rw [(h.tk _ hl).state, h3]; decide
      refine AG.ok (by rw [u2_ne1 (by decide)]; exact u2_00 s 0) (by rw [h.min, (h.tk _ hl).paus h3]) (h0.mono.upT (Nat.le_refl _) hl (fun j t z => ?_) (fun j t z => ?_) (fun _ _ _ => rfl) (MI_state h0.mi (by decide)) (fun e => ?_) ?_ (fun t ht => ?_))
      · rw [u2_at, if_neg (by omega)]
      · rw [u2_at, if_neg (by omega)]
      · rw [h3] at e; exact absurd e (by decide)
      · obtain ⟨b1, b2, b3, b4, b5, b6, b7, b8, b9, b10, b11, b12, b13, b14, b15, b16, b17, b18, b19, b20, b21, b22, b23, b24⟩ := h0.mono.tk _ hl
        have z0 : u2 v 24 (ix p0) 0 24 (ix p0) = 0 := u2_same _ _ _ _
        refine ⟨b1, b2, b3, b4, by rw [u2_same, u2_same], b6, b7, b8, b9, b10, b11, b12, ?_, ?_, ?_, ?_, Or.inl z0, b18, b19, b20, b21, fun _ => b22 (Or.inr (Or.inr h3)), fun e => ?_, b24⟩
        · intro e; rw [z0] at e; exact absurd e (by decide)
        · intro _; exact b14 (by rw [h3]; decide)
        · intro e; rw [z0] at e; exact absurd e (by decide)
        · intro e; rw [z0] at e; exact absurd e (by decide)
        · rw [z0] at e; exact absurd e (by decide)
      · rw [u2_ne1 (by decide), h0.cust t ht]
        refine (M_cust_cg (fun u => ?_) (fun _ _ => by rw [u2_ne1 (by decide)]) (u2_ne1 (by decide)) (by rw [u2_ne1 (by decide)]) _).symm
        rw [u2_at]
        by_cases e : u = ix p0
        · rw [if_pos ⟨rfl, e⟩, e]
          exact ⟨fun z => absurd z (by decide), fun z => absurd z hn4⟩
        · rw [if_neg (fun z => e z.2)]
    · rw [if_neg h3, if_neg h3]; exact AG.no (j := 1) h (by decide) rfl
  · rw [if_neg h1, if_neg h1]; exact AG.no (j := 0) h (by decide) rfl
theorem AG_reopen (h : Rel N na nt v r s) (hN : N ≤ 1000) (p0 p1 : Int32) : AG [2, 1, 3] N na nt (C_reopen na nt v r p0 p1) (M_reopen s p0 p1) := by
  have h0 := h.thr 0
  have e1 : (1 : Int32).toInt = 1 := by decide
  have e300 : (300 : Int32).toInt = 300 := by decide
  have e301 : (301 : Int32).toInt = 301 := by decide
  have hi : M_isIn p1 1 300 = true ↔ ¬ p1 < 1 ∧ p1 < 301 := isIn_lt (n := 300) (by decide)
  have h300 : p1 ≤ 300 ↔ p1 < 301 := by
    rw [Int32.le_iff_toInt_le, Int32.lt_iff_toInt_lt, e300, e301]; omega
  unfold C_reopen M_reopen
  rw [h0.isT]
  by_cases h1 : inR p0 nt = true
  · have hl := vp_lt (inR_iff.mp h1)
    rw [if_pos h1, if_pos h1, (h.tk _ hl).state]
    by_cases h2 : M_isIn p1 1 300 = true
    · obtain ⟨z1, z2⟩ := hi.mp h2
      rw [if_neg z1, if_pos (h300.mpr z2), if_pos h2]
      by_cases h3 : v 24 (ix p0) = 3
      · rw [if_pos h3, if_pos h3, h.min, (h.tk _ hl).solv h3]
        by_cases h4 : v 0 0 - v 30 (ix p0) < 7200
        · rw [if_pos h4, if_pos h4]
          have g := h.tk _ hl
          have hn4 : ¬ s 19 (ix p0) = 4 := by rw [g.state, h3]; decide
          have hp : 1 ≤ p1.toInt ∧ p1.toInt ≤ 300 := by
            rw [Int32.lt_iff_toInt_lt, e1] at z1
            rw [Int32.lt_iff_toInt_lt, e301] at z2
            omega
          have hb := g.effb
          have hsum : (v 23 (ix p0) + p1).toInt = (v 23 (ix p0)).toInt + p1.toInt := by
            rw [Int32.toInt_add]
            have := Int32.minValue_le_toInt (v 23 (ix p0))
            have e9 : Int32.minValue.toInt = -2147483648 := by decide
            rw [e9] at this
            exact Int.bmod_eq_of_le (by omega) (by omega)
          refine AG.ok (by rw [u2_ne1 (by decide), u2_ne1 (by decide), u2_ne1 (by decide)]; exact u2_00 s 0) ?_ (h0.upT (Nat.le_succ N) hl (fun j t z => ?_) (fun j t z => ?_) (fun _ _ _ => rfl) (MI_u2 (by decide) (MI_u2 (by decide) (MI_state h0.mi (by decide)))) (fun e => ?_) ?_ (fun t ht => ?_))
          · rw [u2_same, u2_same, g.eff]
          · rw [u2_at, if_neg (by omega), u2_at, if_neg (by omega), u2_at, if_neg (by omega)]
          · rw [u2_at, if_neg (by omega), u2_at, if_neg (by omega), u2_at, if_neg (by omega)]
          · rw [h3] at e; exact absurd e (by decide)
          · obtain ⟨b1, b2, b3, b4, b5, b6, b7, b8, b9, b10, b11, b12, b13, b14, b15, b16, b17, b18, b19, b20, b21, b22, b23, b24⟩ := h0.tk _ hl
            have z0 : u2 (u2 (u2 v 24 (ix p0) 0) 23 (ix p0) (v 23 (ix p0) + p1)) 28 (ix p0) (v 28 (ix p0) + 1) 24 (ix p0) = 0 := by
              rw [u2_ne1 (by decide), u2_ne1 (by decide), u2_same]
            have z23 : u2 (u2 (u2 v 24 (ix p0) 0) 23 (ix p0) (v 23 (ix p0) + p1)) 28 (ix p0) (v 28 (ix p0) + 1) 23 (ix p0) = v 23 (ix p0) + p1 := by
              rw [u2_ne1 (by decide), u2_same]
            refine ⟨b1, b2, b3, ?_, ?_, b6, b7, b8, ?_, b10, b11, b12, ?_, ?_, ?_, ?_, Or.inl z0, b18, b19, b20, b21, fun _ => ?_, fun e => ?_, ?_⟩
            · rw [z23, u2_ne1 (by decide), u2_same, g.eff]
            · rw [z0, u2_ne1 (by decide), u2_ne1 (by decide), u2_same]
            · rw [u2_same, u2_same, g.reop]
            · intro e; rw [z0] at e; exact absurd e (by decide)
            · intro _; exact b14 (by rw [h3]; decide)
            · intro e; rw [z0] at e; exact absurd e (by decide)
            · intro e; rw [z0] at e; exact absurd e (by decide)
            · rw [z23]
              show v 26 (ix p0) < _
              rw [b23 h3, Int32.lt_iff_toInt_lt, hsum]
              omega
            · rw [z0] at e; exact absurd e (by decide)
            · rw [z23, hsum]; omega
          · rw [u2_ne1 (by decide), u2_ne1 (by decide), u2_ne1 (by decide), h0.cust t ht]
            refine (M_cust_cg (fun u => ?_) (fun _ _ => by rw [u2_ne1 (by decide), u2_ne1 (by decide), u2_ne1 (by decide)]) (by rw [u2_ne1 (by decide), u2_ne1 (by decide), u2_ne1 (by decide)]) (by rw [u2_ne1 (by decide), u2_ne1 (by decide), u2_ne1 (by decide)]) _).symm
            rw [u2_ne1 (by decide), u2_ne1 (by decide), u2_at]
            by_cases e : u = ix p0
            · rw [if_pos ⟨rfl, e⟩, e]
              exact ⟨fun z => absurd z (by decide), fun z => absurd z hn4⟩
            · rw [if_neg (fun z => e z.2)]
        · rw [if_neg h4, if_neg h4]; exact AG.no (j := 2) h (by decide) rfl
      · rw [if_neg h3, if_neg h3]; exact AG.no (j := 2) h (by decide) rfl
    · rw [if_neg h2]
      by_cases z1 : p1 < 1
      · rw [if_pos z1]; exact AG.no (j := 1) h (by decide) rfl
      · rw [if_neg z1, if_neg (fun z2 => h2 (hi.mpr ⟨z1, h300.mp z2⟩))]; exact AG.no (j := 1) h (by decide) rfl
  · rw [if_neg h1, if_neg h1]; exact AG.no (j := 0) h (by decide) rfl
end UPD
