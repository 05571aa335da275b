/-! hours, targets, skills; new agents, new tickets; what is lacking -/
section MORE
variable {N na nt : Nat} {v : S2} {r : R2} {s : S2}
theorem AgR.wd {na' nt' a : Nat} (h : AgR na nt v r s a) (hn : nt ≤ nt') : AgR na' nt' v r s a := by
  obtain ⟨b1, b2, b3, b4, b5, b6, b7, b8, b9, b10⟩ := h
  exact ⟨b1, b2, b3, b4, b5, b6, b7, b8, b9, fun t e => ⟨Nat.lt_of_lt_of_le (b10 t e).1 hn, (b10 t e).2⟩⟩
theorem TkR.wd {na' nt' t : Nat} (h : TkR N na nt v r s t) (ha : na ≤ na') (hn : nt ≤ nt') : TkR N na' nt' v r s t := by
  obtain ⟨b1, b2, b3, b4, b5, b6, b7, b8, b9, b10, b11, b12, b13, b14, b15, b16, b17, b18, b19, b20, b21, b22, b23, b24⟩ := h
  exact ⟨b1, b2, b3, b4, b5, b6, b7, b8, b9, b10, fun a e => Nat.lt_of_lt_of_le (b11 a e) ha, fun a e => ⟨Nat.lt_of_lt_of_le (b12 a e).1 ha, (b12 a e).2⟩, fun e => by
    obtain ⟨u, h1, h2⟩ := b13 e
    exact ⟨u, Nat.lt_of_lt_of_le h1 hn, h2⟩, b14, b15, b16, b17, b18, b19, b20, b21, b22, b23, b24⟩
theorem span_iff {x y : Int32} : (C_isSpanOfDay x y = true ↔ 0 ≤ x.toInt ∧ x.toInt < y.toInt ∧ y.toInt ≤ 1440) ∧ (M_isIn x 0 1439 = true ∧ M_isIn y (x + 1) 1440 = true ↔ 0 ≤ x.toInt ∧ x.toInt < y.toInt ∧ y.toInt ≤ 1440) := by
  have e0 : (0 : Int32).toInt = 0 := by decide
  have e1 : (1439 : Int32).toInt = 1439 := by decide
  have e2 : (1440 : Int32).toInt = 1440 := by decide
  have e3 : (1 : Int32).toInt = 1 := by decide
  constructor
  · unfold C_isSpanOfDay
    by_cases h1 : x < 0
    · rw [if_pos h1]
      rw [Int32.lt_iff_toInt_lt, e0] at h1
      exact ⟨fun z => (by cases z), fun z => absurd z.1 (by omega)⟩
    · rw [if_neg h1]
      rw [Int32.lt_iff_toInt_lt, e0] at h1
      by_cases h2 : 1440 ≤ x
      · rw [if_pos h2]
        rw [Int32.le_iff_toInt_le, e2] at h2
        exact ⟨fun z => (by cases z), fun z => absurd z.2 (by omega)⟩
      · rw [if_neg h2]
        by_cases h3 : y ≤ x
        · rw [if_pos h3]
          rw [Int32.le_iff_toInt_le] at h3
          exact ⟨fun z => (by cases z), fun z => absurd z.2 (by omega)⟩
        · rw [if_neg h3]
          rw [Int32.le_iff_toInt_le] at h3
          by_cases h4 : 1440 < y
          · rw [if_pos h4]
            rw [Int32.lt_iff_toInt_lt, e2] at h4
            exact ⟨fun z => (by cases z), fun z => absurd z.2 (by omega)⟩
          · rw [if_neg h4]
            rw [Int32.lt_iff_toInt_lt, e2] at h4
            exact ⟨fun _ => ⟨by omega, by omega, by omega⟩, fun _ => rfl⟩
  · rw [isIn_iff, isIn_iff, Int32.le_iff_toInt_le, Int32.le_iff_toInt_le, Int32.le_iff_toInt_le, Int32.le_iff_toInt_le, e0, e1, e2]
    have hs : 0 ≤ x.toInt → x.toInt ≤ 1439 → (x + 1).toInt = x.toInt + 1 := fun a b => by
      rw [Int32.toInt_add, e3]
      exact Int.bmod_eq_of_le (by omega) (by omega)
    constructor
    · rintro ⟨⟨a, b⟩, c, d⟩
      rw [hs a b] at c
      omega
    · rintro ⟨a, b, c⟩
      refine ⟨⟨a, by omega⟩, ?_, c⟩
      rw [hs a (by omega)]
      omega
theorem Rel.hrsU (h : Rel N na nt v r s) {x y : Int32} (hh : 0 ≤ x.toInt ∧ x.toInt < y.toInt ∧ y.toInt ≤ 1440) : Rel N na nt (u2 (u2 v 0 1 x) 0 2 y) r (u2 (u2 s 0 2 x) 0 3 y) := by
  obtain ⟨a1, a2, a3, a4, a5, a6, a7, a8, a9, a10, a11, a12, a13, a14, a15, a16⟩ := h
  have ev : ∀ j t, ¬ (j = 0 ∧ (t = 1 ∨ t = 2)) → u2 (u2 v 0 1 x) 0 2 y j t = v j t := fun j t z => by
    rw [u2_at, if_neg (by omega), u2_at, if_neg (by omega)]
  have es : ∀ j t, ¬ (j = 0 ∧ (t = 2 ∨ t = 3)) → u2 (u2 s 0 2 x) 0 3 y j t = s j t := fun j t z => by
    rw [u2_at, if_neg (by omega), u2_at, if_neg (by omega)]
  have m0 : u2 (u2 v 0 1 x) 0 2 y 0 0 = v 0 0 := ev 0 0 (by omega)
  have v1 : u2 (u2 v 0 1 x) 0 2 y 0 1 = x := by rw [u2_at, if_neg (by omega), u2_same]
  have v2 : u2 (u2 v 0 1 x) 0 2 y 0 2 = y := u2_same _ _ _ _
  refine ⟨MI_u0 (by decide) (MI_u0 (by decide) a1), by rw [es 0 1 (by omega), m0]; exact a2, by rw [m0]; exact a3, by rw [v1, u2_at, if_neg (by omega), u2_same], by rw [v2, u2_same], by rw [v1, v2]; exact hh, by rw [es 0 6 (by omega)]; exact a7, a8, by rw [es 0 14 (by omega)]; exact a9, a10, fun i hi => ?_, fun a ha => ?_, fun t ht => ?_, fun t ht => ?_, fun t h1 h2 => ?_, fun a h1 h2 => ?_⟩
  · rw [es 4 i (by omega), es 5 i (by omega), ev 1 i (by omega), ev 2 i (by omega)]; exact a11 i hi
  · exact (a12 a ha).cg (fun j _ _ => ev j a (by omega)) (fun j _ _ => es j a (by omega)) rfl (fun t _ => ⟨rfl, ev 24 t (by omega)⟩)
  · exact (a13 t ht).cg (Nat.le_refl _) (fun j _ _ => ev j t (by omega)) (fun j _ => es j t (by omega)) (fun _ _ => rfl) (fun _ _ => rfl) (by rw [m0]; exact Int.le_refl _)
  · rw [ev 31 t (by omega), a14 t ht]
    exact (M_cust_cg (fun u => by rw [es 19 u (by omega)]) (fun u _ => es 25 u (by omega)) (by rw [u2_ne1 (by decide), u2_ne1 (by decide)]) (es 0 14 (by omega)) _).symm
  · rw [es 19 t (by omega), es 20 t (by omega), es 21 t (by omega), es 24 t (by omega)]; exact a15 t h1 h2
  · rw [es 12 a (by omega), es 13 a (by omega)]; exact a16 a h1 h2
theorem AG_setHours (h : Rel N na nt v r s) (p0 p1 : Int32) : AG [1] N na nt (C_setHours na nt v r p0 p1) (M_setHours s p0 p1) := by
  have h0 := h.thr 0
  obtain ⟨hc, hm⟩ := span_iff (x := p0) (y := p1)
  have no : AG [1] N na nt (1, false, v, r) (false, u2 s 0 0 1) := ⟨Or.inr ⟨Nat.succ_ne_zero 0, 0, rfl, u2_00 s 1⟩, fun e => absurd e (Nat.succ_ne_zero 0), (h.thr 1).mono⟩
  unfold C_setHours M_setHours
  by_cases h1 : C_isSpanOfDay p0 p1 = true
  · have hh := hc.mp h1
    obtain ⟨m1, m2⟩ := hm.mpr hh
    rw [if_pos h1, if_pos m1, if_pos m2, h.opn, h.cls]
    have hR := (h0.hrsU hh).mono
    have z : u2 (u2 (u2 s 0 0 0) 0 2 p0) 0 3 p1 0 0 = 0 := by rw [u2_at, if_neg (by omega), u2_at, if_neg (by omega)]; exact u2_00 s 0
    by_cases e1 : p0 = v 0 1
    · rw [if_pos e1, if_pos e1.symm]
      by_cases e2 : p1 = v 0 2
      · rw [if_pos e2, if_pos e2.symm]; exact AG.ok z rfl hR
      · rw [if_neg e2, if_neg (fun q => e2 q.symm)]; exact AG.ok z rfl hR
    · rw [if_neg e1, if_neg (fun q => e1 q.symm)]; exact AG.ok z rfl hR
  · rw [if_neg h1]
    by_cases m1 : M_isIn p0 0 1439 = true
    · rw [if_pos m1, if_neg (fun m2 => h1 (hc.mpr (hm.mp ⟨m1, m2⟩)))]; exact no
    · rw [if_neg m1]; exact no
theorem AG_setTargets (h : Rel N na nt v r s) (p0 p1 p2 : Int32) : AG [2, 1] N na nt (C_setTargets na nt v r p0 p1 p2) (M_setTargets s p0 p1 p2) := by
  have h0 := h.thr 0
  have e1 : (1 : Int32).toInt = 1 := by decide
  have e9 : (9999 : Int32).toInt = 9999 := by decide
  unfold C_setTargets M_setTargets
  rw [isPrio_iff, isIn3]
  by_cases h1 : inR p0 4 = true
  · have hl := vp_lt (inR_iff.mp h1)
    rw [if_pos h1, if_pos h1]
    unfold M_isIn
    by_cases c1 : p1 < 1
    · rw [if_pos c1, if_pos c1, if_neg (by decide)]; exact AG.no (j := 1) h (by decide) rfl
    · rw [if_neg c1, if_neg c1]
      by_cases c2 : 9999 < p1
      · rw [if_pos c2, if_pos c2, if_neg (by decide)]; exact AG.no (j := 1) h (by decide) rfl
      · rw [if_neg c2, if_neg c2, if_pos rfl]
        by_cases c3 : p2 < p1
        · rw [if_pos c3, if_pos c3, if_neg (by decide)]; exact AG.no (j := 1) h (by decide) rfl
        · rw [if_neg c3, if_neg c3]
          by_cases c4 : 9999 < p2
          · rw [if_pos c4, if_neg (show ¬ p2 ≤ 9999 from fun z => by rw [Int32.le_iff_toInt_le] at z; rw [Int32.lt_iff_toInt_lt] at c4; omega), if_neg (show ¬ false = true by decide)]; exact AG.no (j := 1) h (by decide) rfl
          · rw [if_neg c4, if_pos rfl, if_pos (by rw [Int32.lt_iff_toInt_lt] at c4; rw [Int32.le_iff_toInt_le]; omega)]
            obtain ⟨a1, a2, a3, a4, a5, a6, a7, a8, a9, a10, a11, a12, a13, a14, a15, a16⟩ := h0.mono
            have ev : ∀ j t, ¬ ((j = 1 ∨ j = 2) ∧ t = ix p0) → u2 (u2 v 1 (ix p0) p1) 2 (ix p0) p2 j t = v j t := fun j t z => by
              rw [u2_at, if_neg (by omega), u2_at, if_neg (by omega)]
            have es : ∀ j t, ¬ ((j = 4 ∨ j = 5) ∧ t = ix p0) → u2 (u2 (u2 s 0 0 0) 4 (ix p0) p1) 5 (ix p0) p2 j t = u2 s 0 0 0 j t := fun j t z => by
              rw [u2_at, if_neg (by omega), u2_at, if_neg (by omega)]
            have m0 : u2 (u2 v 1 (ix p0) p1) 2 (ix p0) p2 0 0 = v 0 0 := ev 0 0 (by omega)
            refine AG.ok (by rw [es 0 0 (by omega)]; exact u2_00 s 0) (h.tgt _ hl).2.1.symm ⟨MI_u2 (by decide) (MI_u2 (by decide) a1), by rw [es 0 1 (by omega), m0]; exact a2, by rw [m0]; exact a3, by rw [es 0 2 (by omega), ev 0 1 (by omega)]; exact a4, by rw [es 0 3 (by omega), ev 0 2 (by omega)]; exact a5, by rw [ev 0 1 (by omega), ev 0 2 (by omega)]; exact a6, by rw [es 0 6 (by omega)]; exact a7, a8, by rw [es 0 14 (by omega)]; exact a9, a10, fun i hi => ?_, fun a ha => ?_, fun t ht => ?_, fun t ht => ?_, fun t h1 h2 => ?_, fun a h1 h2 => ?_⟩
            · by_cases e : i = ix p0
              · rw [e]
                refine ⟨?_, ?_, ?_⟩
                · rw [u2_at, if_neg (by omega), u2_same, u2_at (a := 1), if_neg (by omega), u2_same]
                · rw [u2_same, u2_same]
                · rw [u2_same]
                  rw [Int32.lt_iff_toInt_lt] at c1 c3 c4
                  omega
              · rw [es 4 i (by omega), es 5 i (by omega), ev 1 i (by omega), ev 2 i (by omega)]; exact a11 i hi
            · exact (a12 a ha).cg (fun j _ _ => ev j a (by omega)) (fun j _ _ => es j a (by omega)) rfl (fun t _ => ⟨rfl, ev 24 t (by omega)⟩)
            · exact (a13 t ht).cg (Nat.le_refl _) (fun j _ _ => ev j t (by omega)) (fun j _ => es j t (by omega)) (fun _ _ => rfl) (fun _ _ => rfl) (by rw [m0]; exact Int.le_refl _)
            · rw [ev 31 t (by omega), a14 t ht]
              exact (M_cust_cg (fun u => by rw [es 19 u (by omega)]) (fun u _ => es 25 u (by omega)) (by rw [u2_ne1 (by decide), u2_ne1 (by decide)]) (es 0 14 (by omega)) _).symm
            · rw [es 19 t (by omega), es 20 t (by omega), es 21 t (by omega), es 24 t (by omega)]; exact a15 t h1 h2
            · rw [es 12 a (by omega), es 13 a (by omega)]; exact a16 a h1 h2
  · rw [if_neg h1, if_neg h1]; exact AG.no (j := 0) h (by decide) rfl
theorem Rel.skillsU (h : Rel N na nt v r s) {a0 : Nat} (ha0 : a0 < na) (x : Int32) : Rel N na nt (u2 v 14 a0 x) r (u2 s 7 a0 x) := by
  obtain ⟨a1, a2, a3, a4, a5, a6, a7, a8, a9, a10, a11, a12, a13, a14, a15, a16⟩ := h
  have ev : ∀ j t, ¬ (j = 14 ∧ t = a0) → u2 v 14 a0 x j t = v j t := fun j t z => by rw [u2_at, if_neg z]
  have es : ∀ j t, ¬ (j = 7 ∧ t = a0) → u2 s 7 a0 x j t = s j t := fun j t z => by rw [u2_at, if_neg z]
  refine ⟨MI_u2 (by decide) a1, a2, a3, a4, a5, a6, a7, a8, a9, a10, a11, fun a ha => ?_, fun t ht => ?_, fun t ht => ?_, a15, a16⟩
  · by_cases e : a = a0
    · subst e
      obtain ⟨b1, b2, b3, b4, b5, b6, b7, b8, b9, b10⟩ := a12 a ha
      exact ⟨b1, b2, b3, b4, by rw [u2_same, u2_same], b6, b7, b8, b9, b10⟩
    · exact (a12 a ha).cg (fun j _ _ => ev j a (by omega)) (fun j _ _ => es j a (by omega)) rfl (fun t _ => ⟨rfl, ev 24 t (by omega)⟩)
  · exact (a13 t ht).cg (Nat.le_refl _) (fun j _ _ => ev j t (by omega)) (fun j _ => es j t (by omega)) (fun _ _ => rfl) (fun _ _ => rfl) (Int.le_refl _)
  · rw [ev 31 t (by omega), a14 t ht]
    exact (M_cust_cg (fun u => by rw [es 19 u (by omega)]) (fun u _ => es 25 u (by omega)) (u2_ne1 (by decide)) (es 0 14 (by omega)) _).symm
theorem AG_setSkills (h : Rel N na nt v r s) (p0 p1 : Int32) : AG [2, 1] N na nt (C_setSkills na nt v r p0 p1) (M_setSkills s p0 p1) := by
  have h0 := h.thr 0
  unfold C_setSkills M_setSkills
  rw [h0.isA, show C_isSetOfSkills p1 = M_isIn p1 0 255 from rfl]
  by_cases h1 : inR p0 na = true
  · have hl := vp_lt (inR_iff.mp h1)
    have g := h.ag _ hl
    have hT := h.cTb
    rw [if_pos h1, if_pos h1]
    by_cases h2 : M_isIn p1 0 255 = true
    · rw [if_pos h2, if_pos h2, g.hold, g.skl]
      have hU := (h0.skillsU hl p1).mono
      have z : u2 (u2 s 0 0 0) 7 (ix p0) p1 0 0 = 0 := by rw [u2_ne1 (by decide)]; exact u2_00 s 0
      cases e : r 15 (ix p0) with
      | none =>
        rw [if_pos rfl, if_pos (show hnd none = -1 from rfl)]
        exact AG.ok z rfl hU
      | some t =>
        obtain ⟨ht, _, h24⟩ := g.heldb t e
        have k := h.tk t ht
        rw [if_neg (by intro q; cases q), if_neg (show ¬ hnd (some t) = -1 from nI_ne_m1 (by omega)), show gd (some t) = t from rfl, show hnd (some t) = nI t from rfl, ix_nI (by omega), k.need, M_has_eq k.needb]
        have eh : C_A_hasSkill na nt (u2 v 14 (ix p0) p1) r (ix p0) (v 21 t) = if p1 &&& (1 <<< (v 21 t &&& 31)) = 0 then false else true := by
          unfold C_A_hasSkill
          rw [u2_same]
        rw [eh]
        by_cases hs : (if p1 &&& (1 <<< (v 21 t &&& 31)) = 0 then false else true) = true
        · rw [if_pos hs, if_pos hs]; exact AG.ok z rfl hU
        · rw [if_neg hs, if_neg hs]
          refine AG.ok ?_ rfl (hU.handBack ht (Or.inr (Or.inl (by rw [u2_ne1 (by decide)]; exact h24))))
          rw [M_leave_fn (by decide) (by decide)]; exact z
    · rw [if_neg h2, if_neg h2]; exact AG.no (j := 1) h (by decide) rfl
  · rw [if_neg h1, if_neg h1]; exact AG.no (j := 0) h (by decide) rfl
theorem and_not_or (x a b : Int32) : (x &&& (a ^^^ -1)) &&& (b ^^^ -1) = x &&& ((a ||| b) ^^^ -1) := by
  apply Int32.toBitVec_inj.mp
  show (x.toBitVec &&& (a.toBitVec ^^^ (-1 : Int32).toBitVec)) &&& (b.toBitVec ^^^ (-1 : Int32).toBitVec) = x.toBitVec &&& ((a.toBitVec ||| b.toBitVec) ^^^ (-1 : Int32).toBitVec)
  rw [show (-1 : Int32).toBitVec = BitVec.allOnes 32 from by decide]
  apply BitVec.eq_of_getLsbD_eq
  intro i hi
  simp only [BitVec.getLsbD_and, BitVec.getLsbD_xor, BitVec.getLsbD_or, BitVec.getLsbD_allOnes, hi, decide_true, Bool.xor_true]
  cases x.toBitVec.getLsbD i <;> cases a.toBitVec.getLsbD i <;> cases b.toBitVec.getLsbD i <;> rfl
theorem and_zero_not (x : Int32) : x = x &&& ((0 : Int32) ^^^ -1) := by
  apply Int32.toBitVec_inj.mp
  show x.toBitVec = x.toBitVec &&& ((0 : Int32) ^^^ -1).toBitVec
  rw [show ((0 : Int32) ^^^ -1).toBitVec = BitVec.allOnes 32 from by decide, BitVec.and_allOnes]
theorem AG_lacking (h : Rel N na nt v r s) : C_lacking na nt v r = (M_lacking s).1 := by
  have h0 := h.thr 0
  have hT := h.cTb
  have ho : ∀ t, t < nt → C_T_isOpen na nt v r t = M_isOpen (u2 s 0 0 0) (nI t) := fun t ht => by
    unfold C_T_isOpen M_isOpen
    rw [ix_nI (by omega), (h0.tk t ht).state]
    rcases (h.tk t ht).rng with e | e | e | e | e <;> rw [e] <;> decide
  have hL : ∀ n, n ≤ nt → C_lackL na nt v r n = M_lackL s n := fun n => by
    induction n with
    | zero => exact fun _ => rfl
    | succ n ih =>
      intro hn
      rw [C_lackL_s, C_lackLB, M_lackL, M_lackLB, ih (by omega), ho n (by omega), (h.tk n (by omega)).need]
  have hM : ∀ n, n ≤ na → C_lackL na nt v r nt &&& (C_lackM na nt v r n ^^^ -1) = M_lackM s n := fun n => by
    induction n with
    | zero =>
      intro _
      show _ = M_lackL s (ix (s 0 14))
      rw [h.ixT, ← hL nt (Nat.le_refl _)]
      exact (and_zero_not _).symm
    | succ n ih =>
      intro hn
      rw [C_lackM_s, C_lackMB, M_lackM, M_lackMB, ← ih (by omega), (h.ag n (by omega)).skl, and_not_or]
  show C_lackL na nt v r nt &&& (C_lackM na nt v r na ^^^ -1) = M_lackM s (ix (s 0 6))
  rw [h.ixA]
  exact hM na (Nat.le_refl _)
end MORE
