/-! a minute passes -/
section PASS
variable {N na nt : Nat} {v : S2} {r : R2} {s : S2}
theorem hb_v {t : Nat} : (C_handBack na nt v r t).1 0 = v 0 := by
  show u2 (C_takeFromHolder na nt v r t).1 24 t 0 0 = v 0
  rw [u2_ne1 (by decide), take_v]
theorem Rel.homeL (h : Rel N na nt v r s) : ∀ n, n ≤ na → Rel N na nt (C_homeL na nt v r n).1 (C_homeL na nt v r n).2 (M_pmH s n) ∧ (C_homeL na nt v r n).1 0 = v 0
  | 0, _ => ⟨h, rfl⟩
  | n + 1, hn => by
    obtain ⟨ih, i0⟩ := h.homeL n (by omega)
    have hA := h.cAb
    have hT := h.cTb
    have hl : n < na := by omega
    rw [C_homeL_s, C_homeLB, M_pmH, M_pmHB]
    generalize (C_homeL na nt v r n).1 = x at ih i0 ⊢
    generalize (C_homeL na nt v r n).2 = y at ih ⊢
    have g := ih.ag n hl
    rw [g.hold, ih.there hl]
    cases e : y 15 n with
    | none =>
      rw [if_pos rfl, if_pos (show hnd none = -1 from rfl)]
      exact ⟨ih, i0⟩
    | some k =>
      obtain ⟨hk, _, h24⟩ := g.heldb k e
      rw [if_neg (by intro q; cases q), if_neg (show ¬ hnd (some k) = -1 from nI_ne_m1 (by omega)), show gd (some k) = k from rfl, show hnd (some k) = nI k from rfl]
      by_cases c : M_isThere (M_pmH s n) (nI n) = true
      · rw [if_pos c, if_pos c]; exact ⟨ih, i0⟩
      · rw [if_neg c, if_neg c]
        exact ⟨ih.handBack hk (Or.inr (Or.inl h24)), (hb_v (na := na) (nt := nt)).trans i0⟩
theorem first_wait {a : Nat} : ∀ (n y : Nat), C_firstL na nt v r a n = some y → v 24 y = 0
  | 0, y, e => by cases e
  | n + 1, y, e => by
    rw [C_firstL_s, C_firstLB] at e
    have ih := first_wait (a := a) n
    generalize C_firstL na nt v r a n = x at e ih
    split at e
    · rename_i h0
      split at e
      · split at e
        · cases e; exact h0
        · rename_i hx
          split at e
          · cases e; exact h0
          · exact ih y ((gd_some hx).trans e)
      · exact ih y e
    · exact ih y e
theorem Rel.give (h : Rel N na nt v r s) {a k : Nat} (ha : a < na) (hk : k < nt) (hf : r 15 a = none) (h0 : v 24 k = 0) : Rel N na nt (C_give na nt v r k a).1 (C_give na nt v r k a).2 (if s 23 k = -1 then u2 (u2 (u2 (u2 s 11 a (nI k)) 19 k 1) 23 k (s 20 k)) 22 k (nI a) else u2 (u2 (u2 s 11 a (nI k)) 19 k 1) 22 k (nI a)) := by
  have hA := h.cAb
  have hT := h.cTb
  have g := h.tk k hk
  have hs4 : ¬ s 19 k = 4 := by rw [g.state, h0]; decide
  have hr32 : r 32 k = none := by
    cases e : r 32 k with
    | none => rfl
    | some b =>
      obtain ⟨hb, e2⟩ := g.holdb b e
      have := ((h.ag b hb).heldb k e2).2.2
      rw [h0] at this; exact absurd this (by decide)
  -- what both ends look like
  have fin : ∀ (v' : S2) (s' : S2), MI s' → (∀ j t, ¬ ((j = 24 ∨ j = 27) ∧ t = k) → v' j t = v j t) → v' 24 k = 1 → (∀ j t, ¬ ((j = 19 ∨ j = 22 ∨ j = 23) ∧ t = k) → ¬ (j = 11 ∧ t = a) → s' j t = s j t) → s' 19 k = 1 → s' 22 k = nI a → s' 11 a = nI k → s' 23 k = v' 27 k → (v' 27 k = -1 ∨ 0 ≤ (v' 27 k).toInt) → Rel N na nt v' (u3 (u3 (u3 r 15 a (some k)) 32 k (some a)) 33 k (some a)) s' := by
    intro v' s' hMI hv hv24 hs h19 h22 h11 h23 hans
    have r15 : ∀ b, b ≠ a → u3 (u3 (u3 r 15 a (some k)) 32 k (some a)) 33 k (some a) 15 b = r 15 b := fun b q => by
      rw [u3_at, if_neg (by omega), u3_at, if_neg (by omega), u3_at, if_neg (by omega)]
    have r15a : u3 (u3 (u3 r 15 a (some k)) 32 k (some a)) 33 k (some a) 15 a = some k := by
      rw [u3_at, if_neg (by omega), u3_at, if_neg (by omega), u3_at, if_pos ⟨rfl, rfl⟩]
    have rk : ∀ j t, t ≠ k → 32 ≤ j → u3 (u3 (u3 r 15 a (some k)) 32 k (some a)) 33 k (some a) j t = r j t := fun j t q z => by
      rw [u3_at, if_neg (by omega), u3_at, if_neg (by omega), u3_at, if_neg (by omega)]
    have r32 : u3 (u3 (u3 r 15 a (some k)) 32 k (some a)) 33 k (some a) 32 k = some a := by
      rw [u3_at, if_neg (by omega), u3_at, if_pos ⟨rfl, rfl⟩]
    have r33 : u3 (u3 (u3 r 15 a (some k)) 32 k (some a)) 33 k (some a) 33 k = some a := by
      rw [u3_at, if_pos ⟨rfl, rfl⟩]
    have r34 : u3 (u3 (u3 r 15 a (some k)) 32 k (some a)) 33 k (some a) 34 k = r 34 k := by
      rw [u3_at, if_neg (by omega), u3_at, if_neg (by omega), u3_at, if_neg (by omega)]
    have m0 : ∀ i, v' 0 i = v 0 i := fun i => hv 0 i (by omega)
    have hh := h
    obtain ⟨a1, a2, a3, a4, a5, a6, a7, a8, a9, a10, a11, a12, a13, a14, a15, a16⟩ := h
    refine ⟨hMI, by rw [hs 0 1 (by omega) (by omega), m0]; exact a2, by rw [m0]; exact a3, by rw [hs 0 2 (by omega) (by omega), m0]; exact a4, by rw [hs 0 3 (by omega) (by omega), m0]; exact a5, by rw [m0, m0]; exact a6, by rw [hs 0 6 (by omega) (by omega)]; exact a7, a8, by rw [hs 0 14 (by omega) (by omega)]; exact a9, a10, fun i hi => ?_, fun b hb => ?_, fun t ht => ?_, fun t ht => ?_, fun t h1 h2 => ?_, fun b h1 h2 => ?_⟩
    · rw [hs 4 i (by omega) (by omega), hs 5 i (by omega) (by omega), hv 1 i (by omega), hv 2 i (by omega)]; exact a11 i hi
    · by_cases e : b = a
      · subst e
        obtain ⟨b1, b2, b3, b4, b5, b6, b7, b8, b9, b10⟩ := a12 b hb
        refine ⟨by rw [hv 10 b (by omega)]; exact b1, by rw [hs 8 b (by omega) (by omega), hv 11 b (by omega)]; exact b2, by rw [hs 9 b (by omega) (by omega), hv 12 b (by omega)]; exact b3, by rw [hs 10 b (by omega) (by omega), hv 13 b (by omega)]; exact b4, by rw [hs 7 b (by omega) (by omega), hv 14 b (by omega)]; exact b5, by rw [hs 12 b (by omega) (by omega), hv 16 b (by omega)]; exact b6, by rw [hs 13 b (by omega) (by omega), hv 17 b (by omega)]; exact b7, by rw [h11, r15a]; rfl, by rw [hv 13 b (by omega)]; exact b9, fun t q => ?_⟩
        rw [r15a] at q
        cases q
        exact ⟨hk, r32, hv24⟩
      · refine (a12 b hb).cg (fun j _ _ => hv j b (by omega)) (fun j _ _ => hs j b (by omega) (by omega)) (r15 b e) (fun t q => ?_)
        have ne : t ≠ k := fun z => by
          have := ((a12 b hb).heldb t q).2.2
          rw [z, h0] at this; exact absurd this (by decide)
        exact ⟨by
          rw [u3_at, if_neg (by omega), u3_at, if_neg (by omega), u3_at, if_neg (by omega)], hv 24 t (by omega)⟩
    · by_cases e : t = k
      · subst e
        obtain ⟨b1, b2, b3, b4, b5, b6, b7, b8, b9, b10, b11, b12, b13, b14, b15, b16, b17, b18, b19, b20, b21, b22, b23, b24⟩ := a13 t ht
        refine ⟨by rw [hv 20 t (by omega)]; exact b1, by rw [hs 15 t (by omega) (by omega), hv 21 t (by omega)]; exact b2, by rw [hs 16 t (by omega) (by omega), hv 22 t (by omega)]; exact b3, by rw [hs 17 t (by omega) (by omega), hv 23 t (by omega)]; exact b4, by rw [h19, hv24], by rw [hs 20 t (by omega) (by omega), hv 25 t (by omega)]; exact b6, by rw [hs 21 t (by omega) (by omega), hv 26 t (by omega)]; exact b7, h23, by rw [hs 24 t (by omega) (by omega), hv 28 t (by omega)]; exact b9, by rw [h22, r33]; rfl, fun c q => ?_, fun c q => ?_, fun q => ?_, fun _ => ?_, fun q => ?_, fun q => ?_, Or.inr (Or.inl hv24), by rw [hv 22 t (by omega)]; exact b18, by rw [hv 21 t (by omega)]; exact b19, by rw [hv 25 t (by omega), m0]; exact b20, hans, fun _ => ?_, fun q => ?_, by rw [hv 23 t (by omega)]; exact b24⟩
        · rw [r33] at q; cases q; exact ha
        · rw [r32] at q; cases q; exact ⟨ha, r15a⟩
        · rw [hv24] at q; exact absurd q (by decide)
        · rw [r34]; exact b14 (by rw [h0]; decide)
        · rw [hv24] at q; exact absurd q (by decide)
        · rw [hv24] at q; exact absurd q (by decide)
        · rw [hv 26 t (by omega), hv 23 t (by omega)]; exact b22 (Or.inl h0)
        · rw [hv24] at q; exact absurd q (by decide)
      · refine (a13 t ht).cg (Nat.le_refl _) (fun j _ _ => hv j t (by omega)) (fun j _ => hs j t (by omega) (by omega)) (fun j q => rk j t e q) (fun b q => r15 b (fun z => ?_)) (by rw [m0]; exact Int.le_refl _)
        have := ((a13 t ht).holdb b q).2
        rw [z, hf] at this; cases this
    · rw [hv 31 t (by omega), a14 t ht]
      refine (M_cust_cg (fun u => ?_) (fun u _ => hs 25 u (by omega) (by omega)) (funext fun u => hs 18 u (by omega) (by omega)) (hs 0 14 (by omega) (by omega)) _).symm
      by_cases e : u = k
      · rw [e, h19]; exact ⟨fun z => absurd z (by decide), fun z => absurd z hs4⟩
      · rw [hs 19 u (by omega) (by omega)]
    · rw [hs 19 t (by omega) (by omega), hs 20 t (by omega) (by omega), hs 21 t (by omega) (by omega), hs 24 t (by omega) (by omega)]; exact a15 t h1 h2
    · rw [hs 12 b (by omega) (by omega), hs 13 b (by omega) (by omega)]; exact a16 b h1 h2
  have vk : vp_in (nI k) 20 := vp_in_nI (by omega) (by decide)
  have mi1 : MI (u2 (u2 s 11 a (nI k)) 19 k 1) := MI_state (MI_hand h.mi (Or.inr vk)) (by decide)
  unfold C_give
  rw [g.ansA]
  rcases g.ansb with e | e
  · have hneg : ¬ 0 ≤ v 27 k := by rw [e]; decide
    rw [if_neg hneg, if_pos e]
    refine fin (u2 (u2 v 24 k 1) 27 k (v 25 k)) _ (MI_u2 (by decide) (MI_u2 (by decide) mi1)) (fun j t z => ?_) ?_ (fun j t z1 z2 => ?_) ?_ ?_ ?_ ?_ ?_
    · rw [u2_at, if_neg (by omega), u2_at, if_neg (by omega)]
    · rw [u2_ne1 (by decide), u2_same]
    · rw [u2_at, if_neg (by omega), u2_at, if_neg (by omega), u2_at, if_neg (by omega), u2_at, if_neg z2]
    · rw [u2_ne1 (by decide), u2_ne1 (by decide), u2_same]
    · rw [u2_same]
    · rw [u2_ne1 (by decide), u2_ne1 (by decide), u2_ne1 (by decide), u2_same]
    · rw [u2_ne1 (by decide), u2_same, u2_same, g.age]
    · rw [u2_same]; exact Or.inr g.ageb.1
  · have hpos : 0 ≤ v 27 k := by rw [Int32.le_iff_toInt_le]; exact e
    rw [if_pos hpos, if_neg (show ¬ v 27 k = -1 from fun z => by rw [z] at e; exact absurd e (by decide))]
    refine fin (u2 v 24 k 1) _ (MI_u2 (by decide) mi1) (fun j t z => ?_) ?_ (fun j t z1 z2 => ?_) ?_ ?_ ?_ ?_ ?_
    · rw [u2_at, if_neg (by omega)]
    · rw [u2_same]
    · rw [u2_at, if_neg (by omega), u2_at, if_neg (by omega), u2_at, if_neg z2]
    · rw [u2_ne1 (by decide), u2_same]
    · rw [u2_same]
    · rw [u2_ne1 (by decide), u2_ne1 (by decide), u2_same]
    · rw [u2_ne1 (by decide), u2_ne1 (by decide), u2_ne1 (by decide), u2_ne1 (by decide)]; exact g.ansA
    · rw [u2_ne1 (by decide)]; exact Or.inr e
theorem give_v {t a : Nat} : (C_give na nt v r t a).1 0 = v 0 := by
  unfold C_give
  split
  · show u2 v 24 t 1 0 = v 0
    rw [u2_ne1 (by decide)]
  · show u2 (u2 v 24 t 1) 27 t (v 25 t) 0 = v 0
    rw [u2_ne1 (by decide), u2_ne1 (by decide)]
theorem Rel.outL (h : Rel N na nt v r s) : ∀ n, n ≤ na → Rel N na nt (C_outL na nt v r n).1 (C_outL na nt v r n).2 (M_pmG s n) ∧ (C_outL na nt v r n).1 0 = v 0
  | 0, _ => ⟨h, rfl⟩
  | n + 1, hn => by
    obtain ⟨ih, i0⟩ := h.outL n (by omega)
    have hA := h.cAb
    have hT := h.cTb
    have hl : n < na := by omega
    rw [C_outL_s, C_outLB, M_pmG, M_pmGB]
    generalize (C_outL na nt v r n).1 = x at ih i0 ⊢
    generalize (C_outL na nt v r n).2 = y at ih ⊢
    generalize M_pmG s n = z at ih ⊢
    have g := ih.ag n hl
    rw [g.hold, ih.there hl, ih.nextOf hl]
    cases e : y 15 n with
    | some k =>
      obtain ⟨hk, _, h24⟩ := g.heldb k e
      rw [if_neg (by intro q; cases q), if_neg (show ¬ hnd (some k) = -1 from nI_ne_m1 (by omega))]
      exact ⟨ih, i0⟩
    | none =>
      rw [if_pos rfl, if_pos (show hnd none = -1 from rfl)]
      by_cases c : M_isThere z (nI n) = true
      · rw [if_pos c, if_pos c]
        cases ef : C_firstByLiking na nt x y n with
        | none =>
          rw [if_pos rfl, if_pos (show hnd none = -1 from rfl)]
          exact ⟨ih, i0⟩
        | some k =>
          have hk := C_first_lt k ef
          have hw := first_wait nt k ef
          rw [if_neg (by intro q; cases q), if_neg (show ¬ hnd (some k) = -1 from nI_ne_m1 (by omega)), show gd (some k) = k from rfl, show hnd (some k) = nI k from rfl, ix_nI (by omega)]
          exact ⟨ih.give hl hk e hw, (give_v (na := na) (nt := nt)).trans i0⟩
      · rw [if_neg c, if_neg c]; exact ⟨ih, i0⟩
/-- the minute put on by one -/
def bV (v : S2) : S2 := u2 v 0 0 (v 0 0 + 1)
def bS (s : S2) : S2 := u2 s 0 1 (s 0 1 + 1)
theorem min_up {x : Int32} (h : vp_in x 99999) : (x + 1).toInt = x.toInt + 1 := by
  have h2 := vp_in_iff.mp h
  rw [Int32.toInt_add, show (1 : Int32).toInt = 1 from by decide]
  exact Int.bmod_eq_of_le (by omega) (by omega)
/-- a minute more, some tickets older by one -/
theorem Rel.bumpW (h : Rel N na nt v r s) (hm : vp_in (v 0 0) 99999) {v' s' : S2} (hv : ∀ j t, ¬ (j = 25 ∧ t < nt) → v' j t = v j t) (hs : ∀ j t, ¬ (j = 20 ∧ t < nt) → s' j t = s j t) (ha : ∀ t, t < nt → s' 20 t = v' 25 t ∧ (v' 25 t = v 25 t ∨ v' 25 t = v 25 t + 1)) : Rel N na nt (bV v') r (bS s') := by
  have e00 : v' 0 0 = v 0 0 := hv 0 0 (by omega)
  have bv : ∀ j t, ¬ (j = 0 ∧ t = 0) → bV v' j t = v' j t := fun j t z => by unfold bV; rw [u2_at, if_neg z]
  have bs : ∀ j t, ¬ (j = 0 ∧ t = 1) → bS s' j t = s' j t := fun j t z => by unfold bS; rw [u2_at, if_neg z]
  have b00 : bV v' 0 0 = v 0 0 + 1 := by unfold bV; rw [u2_same, e00]
  have hmi := vp_in_iff.mp hm
  have hup := min_up hm
  obtain ⟨a1, a2, a3, a4, a5, a6, a7, a8, a9, a10, a11, a12, a13, a14, a15, a16⟩ := h
  refine ⟨?_, ?_, ?_, ?_, ?_, ?_, ?_, a8, ?_, a10, fun i hi => ?_, fun a ha => ?_, fun t ht => ?_, fun t ht => ?_, fun t h1 h2 => ?_, fun a h1 h2 => ?_⟩
  · refine MI_u0 (by decide) ?_
    obtain ⟨g1, g2, g3, g4, rk, g5⟩ := a1
    refine ⟨by rw [hs 0 6 (by omega)]; exact g1, by rw [hs 0 14 (by omega)]; exact g2, fun t ht => by rw [hs 16 t (by omega)]; exact g3 t ht, fun a ha => by rw [hs 11 a (by omega)]; exact g4 a ha, rk, fun t ht e => ?_⟩
    rw [hs 19 t (by omega)] at e
    rw [hs 25 t (by omega)]; exact g5 t ht e
  · rw [b00]
    unfold bS
    rw [u2_same, hs 0 1 (by omega), a2]
  · rw [b00]; exact vp_in_iff.mpr ⟨by omega, by omega⟩
  · rw [bs 0 2 (by omega), bv 0 1 (by omega), hs 0 2 (by omega), hv 0 1 (by omega)]; exact a4
  · rw [bs 0 3 (by omega), bv 0 2 (by omega), hs 0 3 (by omega), hv 0 2 (by omega)]; exact a5
  · rw [bv 0 1 (by omega), bv 0 2 (by omega), hv 0 1 (by omega), hv 0 2 (by omega)]; exact a6
  · rw [bs 0 6 (by omega), hs 0 6 (by omega)]; exact a7
  · rw [bs 0 14 (by omega), hs 0 14 (by omega)]; exact a9
  · rw [bs 4 i (by omega), bs 5 i (by omega), bv 1 i (by omega), bv 2 i (by omega), hs 4 i (by omega), hs 5 i (by omega), hv 1 i (by omega), hv 2 i (by omega)]; exact a11 i hi
  · exact (a12 a ha).cg (fun j _ _ => by rw [bv j a (by omega), hv j a (by omega)]) (fun j _ _ => by rw [bs j a (by omega), hs j a (by omega)]) rfl (fun t _ => ⟨rfl, by rw [bv 24 t (by omega), hv 24 t (by omega)]⟩)
  · obtain ⟨b1, b2, b3, b4, b5, b6, b7, b8, b9, b10, b11, b12, b13, b14, b15, b16, b17, b18, b19, b20, b21, b22, b23, b24⟩ := a13 t ht
    have w : ∀ j, 20 ≤ j → ¬ j = 25 → bV v' j t = v j t := fun j q1 q2 => by rw [bv j t (by omega), hv j t (by omega)]
    have y : ∀ j, 15 ≤ j → ¬ j = 20 → bS s' j t = s j t := fun j q1 q2 => by rw [bs j t (by omega), hs j t (by omega)]
    obtain ⟨c1, c2⟩ := ha t ht
    have w25 : bV v' 25 t = v' 25 t := bv 25 t (by omega)
    refine ⟨?_, ?_, ?_, ?_, ?_, ?_, ?_, ?_, ?_, ?_, b11, b12, ?_, ?_, ?_, ?_, ?_, ?_, ?_, ?_, ?_, ?_, ?_, ?_⟩
    · rw [w 20 (by decide) (by decide)]; exact b1
    · rw [w 21 (by decide) (by decide), y 15 (by decide) (by decide)]; exact b2
    · rw [w 22 (by decide) (by decide), y 16 (by decide) (by decide)]; exact b3
    · rw [w 23 (by decide) (by decide), y 17 (by decide) (by decide)]; exact b4
    · rw [w 24 (by decide) (by decide), y 19 (by decide) (by decide)]; exact b5
    · rw [w25, bs 20 t (by omega)]; exact c1
    · rw [w 26 (by decide) (by decide), y 21 (by decide) (by decide)]; exact b7
    · rw [w 27 (by decide) (by decide), y 23 (by decide) (by decide)]; exact b8
    · rw [w 28 (by decide) (by decide), y 24 (by decide) (by decide)]; exact b9
    · rw [y 22 (by decide) (by decide)]; exact b10
    · rw [w 24 (by decide) (by decide), y 25 (by decide) (by decide)]; exact b13
    · rw [w 24 (by decide) (by decide)]; exact b14
    · rw [w 24 (by decide) (by decide), w 29 (by decide) (by decide), y 25 (by decide) (by decide)]; exact b15
    · rw [w 24 (by decide) (by decide), w 30 (by decide) (by decide), y 25 (by decide) (by decide)]; exact b16
    · rw [w 24 (by decide) (by decide)]; exact b17
    · rw [w 22 (by decide) (by decide)]; exact b18
    · rw [w 21 (by decide) (by decide)]; exact b19
    · rw [w25, b00, hup]
      rcases c2 with e | e
      · rw [e]; omega
      · have hag : (v 25 t + 1).toInt = (v 25 t).toInt + 1 := min_up (vp_in_iff.mpr ⟨b20.1, by omega⟩)
        rw [e, hag]; omega
    · rw [w 27 (by decide) (by decide)]; exact b21
    · rw [w 24 (by decide) (by decide), w 26 (by decide) (by decide), w 23 (by decide) (by decide)]; exact b22
    · rw [w 24 (by decide) (by decide), w 26 (by decide) (by decide), w 23 (by decide) (by decide)]; exact b23
    · rw [w 23 (by decide) (by decide)]; exact b24
  · rw [bv 31 t (by omega), hv 31 t (by omega), a14 t ht]
    exact (M_cust_cg (fun u => by rw [bs 19 u (by omega), hs 19 u (by omega)]) (fun u _ => by rw [bs 25 u (by omega), hs 25 u (by omega)]) (funext fun u => by rw [bs 18 u (by omega), hs 18 u (by omega)]) (by rw [bs 0 14 (by omega), hs 0 14 (by omega)]) _).symm
  · rw [bs 19 t (by omega), bs 20 t (by omega), bs 21 t (by omega), bs 24 t (by omega), hs 19 t (by omega), hs 20 t (by omega), hs 21 t (by omega), hs 24 t (by omega)]; exact a15 t h1 h2
  · rw [bs 12 a (by omega), bs 13 a (by omega), hs 12 a (by omega), hs 13 a (by omega)]; exact a16 a h1 h2
theorem ageL_at : ∀ (n a b : Nat), C_ageL na nt v r n a b = if a = 25 ∧ b < n ∧ (v 24 b = 0 ∨ v 24 b = 1) then v 25 b + 1 else v a b
  | 0, a, b => by rw [if_neg (by omega)]; rfl
  | n + 1, a, b => by
    have ih := ageL_at n
    have e24 : C_ageL na nt v r n 24 n = v 24 n := by rw [ih, if_neg (by omega)]
    have e25 : C_ageL na nt v r n 25 n = v 25 n := by rw [ih, if_neg (by omega)]
    have hit : (v 24 n = 0 ∨ v 24 n = 1) → u2 (C_ageL na nt v r n) 25 n (C_ageL na nt v r n 25 n + 1) a b = if a = 25 ∧ b < n + 1 ∧ (v 24 b = 0 ∨ v 24 b = 1) then v 25 b + 1 else v a b := fun q => by
      rw [u2_at, e25]
      by_cases e : a = 25 ∧ b = n
      · rw [if_pos e, e.2, if_pos ⟨e.1, Nat.lt_succ_self n, q⟩]
      · rw [if_neg e, ih]
        by_cases e2 : a = 25 ∧ b < n ∧ (v 24 b = 0 ∨ v 24 b = 1)
        · rw [if_pos e2, if_pos ⟨e2.1, by omega, e2.2.2⟩]
        · rw [if_neg e2, if_neg (fun z => e2 ⟨z.1, by omega, z.2.2⟩)]
    rw [C_ageL_s, C_ageLB, e24]
    by_cases h0 : v 24 n = 0
    · rw [if_pos h0]; exact hit (Or.inl h0)
    · rw [if_neg h0]
      by_cases h1 : v 24 n = 1
      · rw [if_pos h1]; exact hit (Or.inr h1)
      · rw [if_neg h1, ih]
        by_cases e2 : a = 25 ∧ b < n ∧ (v 24 b = 0 ∨ v 24 b = 1)
        · rw [if_pos e2, if_pos ⟨e2.1, by omega, e2.2.2⟩]
        · rw [if_neg e2, if_neg (fun z => by
            by_cases e3 : b = n
            · rw [e3] at z; exact z.2.2.elim h0 h1
            · exact e2 ⟨z.1, by omega, z.2.2⟩)]
theorem pmA_at : ∀ (n a b : Nat), M_pmA s n a b = if a = 20 ∧ b < n ∧ ¬ 1 < s 19 b then s 20 b + 1 else s a b
  | 0, a, b => by rw [if_neg (by omega)]; rfl
  | n + 1, a, b => by
    have ih := pmA_at n
    have e24 : M_pmA s n 19 n = s 19 n := by rw [ih, if_neg (by omega)]
    have e25 : M_pmA s n 20 n = s 20 n := by rw [ih, if_neg (by omega)]
    rw [M_pmA, M_pmAB, e24, e25]
    by_cases h1 : 1 < s 19 n
    · rw [if_pos h1, Int32.add_zero, u2_at]
      by_cases e : a = 20 ∧ b = n
      · rw [if_pos e, e.2, if_neg (fun z => z.2.2 h1), e.1]
      · rw [if_neg e, ih]
        by_cases e2 : a = 20 ∧ b < n ∧ ¬ 1 < s 19 b
        · rw [if_pos e2, if_pos ⟨e2.1, by omega, e2.2.2⟩]
        · rw [if_neg e2, if_neg (fun z => by
            by_cases e3 : b = n
            · exact e ⟨z.1, e3⟩
            · exact e2 ⟨z.1, by omega, z.2.2⟩)]
    · rw [if_neg h1, u2_at]
      by_cases e : a = 20 ∧ b = n
      · rw [if_pos e, e.2, if_pos ⟨e.1, Nat.lt_succ_self n, h1⟩]
      · rw [if_neg e, ih]
        by_cases e2 : a = 20 ∧ b < n ∧ ¬ 1 < s 19 b
        · rw [if_pos e2, if_pos ⟨e2.1, by omega, e2.2.2⟩]
        · rw [if_neg e2, if_neg (fun z => e2 ⟨z.1, by omega, z.2.2⟩)]
theorem Rel.ageU (h : Rel N na nt v r s) (hm : vp_in (v 0 0) 99999) : Rel N na nt (bV (C_ageL na nt v r nt)) r (bS (M_pmA s nt)) := by
  refine h.bumpW hm (fun j t z => ?_) (fun j t z => ?_) (fun t ht => ?_)
  · rw [ageL_at, if_neg (by omega)]
  · rw [pmA_at, if_neg (by omega)]
  · have g := h.tk t ht
    rw [ageL_at, pmA_at, g.state, g.age]
    have hq : (v 24 t = 0 ∨ v 24 t = 1) ↔ ¬ 1 < v 24 t := by rcases g.rng with e | e | e | e | e <;> rw [e] <;> decide
    by_cases c : 1 < v 24 t
    · rw [if_neg (fun z => z.2.2 c), if_neg (fun z => hq.mp z.2.2 c)]
      exact ⟨rfl, Or.inl rfl⟩
    · rw [if_pos ⟨rfl, ht, c⟩, if_pos ⟨rfl, ht, hq.mpr c⟩]
      exact ⟨rfl, Or.inr rfl⟩
theorem Rel.bumpU (h : Rel N na nt v r s) (hm : vp_in (v 0 0) 99999) : Rel N na nt (bV v) r (bS s) :=
  h.bumpW hm (fun _ _ _ => rfl) (fun _ _ _ => rfl) (fun t ht => ⟨(h.tk t ht).age, Or.inl rfl⟩)
end PASS
