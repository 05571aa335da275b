/-! the agents work; minutes pass -/
section WORK
variable {N na nt : Nat} {v : S2} {r : R2} {s : S2}
theorem Rel.agU (h : Rel N na nt v r s) {a0 j j' : Nat} (ha0 : a0 < na) (hj : (j = 16 ∧ j' = 12) ∨ (j = 17 ∧ j' = 13)) (x : Int32) : Rel N na nt (u2 v j a0 x) r (u2 s j' a0 x) := by
  obtain ⟨a1, a2, a3, a4, a5, a6, a7, a8, a9, a10, a11, a12, a13, a14, a15, a16⟩ := h
  have ev : ∀ i t, ¬ (i = j ∧ t = a0) → u2 v j a0 x i t = v i t := fun i t z => by rw [u2_at, if_neg z]
  have es : ∀ i t, ¬ (i = j' ∧ t = a0) → u2 s j' a0 x i t = s i t := fun i t z => by rw [u2_at, if_neg z]
  refine ⟨MI_u2 (by omega) a1, by rw [es 0 1 (by omega), ev 0 0 (by omega)]; exact a2, by rw [ev 0 0 (by omega)]; exact a3, by rw [es 0 2 (by omega), ev 0 1 (by omega)]; exact a4, by rw [es 0 3 (by omega), ev 0 2 (by omega)]; exact a5, by rw [ev 0 1 (by omega), ev 0 2 (by omega)]; exact a6, by rw [es 0 6 (by omega)]; exact a7, a8, by rw [es 0 14 (by omega)]; exact a9, a10, fun i hi => by rw [es 4 i (by omega), es 5 i (by omega), ev 1 i (by omega), ev 2 i (by omega)]; exact a11 i hi, fun a ha => ?_, fun t ht => ?_, fun t ht => ?_, fun t h1 h2 => ?_, fun a h1 h2 => ?_⟩
  · by_cases e : a = a0
    · subst e
      obtain ⟨b1, b2, b3, b4, b5, b6, b7, b8, b9, b10⟩ := a12 a ha
      refine ⟨by rw [ev 10 a (by omega)]; exact b1, by rw [es 8 a (by omega), ev 11 a (by omega)]; exact b2, by rw [es 9 a (by omega), ev 12 a (by omega)]; exact b3, by rw [es 10 a (by omega), ev 13 a (by omega)]; exact b4, by rw [es 7 a (by omega), ev 14 a (by omega)]; exact b5, ?_, ?_, by rw [es 11 a (by omega)]; exact b8, by rw [ev 13 a (by omega)]; exact b9, fun t q => by rw [ev 24 t (by omega)]; exact b10 t q⟩
      · rcases hj with ⟨rfl, rfl⟩ | ⟨rfl, rfl⟩
        · rw [u2_same, u2_same]
        · rw [u2_ne1 (by decide), u2_ne1 (by decide)]; exact b6
      · rcases hj with ⟨rfl, rfl⟩ | ⟨rfl, rfl⟩
        · rw [u2_ne1 (by decide), u2_ne1 (by decide)]; exact b7
        · rw [u2_same, u2_same]
    · exact (a12 a ha).cg (fun i _ _ => ev i a (by omega)) (fun i _ _ => es i a (by omega)) rfl (fun t _ => ⟨rfl, ev 24 t (by omega)⟩)
  · exact (a13 t ht).cg (Nat.le_refl _) (fun i _ _ => ev i t (by omega)) (fun i _ => es i t (by omega)) (fun _ _ => rfl) (fun _ _ => rfl) (by rw [ev 0 0 (by omega)]; exact Int.le_refl _)
  · rw [ev 31 t (by omega), a14 t ht]
    exact (M_cust_cg (fun u => by rw [es 19 u (by omega)]) (fun u _ => es 25 u (by omega)) (funext fun u => es 18 u (by omega)) (es 0 14 (by omega)) _).symm
  · rw [es 19 t (by omega), es 20 t (by omega), es 21 t (by omega), es 24 t (by omega)]; exact a15 t h1 h2
  · rcases hj with ⟨rfl, rfl⟩ | ⟨rfl, rfl⟩
    · rw [es 12 a (by omega), es 13 a (by omega)]; exact a16 a h1 h2
    · rw [es 12 a (by omega), es 13 a (by omega)]; exact a16 a h1 h2
theorem take2 {v' : S2} {t : Nat} : (C_takeFromHolder na nt v r t).2 = (C_takeFromHolder na nt v' r t).2 := by
  unfold C_takeFromHolder
  split <;> rfl
theorem leaveL_u2 {p : Int32} {n j i : Nat} {x : Int32} (hj : ¬ j = 11) : M_leaveL (u2 s j i x) p n = u2 (M_leaveL s p n) j i x := by
  funext a b
  rw [M_leaveL_at, u2_at, u2_at, u2_at, M_leaveL_at]
  by_cases e : a = 11 ∧ b < n ∧ s 11 b = p
  · rw [if_pos ⟨e.1, e.2.1, by rw [if_neg (fun q => hj q.1.symm)]; exact e.2.2⟩, if_neg (fun q => hj (q.1.symm.trans e.1)), if_pos e]
  · rw [if_neg (fun q => e ⟨q.1, q.2.1, by have := q.2.2; rw [if_neg (fun q => hj q.1.symm)] at this; exact this⟩)]
    by_cases e2 : a = j ∧ b = i
    · rw [if_pos e2, if_pos e2]
    · rw [if_neg e2, if_neg e2, if_neg e]
theorem lt_step {x y : Int32} (h : x < y) : (x + 1).toInt = x.toInt + 1 := by
  rw [Int32.lt_iff_toInt_lt] at h
  have h1 := Int32.minValue_le_toInt x
  have h2 := Int32.toInt_le y
  have e1 : Int32.minValue.toInt = -2147483648 := by decide
  have e2 : Int32.maxValue.toInt = 2147483647 := by decide
  rw [Int32.toInt_add, show (1 : Int32).toInt = 1 from by decide]
  exact Int.bmod_eq_of_le (by omega) (by omega)
theorem Rel.workS (h : Rel N na nt v r s) {a k : Nat} (ha : a < na) (hk : r 15 a = some k) :
    (v 26 k + 1 = v 23 k ↔ s 17 k ≤ s 21 k + 1) ∧
    (v 26 k + 1 = v 23 k → Rel N na nt (u2 (u2 (u2 (u2 (u2 v 16 a (v 16 a + 1)) 26 k (v 26 k + 1)) 24 k 3) 30 k (v 0 0)) 17 a (v 17 a + 1)) (C_takeFromHolder na nt v r k).2 (u2 (u2 (M_leave (u2 (u2 s 12 a (s 12 a + 1)) 21 k (s 21 k + 1)) (nI k) 3) 25 k (s 0 1)) 13 a (s 13 a + 1))) ∧
    (¬ v 26 k + 1 = v 23 k → Rel N na nt (u2 (u2 v 16 a (v 16 a + 1)) 26 k (v 26 k + 1)) r (u2 (u2 s 12 a (s 12 a + 1)) 21 k (s 21 k + 1))) := by
  have hT := h.cTb
  have ga := h.ag a ha
  obtain ⟨hkt, hr32, h24⟩ := ga.heldb k hk
  have g := h.tk k hkt
  have hlt := g.doneb (Or.inr (Or.inl h24))
  have hst := lt_step hlt
  have hlt' := hlt
  rw [Int32.lt_iff_toInt_lt] at hlt'
  have hw := h.agU (j := 16) (j' := 12) ha (Or.inl ⟨rfl, rfl⟩) (v 16 a + 1)
  have hs4 : ¬ s 19 k = 4 := by rw [g.state, h24]; decide
  rw [ga.wrk, ga.sol, g.don, g.eff]
  refine ⟨?_, fun e => ?_, fun e => ?_⟩
  · rw [Int32.le_iff_toInt_le, ← Int32.toInt_inj, hst]
    omega
  · have hk2 := hw.takeM hkt
    rw [take2 (v' := v)] at hk2
    have fr : ∀ b, b < na → ¬ (C_takeFromHolder na nt v r k).2 15 b = some k := h.free hkt
    have el : M_leave (u2 (u2 s 12 a (v 16 a + 1)) 21 k (v 26 k + 1)) (nI k) 3 = u2 (u2 (M_leaveL (u2 s 12 a (v 16 a + 1)) (nI k) na) 21 k (v 26 k + 1)) 19 k 3 := by
      have e06 : u2 (u2 s 12 a (v 16 a + 1)) 21 k (v 26 k + 1) 0 6 = s 0 6 := by rw [u2_ne1 (by decide), u2_ne1 (by decide)]
      rw [M_leave, e06, h.ixA, ix_nI (by omega), leaveL_u2 (by decide)]
    rw [el]
    have hmid : Rel N na nt (u2 (u2 (u2 (u2 v 16 a (v 16 a + 1)) 26 k (v 26 k + 1)) 24 k 3) 30 k (v 0 0)) (C_takeFromHolder na nt v r k).2 (u2 (u2 (u2 (M_leaveL (u2 s 12 a (v 16 a + 1)) (nI k) na) 21 k (v 26 k + 1)) 19 k 3) 25 k (s 0 1)) := by
      refine hk2.upT2 (Nat.le_refl _) hkt (fun j t _ z => ?_) (fun j t z => ?_) (fun _ _ _ => rfl) (MI_note (MI_state (MI_u2 (by decide) hk2.mi) (by decide)) (by rw [u2_same]; decide)) (fun b hb q => absurd q (fr b hb)) ?_ (fun t ht => ?_)
      · rw [u2_at, if_neg (by omega), u2_at, if_neg (by omega), u2_at, if_neg (by omega)]
      · rw [u2_at, if_neg (by omega), u2_at, if_neg (by omega), u2_at, if_neg (by omega)]
      · obtain ⟨b1, b2, b3, b4, b5, b6, b7, b8, b9, b10, b11, b12, b13, b14, b15, b16, b17, b18, b19, b20, b21, b22, b23, b24⟩ := hk2.tk k hkt
        have z24 : u2 (u2 (u2 (u2 v 16 a (v 16 a + 1)) 26 k (v 26 k + 1)) 24 k 3) 30 k (v 0 0) 24 k = 3 := by rw [u2_ne1 (by decide), u2_same]
        have z26 : u2 (u2 (u2 (u2 v 16 a (v 16 a + 1)) 26 k (v 26 k + 1)) 24 k 3) 30 k (v 0 0) 26 k = v 26 k + 1 := by rw [u2_ne1 (by decide), u2_ne1 (by decide), u2_same]
        refine ⟨b1, b2, b3, b4, ?_, b6, ?_, b8, b9, b10, b11, b12, fun q => ?_, fun _ => b14 (by rw [u2_ne1 (by decide), h24]; decide), fun q => ?_, fun _ => ?_, Or.inr (Or.inr (Or.inr (Or.inl z24))), b18, b19, b20, b21, fun q => ?_, fun _ => ?_, b24⟩
        · rw [z24, u2_ne1 (by decide), u2_same]
        · rw [z26, u2_ne1 (by decide), u2_ne1 (by decide), u2_same]
        · rw [z24] at q; exact absurd q (by decide)
        · rw [z24] at q; exact absurd q (by decide)
        · rw [u2_same, u2_same, h.min]
        · rw [z24] at q; exact absurd q (by decide)
        · rw [z26, e, u2_ne1 (by decide), u2_ne1 (by decide), u2_ne1 (by decide), u2_ne1 (by decide)]
      · rw [u2_ne1 (by decide), u2_ne1 (by decide), u2_ne1 (by decide), hk2.cust t ht]
        refine (M_cust_cg (fun u => ?_) (fun u hu => ?_) (by rw [u2_ne1 (by decide), u2_ne1 (by decide), u2_ne1 (by decide)]) (by rw [u2_ne1 (by decide), u2_ne1 (by decide), u2_ne1 (by decide)]) _).symm
        · rw [u2_ne1 (by decide), u2_at, u2_ne1 (by decide), leaveL_ne (by decide), u2_ne1 (by decide)]
          by_cases e9 : u = k
          · rw [if_pos ⟨rfl, e9⟩, e9]
            exact ⟨fun z => absurd z (by decide), fun z => absurd z hs4⟩
          · rw [if_neg (fun z => e9 z.2)]
        · rw [leaveL_ne (by decide), u2_ne1 (by decide)] at hu
          have e9 : ¬ u = k := fun z => hs4 (z ▸ hu)
          rw [u2_at, if_neg (fun z => e9 z.2), u2_ne1 (by decide), u2_ne1 (by decide)]
    exact hmid.agU (j := 17) (j' := 13) ha (Or.inr ⟨rfl, rfl⟩) (v 17 a + 1)
  · refine hw.upT (Nat.le_refl _) hkt (fun j t z => ?_) (fun j t z => ?_) (fun _ _ _ => rfl) (MI_u2 (by decide) hw.mi) (fun q => ?_) ?_ (fun t ht => ?_)
    · rw [u2_at, if_neg (by omega)]
    · rw [u2_at, if_neg (by omega)]
    · rw [u2_ne1 (by decide)]; exact q
    · obtain ⟨b1, b2, b3, b4, b5, b6, b7, b8, b9, b10, b11, b12, b13, b14, b15, b16, b17, b18, b19, b20, b21, b22, b23, b24⟩ := hw.tk k hkt
      refine ⟨b1, b2, b3, b4, b5, b6, by rw [u2_same, u2_same], b8, b9, b10, b11, b12, b13, b14, b15, b16, b17, b18, b19, b20, b21, fun _ => ?_, fun q => ?_, b24⟩
      · rw [u2_same, u2_ne1 (by decide), u2_ne1 (by decide), Int32.lt_iff_toInt_lt, hst]
        rw [← Int32.toInt_inj, hst] at e
        omega
      · rw [u2_ne1 (by decide), u2_ne1 (by decide), h24] at q; exact absurd q (by decide)
    · rw [u2_ne1 (by decide), hw.cust t ht]
      exact (M_cust_cg (fun _ => by rw [u2_ne1 (by decide)]) (fun _ _ => by rw [u2_ne1 (by decide)]) (u2_ne1 (by decide)) (by rw [u2_ne1 (by decide)]) _).symm
theorem bV_u2 {j i : Nat} {x : Int32} (hj : ¬ j = 0) : bV (u2 v j i x) = u2 (bV v) j i x := by
  unfold bV
  rw [u2_ne1 (fun q => hj q.symm), u2_comm hj]
theorem bS_u2 {j i : Nat} {x : Int32} (hj : ¬ j = 0) : bS (u2 s j i x) = u2 (bS s) j i x := by
  unfold bS
  rw [u2_ne1 (fun q => hj q.symm), u2_comm hj]
theorem bV_ne {j : Nat} (hj : ¬ j = 0) : bV v j = v j := u2_ne1 hj
theorem bS_ne {j : Nat} (hj : ¬ j = 0) : bS s j = s j := u2_ne1 hj
theorem bV_00 : bV v 0 0 = v 0 0 + 1 := u2_same _ _ _ _
theorem bS_01 : bS s 0 1 = s 0 1 + 1 := u2_same _ _ _ _
theorem bS_leave {p x : Int32} : bS (M_leave s p x) = M_leave (bS s) p x := by
  have e06 : bS s 0 6 = s 0 6 := by unfold bS; rw [u2_at, if_neg (by omega)]
  funext a b
  rw [M_leave_at, e06, bS_ne (j := 11) (by decide)]
  unfold bS
  rw [u2_at, M_leave_at, M_leave_at, u2_at]
  by_cases e : a = 0 ∧ b = 1
  · rw [if_pos e, if_neg (by omega), if_neg (by omega), if_neg (by omega), if_neg (by omega), if_pos e]
  · rw [if_neg e, if_neg e]
theorem Rel.workL (h : Rel N na nt (bV v) r (bS s)) : ∀ n, n ≤ na → (C_workL na nt v r n).1 = (M_pmW s n).1 ∧ Rel N na nt (bV (C_workL na nt v r n).2.1) (C_workL na nt v r n).2.2 (bS (M_pmW s n).2)
  | 0, _ => ⟨rfl, h⟩
  | n + 1, hn => by
    obtain ⟨ic, ih⟩ := h.workL n (by omega)
    have hA := h.cAb
    have hT := h.cTb
    have hl : n < na := by omega
    rw [C_workL_s, C_workLB, M_pmW, M_pmWB]
    generalize (C_workL na nt v r n).1 = c at ic ⊢
    generalize (C_workL na nt v r n).2.1 = x at ih ⊢
    generalize (C_workL na nt v r n).2.2 = y at ih ⊢
    generalize (M_pmW s n).1 = d at ic ⊢
    generalize (M_pmW s n).2 = z at ih ⊢
    have hold := (ih.ag n hl).hold
    rw [bS_ne (by decide)] at hold
    rw [hold]
    cases e : y 15 n with
    | none =>
      rw [if_pos rfl, if_pos (show hnd none = -1 from rfl)]
      exact ⟨ic, ih⟩
    | some k =>
      obtain ⟨hk, _, _⟩ := (ih.ag n hl).heldb k e
      obtain ⟨w1, w2, w3⟩ := ih.workS hl e
      rw [if_neg (by intro q; cases q), if_neg (show ¬ hnd (some k) = -1 from nI_ne_m1 (by omega)), show gd (some k) = k from rfl, show hnd (some k) = nI k from rfl, ix_nI (by omega), u2_same, u2_same]
      rw [bV_ne (by decide), bV_ne (by decide), bS_ne (by decide), bS_ne (by decide)] at w1
      by_cases q : x 26 k + 1 = x 23 k
      · rw [if_pos q, if_pos (w1.mp q)]
        refine ⟨congrArg (fun t => t + 1) ic, ?_⟩
        have hq := w2 (by rw [bV_ne (by decide), bV_ne (by decide)]; exact q)
        rw [bV_ne (j := 16) (by decide), bV_ne (j := 26) (by decide), bV_ne (j := 17) (by decide), bV_00, bS_ne (j := 12) (by decide), bS_ne (j := 21) (by decide), bS_ne (j := 13) (by decide), bS_01] at hq
        have e1 : bV (C_solve na nt (u2 (u2 x 16 n (x 16 n + 1)) 26 k (x 26 k + 1)) y k n).1 = u2 (u2 (u2 (u2 (u2 (bV x) 16 n (x 16 n + 1)) 26 k (x 26 k + 1)) 24 k 3) 30 k (x 0 0 + 1)) 17 n (x 17 n + 1) := by
          unfold C_solve
          rw [take_v]
          show bV (u2 (u2 (u2 (u2 (u2 x 16 n (x 16 n + 1)) 26 k (x 26 k + 1)) 24 k 3) 30 k (u2 (u2 x 16 n (x 16 n + 1)) 26 k (x 26 k + 1) 0 0 + 1)) 17 n (u2 (u2 x 16 n (x 16 n + 1)) 26 k (x 26 k + 1) 17 n + 1)) = _
          rw [bV_u2 (by decide), bV_u2 (by decide), bV_u2 (by decide), bV_u2 (by decide), bV_u2 (by decide), show u2 (u2 x 16 n (x 16 n + 1)) 26 k (x 26 k + 1) 0 0 = x 0 0 from by rw [u2_ne1 (by decide), u2_ne1 (by decide)], show u2 (u2 x 16 n (x 16 n + 1)) 26 k (x 26 k + 1) 17 n = x 17 n from by rw [u2_ne1 (by decide), u2_ne1 (by decide)]]
        have e2 : (C_solve na nt (u2 (u2 x 16 n (x 16 n + 1)) 26 k (x 26 k + 1)) y k n).2 = (C_takeFromHolder na nt (bV x) y k).2 := by
          unfold C_solve
          exact take2
        have l0 : M_leave (u2 (u2 z 12 n (z 12 n + 1)) 21 k (z 21 k + 1)) (nI k) 3 0 1 = z 0 1 := by rw [M_leave_fn (by decide) (by decide), u2_ne1 (by decide), u2_ne1 (by decide)]
        have l13 : M_leave (u2 (u2 z 12 n (z 12 n + 1)) 21 k (z 21 k + 1)) (nI k) 3 13 n = z 13 n := by rw [M_leave_fn (by decide) (by decide), u2_ne1 (by decide), u2_ne1 (by decide)]
        show Rel N na nt (bV (C_solve na nt (u2 (u2 x 16 n (x 16 n + 1)) 26 k (x 26 k + 1)) y k n).1) (C_solve na nt (u2 (u2 x 16 n (x 16 n + 1)) 26 k (x 26 k + 1)) y k n).2 (bS (u2 (u2 (M_leave (u2 (u2 z 12 n (z 12 n + 1)) 21 k (z 21 k + 1)) (nI k) 3) 25 k (M_leave (u2 (u2 z 12 n (z 12 n + 1)) 21 k (z 21 k + 1)) (nI k) 3 0 1 + 1)) 13 n (M_leave (u2 (u2 z 12 n (z 12 n + 1)) 21 k (z 21 k + 1)) (nI k) 3 13 n + 1)))
        rw [e1, e2, l0, l13, bS_u2 (by decide), bS_u2 (by decide), bS_leave, bS_u2 (by decide), bS_u2 (by decide)]
        exact hq
      · rw [if_neg q, if_neg (fun t => q (w1.mpr t))]
        refine ⟨ic, ?_⟩
        have hq := w3 (by rw [bV_ne (by decide), bV_ne (by decide)]; exact q)
        rw [bV_ne (by decide), bV_ne (by decide), bS_ne (by decide), bS_ne (by decide), ← bV_u2 (by decide), ← bV_u2 (by decide), ← bS_u2 (by decide), ← bS_u2 (by decide)] at hq
        exact hq
theorem solve_v {t a : Nat} : (C_solve na nt v r t a).1 0 = v 0 := by
  unfold C_solve
  dsimp only
  rw [u2_ne1 (by decide), u2_ne1 (by decide), u2_ne1 (by decide), take_v]
theorem pmH_0 : ∀ n, M_pmH s n 0 = s 0
  | 0 => rfl
  | n + 1 => by
    rw [M_pmH, M_pmHB]
    have ih := pmH_0 n
    generalize M_pmH s n = z at ih ⊢
    split
    · exact ih
    · split
      · exact ih
      · rw [M_leave_fn (by decide) (by decide)]; exact ih
theorem pmG_0 : ∀ n, M_pmG s n 0 = s 0
  | 0 => rfl
  | n + 1 => by
    rw [M_pmG, M_pmGB]
    have ih := pmG_0 n
    generalize M_pmG s n = z at ih ⊢
    split
    · split
      · split
        · exact ih
        · split
          · rw [u2_ne1 (by decide), u2_ne1 (by decide), u2_ne1 (by decide), u2_ne1 (by decide)]; exact ih
          · rw [u2_ne1 (by decide), u2_ne1 (by decide), u2_ne1 (by decide)]; exact ih
      · exact ih
    · exact ih
theorem pmA_0 (n : Nat) : M_pmA s n 0 = s 0 := funext fun b => by rw [pmA_at, if_neg (by omega)]
theorem pmW_0 : ∀ n, (M_pmW s n).2 0 = s 0
  | 0 => rfl
  | n + 1 => by
    rw [M_pmW, M_pmWB]
    have ih := pmW_0 n
    generalize (M_pmW s n).2 = z at ih ⊢
    generalize (M_pmW s n).1 = d
    split
    · exact ih
    · split
      · dsimp only
        rw [u2_ne1 (by decide), u2_ne1 (by decide), M_leave_fn (by decide) (by decide), u2_ne1 (by decide), u2_ne1 (by decide)]; exact ih
      · dsimp only
        rw [u2_ne1 (by decide), u2_ne1 (by decide)]; exact ih
theorem pm_00 : (M_passMinute s).2 0 0 = s 0 0 := by
  unfold M_passMinute
  split
  · dsimp only
    rw [u2_at, if_neg (by omega), pmW_0, pmA_0, pmG_0, pmH_0]
  · dsimp only
    rw [u2_at, if_neg (by omega), pmW_0, pmG_0, pmH_0]
theorem passL_00 : ∀ n, (M_passL s n).2 0 0 = s 0 0
  | 0 => rfl
  | n + 1 => by
    rw [M_passL, M_passLB]
    exact pm_00.trans (passL_00 n)
theorem workL_00 : ∀ n, (C_workL na nt v r n).2.1 0 = v 0
  | 0 => rfl
  | n + 1 => by
    have ih := workL_00 n
    rw [C_workL_s, C_workLB]
    generalize (C_workL na nt v r n).1 = c at ih ⊢
    generalize (C_workL na nt v r n).2.1 = x at ih ⊢
    generalize (C_workL na nt v r n).2.2 = y at ih ⊢
    split
    · exact ih
    · split
      · refine (solve_v (na := na) (nt := nt)).trans ?_
        rw [u2_ne1 (by decide), u2_ne1 (by decide)]
        exact ih
      · dsimp only
        rw [u2_ne1 (by decide), u2_ne1 (by decide)]
        exact ih
theorem Rel.minute (h : Rel N na nt v r s) (hm : vp_in (v 0 0) 99999) : (C_passMinute na nt v r).1 = (M_passMinute s).1 ∧ Rel N na nt (C_passMinute na nt v r).2.1 (C_passMinute na nt v r).2.2 (M_passMinute s).2 ∧ (C_passMinute na nt v r).2.1 0 0 = v 0 0 + 1 := by
  obtain ⟨h1, z1⟩ := h.homeL na (Nat.le_refl _)
  have eH : C_sendHomeAgents na nt v r = ((C_homeL na nt v r na).1, (C_homeL na nt v r na).2) := rfl
  unfold C_passMinute M_passMinute
  rw [eH, h.ixA, h.ixT]
  generalize (C_homeL na nt v r na).1 = x1 at h1 z1 ⊢
  generalize (C_homeL na nt v r na).2 = y1 at h1 ⊢
  generalize M_pmH s na = t1 at h1 ⊢
  obtain ⟨h2, z2⟩ := h1.outL na (Nat.le_refl _)
  have eO : C_giveOutTickets na nt x1 y1 = ((C_outL na nt x1 y1 na).1, (C_outL na nt x1 y1 na).2) := rfl
  try dsimp only
  rw [eO]
  generalize (C_outL na nt x1 y1 na).1 = x2 at h2 z2 ⊢
  generalize (C_outL na nt x1 y1 na).2 = y2 at h2 ⊢
  generalize M_pmG t1 na = t2 at h2 ⊢
  try dsimp only
  have zz : x2 0 0 = v 0 0 := by rw [z2, z1]
  have hm2 : vp_in (x2 0 0) 99999 := by rw [zz]; exact hm
  rw [h2.serv, h2.min]
  by_cases c : M_isService t2 (x2 0 0) = true
  · rw [if_pos c, if_pos c]
    have eA : C_ageTickets na nt x2 y2 = (C_ageL na nt x2 y2 nt, y2) := rfl
    rw [eA]
    try dsimp only
    have h3 := h2.ageU hm2
    have z3 : C_ageL na nt x2 y2 nt 0 0 = x2 0 0 := by rw [ageL_at, if_neg (by omega)]
    generalize C_ageL na nt x2 y2 nt = x3 at h3 z3 ⊢
    generalize M_pmA t2 nt = t3 at h3 ⊢
    obtain ⟨wc, wr⟩ := h3.workL na (Nat.le_refl _)
    refine ⟨wc, wr, ?_⟩
    show u2 (C_workL na nt x3 y2 na).2.1 0 0 ((C_workL na nt x3 y2 na).2.1 0 0 + 1) 0 0 = _
    rw [u2_same, workL_00, z3, zz]
  · rw [if_neg c, if_neg c]
    obtain ⟨wc, wr⟩ := (h2.bumpU hm2).workL na (Nat.le_refl _)
    refine ⟨wc, wr, ?_⟩
    show u2 (C_workL na nt x2 y2 na).2.1 0 0 ((C_workL na nt x2 y2 na).2.1 0 0 + 1) 0 0 = _
    rw [u2_same, workL_00, zz]
theorem Rel.passL (h : Rel N na nt v r s) {M : Nat} (hM : (v 0 0).toInt + M ≤ 99999) : ∀ n, n ≤ M → (C_passL na nt v r n).1 = (M_passL s n).1 ∧ Rel N na nt (C_passL na nt v r n).2.1 (C_passL na nt v r n).2.2 (M_passL s n).2 ∧ ((C_passL na nt v r n).2.1 0 0).toInt = (v 0 0).toInt + n
  | 0, _ => ⟨rfl, h, by show (v 0 0).toInt = (v 0 0).toInt + ((0 : Nat) : Int); omega⟩
  | n + 1, hn => by
    obtain ⟨ic, ih, iz⟩ := h.passL hM n (by omega)
    have h0 := vp_in_iff.mp h.minb
    rw [C_passL_s, C_passLB, M_passL, M_passLB]
    generalize (C_passL na nt v r n).1 = c at ic ⊢
    generalize (C_passL na nt v r n).2.1 = x at ih iz ⊢
    generalize (C_passL na nt v r n).2.2 = y at ih ⊢
    generalize (M_passL s n).1 = d at ic ⊢
    generalize (M_passL s n).2 = z at ih ⊢
    have hm : vp_in (x 0 0) 99999 := vp_in_iff.mpr ⟨by omega, by omega⟩
    obtain ⟨m1, m2, m3⟩ := ih.minute hm
    refine ⟨?_, m2, ?_⟩
    · show c + _ = d + _
      rw [ic, m1]
    · show ((C_passMinute na nt x y).2.1 0 0).toInt = _
      rw [m3, min_up hm, iz]
      omega
theorem AG_pass (h : Rel N na nt v r s) (p0 : Int32) : AG [1, 3] N na nt (C_pass na nt v r p0) (M_pass s p0) := by
  have h0 := (h.thr 0).mono
  have hb := vp_in_iff.mp h.minb
  have e1 : (1 : Int32).toInt = 1 := by decide
  have e600 : (600 : Int32).toInt = 600 := by decide
  have e601 : (601 : Int32).toInt = 601 := by decide
  have e9 : (99999 : Int32).toInt = 99999 := by decide
  have hi : M_isIn p0 1 600 = true ↔ ¬ p0 < 1 ∧ p0 < 601 := isIn_lt (n := 600) (by decide)
  have h600 : p0 ≤ 600 ↔ p0 < 601 := by
    rw [Int32.le_iff_toInt_le, Int32.lt_iff_toInt_lt, e600, e601]; omega
  unfold C_pass M_pass
  by_cases h2 : M_isIn p0 1 600 = true
  · obtain ⟨z1, z2⟩ := hi.mp h2
    rw [if_neg z1, if_pos (h600.mpr z2), if_pos h2, h.min]
    rw [Int32.lt_iff_toInt_lt, e1] at z1
    rw [Int32.lt_iff_toInt_lt, e601] at z2
    have hs : (99999 - v 0 0).toInt = 99999 - (v 0 0).toInt := by
      rw [Int32.toInt_sub, e9]
      exact Int.bmod_eq_of_le (by omega) (by omega)
    have ha : (v 0 0 + p0).toInt = (v 0 0).toInt + p0.toInt := by
      rw [Int32.toInt_add]
      exact Int.bmod_eq_of_le (by omega) (by omega)
    have hc : p0 ≤ 99999 - v 0 0 ↔ v 0 0 + p0 ≤ 99999 := by
      rw [Int32.le_iff_toInt_le, Int32.le_iff_toInt_le, hs, ha, e9]; omega
    by_cases c : v 0 0 + p0 ≤ 99999
    · rw [if_pos (hc.mpr c), if_pos c]
      have hp : p0.toInt = (ix p0 : Int) := by
        have q : vp_in p0 601 := vp_in_iff.mpr ⟨by omega, by omega⟩
        have := vp_lt q
        conv => lhs; rw [in_nI q]
        exact nI_toInt (by omega)
      rw [Int32.le_iff_toInt_le, ha, e9] at c
      obtain ⟨r1, r2, r3⟩ := h0.passL (M := ix p0) (by omega) (ix p0) (Nat.le_refl _)
      exact AG.ok (by rw [passL_00]; exact u2_00 s 0) r1 r2
    · rw [if_neg (fun q => c (hc.mp q)), if_neg c]; exact AG.no (j := 1) h (by decide) rfl
  · rw [if_neg h2]
    by_cases z1 : p0 < 1
    · rw [if_pos z1]; exact AG.no (j := 0) h (by decide) rfl
    · rw [if_neg z1, if_neg (fun z2 => h2 (hi.mpr ⟨z1, h600.mp z2⟩))]; exact AG.no (j := 0) h (by decide) rfl
end WORK
