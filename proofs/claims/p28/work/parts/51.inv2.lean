/-! a minute passes; hours of service -/
section TIME
variable {na nt : Nat} {K v : S2} {r : R2} {E S M : Int} {so : Int32}
def modN (o c m a b : Nat) : Nat := if m / 1440 % 7 < 5 then min (m + c) b - max a (m + o) else 0
def FN (o c d : Nat) : Nat := (d / 7 * 5 + min (d % 7) 5) * (c - o)
def AN (o c x : Nat) : Nat := FN o c (x / 1440) + (if x / 1440 % 7 < 5 then min (x % 1440) c - o else 0)
theorem AN_part {o c : Nat} (hc : c ≤ 1440) (d y : Nat) (hy : y ≤ 1440) : AN o c (1440 * d + y) = FN o c d + (if d % 7 < 5 then min y c - o else 0) := by
  unfold AN
  by_cases h : y = 1440
  · subst h
    have e1 : (1440 * d + 1440) / 1440 = d + 1 := by omega
    have e2 : (1440 * d + 1440) % 1440 = 0 := by omega
    rw [e1, e2]
    have e3 : (d + 1) / 7 * 5 + min ((d + 1) % 7) 5 = d / 7 * 5 + min (d % 7) 5 + (if d % 7 < 5 then 1 else 0) := by split <;> omega
    have e4 : FN o c (d + 1) = FN o c d + (if d % 7 < 5 then 1 else 0) * (c - o) := by
      unfold FN
      rw [e3, Nat.add_mul]
    rw [e4]
    have e5 : (if (d + 1) % 7 < 5 then min 0 c - o else 0) = 0 := by split <;> omega
    rw [e5]
    by_cases q : d % 7 < 5
    · rw [if_pos q, if_pos q, Nat.one_mul]; omega
    · rw [if_neg q, if_neg q, Nat.zero_mul]
  · have e1 : (1440 * d + y) / 1440 = d := by omega
    have e2 : (1440 * d + y) % 1440 = y := by omega
    rw [e1, e2]
theorem AN_step {o c m a b : Nat} (hoc : o < c) (hc : c ≤ 1440) (hm : m % 1440 = 0) (ha : a < m + 1440) (hab : a ≤ b) (hmb : m < b) : modN o c m a b + AN o c (max a (min b m)) = AN o c (max a (min b (m + 1440))) := by
  obtain ⟨d, rfl⟩ : ∃ d, m = 1440 * d := ⟨m / 1440, by omega⟩
  have e1 : max a (min b (1440 * d)) = 1440 * d + (max a (1440 * d) - 1440 * d) := by omega
  have e2 : max a (min b (1440 * d + 1440)) = 1440 * d + (min b (1440 * d + 1440) - 1440 * d) := by omega
  rw [e1, e2, AN_part hc _ _ (by omega), AN_part hc _ _ (by omega)]
  unfold modN
  rw [show 1440 * d / 1440 = d by omega]
  by_cases q : d % 7 < 5
  · rw [if_pos q, if_pos q, if_pos q]; omega
  · rw [if_neg q, if_neg q, if_neg q]; omega
theorem max0 {x y : Nat} (hx : x < 2 ^ 30) (hy : y < 2 ^ 30) : (if (0 : Int32) < nI x - nI y then nI x - nI y else 0) = nI (x - y) := by
  by_cases h : y ≤ x
  · rw [nI_sub h]
    by_cases e : x - y = 0
    · rw [e, if_neg (by decide)]; rfl
    · rw [if_pos (show (0 : Int32) < nI (x - y) from nI_lt (a := 0) (by omega) (by omega))]
  · have e : nI x - nI y = -(nI (y - x)) := by
      rw [← nI_sub (show x ≤ y by omega), Int32.neg_sub]
    have ei : (nI x - nI y).toInt = (x : Int) - y := by
      rw [Int32.toInt_sub, nI_toInt (by omega), nI_toInt (by omega)]
      exact Int.bmod_eq_of_le (by omega) (by omega)
    rw [if_neg (by rw [Int32.lt_iff_toInt_lt, ei, show (0 : Int32).toInt = 0 from by decide]; omega), show x - y = 0 by omega]
    rfl
theorem minI {x y : Nat} (hx : x < 2 ^ 30) (hy : y < 2 ^ 30) : (if nI x < nI y then nI x else nI y) = nI (min x y) := by
  by_cases h : x < y
  · rw [if_pos (nI_lt h (by omega)), Nat.min_eq_left (by omega)]
  · rw [if_neg (nI_nlt (by omega) (by omega)), Nat.min_eq_right (by omega)]
theorem maxI {x y : Nat} (hx : x < 2 ^ 30) (hy : y < 2 ^ 30) : (if nI x < nI y then nI y else nI x) = nI (max x y) := by
  by_cases h : x < y
  · rw [if_pos (nI_lt h (by omega)), Nat.max_eq_right (by omega)]
  · rw [if_neg (nI_nlt (by omega) (by omega)), Nat.max_eq_left (by omega)]
theorem dow_eq {x : Int32} {n : Nat} (h : vp_in x n) : C_dayOfWeek x = nI (ix x / 1440 % 7) := by
  have hl : ix x < 2 ^ 31 := by
    obtain ⟨j, hj, e⟩ := nI_of (x := x) (fun z => h (Or.inl z))
    rw [e, ix_nI hj]; exact hj
  have e := in_nI h
  have e2 : x / 1440 = nI (ix x / 1440) := by
    conv => lhs; rw [e]
    exact nI_div hl (by decide) (by decide)
  have hd : ix x / 1440 < 2 ^ 31 := Nat.lt_of_le_of_lt (Nat.div_le_self _ _) hl
  unfold C_dayOfWeek
  rw [e2, show nI (ix x / 1440) / 7 = nI (ix x / 1440 / 7) from nI_div hd (by decide) (by decide), show nI (ix x / 1440 / 7) * 7 = nI (ix x / 1440 / 7 * 7) from nI_mul _ 7, nI_sub (Nat.div_mul_le_self _ _)]
  congr 1
  omega
theorem dowN {m : Nat} (hm : m < 200000) : C_dayOfWeek (nI m) = nI (m / 1440 % 7) := by
  rw [dow_eq (show vp_in (nI m) 200000 from vp_in_nI hm (by decide)), ix_nI (by omega)]
theorem modI {o c m a b : Nat} (hv1 : v 0 1 = nI o) (hv2 : v 0 2 = nI c) (hc : c ≤ 1440) (ho : o ≤ 1440) (hm : m < 200000) (ha : a < 200000) (hb : b < 200000) : C_H_minutesOfDay na nt v r (nI m) (nI a) (nI b) = nI (modN o c m a b) := by
  unfold C_H_minutesOfDay modN
  rw [dowN hm, hv1, hv2, nI_add, nI_add, minI (by omega) (by omega), maxI (by omega) (by omega), max0 (by omega) (by omega)]
  by_cases q : m / 1440 % 7 < 5
  · rw [if_pos (show nI (m / 1440 % 7) < 5 from nI_lt (b := 5) q (by decide)), if_pos q]
  · rw [if_neg (show ¬ nI (m / 1440 % 7) < 5 from nI_nlt (b := 5) (by omega) (by omega)), if_neg q]; rfl
theorem mbL_eq {o c a b : Nat} (hv1 : v 0 1 = nI o) (hv2 : v 0 2 = nI c) (hoc : o < c) (hc : c ≤ 1440) (hab : a ≤ b) (hb : b ≤ 99999) : ∀ (f m acc : Nat), 100800 ≤ m + f * 1440 → m ≤ 102240 → m % 1440 = 0 → a < m + 1440 → ∃ z, C_mbL na nt v r (nI a) (nI b) f m (nI acc) = nI z ∧ z + AN o c (max a (min b m)) = acc + AN o c b
  | 0, m, acc, h1, h2, h3, h4 => ⟨acc, rfl, by rw [show max a (min b m) = b by omega]⟩
  | f + 1, m, acc, h1, h2, h3, h4 => by
    rw [C_mbL]
    by_cases q : b ≤ m
    · rw [if_pos (nI_le q (by omega))]
      exact ⟨acc, rfl, by rw [show max a (min b m) = b by omega]⟩
    · rw [if_neg (nI_ge (by omega) (by omega)), modI hv1 hv2 hc (by omega) (by omega) (by omega) (by omega), nI_add]
      obtain ⟨z, e1, e2⟩ := mbL_eq hv1 hv2 hoc hc hab hb f (m + 1440) (acc + modN o c m a b) (by omega) (by omega) (by omega) (by omega)
      refine ⟨z, e1, ?_⟩
      have := AN_step hoc hc h3 h4 hab (show m < b by omega)
      omega
theorem AN_small {o c m : Nat} (hm : m < 1440) : AN o c m = min m c - o := by
  unfold AN FN
  rw [show m / 1440 = 0 by omega, show m % 1440 = m by omega]
  simp
theorem serviceE {o c m : Nat} (hv1 : v 0 1 = nI o) (hv2 : v 0 2 = nI c) (hoc : o < c) (hc : c ≤ 1440) (hm : m < 1440) : C_service na nt v r 0 (nI m) = (0, nI (AN o c m), v, r) := by
  obtain ⟨z, z1, z2⟩ := mbL_eq (na := na) (nt := nt) (v := v) (r := r) (a := 0) (b := m) hv1 hv2 hoc hc (by omega) (by omega) 70 0 0 (by omega) (by omega) (by omega) (by omega)
  rw [show max 0 (min m 0) = 0 by omega, AN_small (m := 0) (by omega)] at z2
  unfold C_service
  rw [if_neg (by decide), if_neg (show ¬ nI m < 0 from nI_nlt (a := m) (b := 0) (by omega) (by omega)), if_pos (show nI m ≤ 99999 from nI_le (b := 99999) (by omega) (by decide))]
  have e : C_H_minutesBetween na nt v r 0 (nI m) = nI z := z1
  rw [e, show z = AN o c m by omega]
theorem servE {o c m : Nat} (hv1 : v 0 1 = nI o) (hv2 : v 0 2 = nI c) (hc : c ≤ 1440) (ho : o ≤ 1440) (hm : m < 1440) : C_H_isService na nt v r (nI m) = true ↔ o ≤ m ∧ m < c := by
  have e1 : nI m / 1440 = nI 0 := by rw [show nI m / 1440 = nI (m / 1440) from nI_div (by omega) (by decide) (by decide), show m / 1440 = 0 by omega]
  have e2 : nI m - nI m / 1440 * 1440 = nI m := by
    rw [e1, show nI 0 * 1440 = nI 0 from by decide]
    exact nI_sub (Nat.zero_le _)
  unfold C_H_isService
  rw [dowN (by omega), show m / 1440 % 7 = 0 by omega, if_neg (by decide), e2, hv1, hv2]
  by_cases h1 : m < o
  · rw [if_pos (nI_lt h1 (by omega))]
    exact ⟨fun z => (by cases z), fun z => (by omega)⟩
  · rw [if_neg (nI_nlt (by omega) (by omega))]
    by_cases h2 : c ≤ m
    · rw [if_pos (nI_le h2 (by omega))]
      exact ⟨fun z => (by cases z), fun z => (by omega)⟩
    · rw [if_neg (nI_ge (by omega) (by omega))]
      exact ⟨fun _ => ⟨by omega, by omega⟩, fun _ => rfl⟩
theorem lt_step {x y : Int32} (h : x.toInt < y.toInt) : (x + 1).toInt = x.toInt + 1 := by
  have h1 := Int32.minValue_le_toInt x
  have h2 := Int32.toInt_le y
  have e1 : Int32.minValue.toInt = -2147483648 := by decide
  have e2 : Int32.maxValue.toInt = 2147483647 := by decide
  rw [Int32.toInt_add, show (1 : Int32).toInt = 1 from by decide]
  exact Int.bmod_eq_of_le (by omega) (by omega)
theorem toI_add {x y : Int32} (h1 : -2147483648 ≤ x.toInt + y.toInt) (h2 : x.toInt + y.toInt < 2147483648) : (x + y).toInt = x.toInt + y.toInt := by
  rw [Int32.toInt_add]
  exact Int.bmod_eq_of_le (by omega) (by omega)
theorem ageL_at : ∀ (n a b : Nat), C_ageL na nt v r n a b = if a = 25 ∧ b < n ∧ (v 24 b = 0 ∨ v 24 b = 1) then v 25 b + 1 else v a b
  | 0, a, b => by rw [if_neg (by omega)]; rfl
  | n + 1, a, b => by
    have ih := ageL_at n
    have e24 : C_ageL na nt v r n 24 n = v 24 n := by rw [ih, if_neg (by omega)]
    have e25 : C_ageL na nt v r n 25 n = v 25 n := by rw [ih, if_neg (by omega)]
    have hit : (v 24 n = 0 ∨ v 24 n = 1) → u2 (C_ageL na nt v r n) 25 n (C_ageL na nt v r n 25 n + 1) a b = if a = 25 ∧ b < n + 1 ∧ (v 24 b = 0 ∨ v 24 b = 1) then v 25 b + 1 else v a b := fun q => by
      rw [u2_at, e25]
      by_cases e : a = 25 ∧ b = n
      · rw [if_pos e, e.2, if_pos ⟨e.1, Nat.lt_succ_self n, q⟩]
      · rw [if_neg e, ih]
        by_cases e2 : a = 25 ∧ b < n ∧ (v 24 b = 0 ∨ v 24 b = 1)
        · rw [if_pos e2, if_pos ⟨e2.1, by omega, e2.2.2⟩]
        · rw [if_neg e2, if_neg (fun z => e2 ⟨z.1, by omega, z.2.2⟩)]
    rw [C_ageL_s, C_ageLB, e24]
    by_cases h0 : v 24 n = 0
    · rw [if_pos h0]; exact hit (Or.inl h0)
    · rw [if_neg h0]
      by_cases h1 : v 24 n = 1
      · rw [if_pos h1]; exact hit (Or.inr h1)
      · rw [if_neg h1, ih]
        by_cases e2 : a = 25 ∧ b < n ∧ (v 24 b = 0 ∨ v 24 b = 1)
        · rw [if_pos e2, if_pos ⟨e2.1, by omega, e2.2.2⟩]
        · rw [if_neg e2, if_neg (fun z => by
            by_cases e3 : b = n
            · rw [e3] at z; exact z.2.2.elim h0 h1
            · exact e2 ⟨z.1, by omega, z.2.2⟩)]
theorem ageL_ne {n j : Nat} (hj : ¬ j = 25) : C_ageL na nt v r n j = v j := funext fun b => by rw [ageL_at, if_neg (fun z => hj z.1)]
theorem Iv.age (h : Iv na nt K v r E S M so) (hS : S < 2 ^ 30) (n : Nat) : Iv na nt K (C_ageL na nt v r n) r E (S + 1) M so := by
  obtain ⟨g1, g2, g3, g4, g5⟩ := h
  refine ⟨by rw [ageL_ne (by decide)]; exact g1, fun u hu => ?_, ?_, by rw [ageL_ne (by decide), ageL_ne (by decide)]; exact g4, by rw [ageL_ne (by decide)]; exact g5⟩
  · rw [ageL_ne (j := 24) (by decide), ageL_ne (j := 26) (by decide), ageL_ne (j := 23) (by decide), ageL_ne (j := 27) (by decide), ageL_ne (j := 30) (by decide), ageL_at]
    obtain ⟨q1, q2, q3, q4, q5, q6, q7⟩ := g2 u hu
    split
    · have e : (v 25 u + 1).toInt = (v 25 u).toInt + 1 := toI_add (by rw [show (1 : Int32).toInt = 1 from by decide]; omega) (by rw [show (1 : Int32).toInt = 1 from by decide]; omega)
      exact ⟨q1, q2, q3, q4, by rw [e]; omega, q6, q7⟩
    · exact ⟨q1, q2, q3, q4, by omega, q6, q7⟩
  · exact ⟨(ageL_ne (by decide)).trans g3.1, (ageL_ne (by decide)).trans g3.2.1, (ageL_ne (by decide)).trans g3.2.2.1, (ageL_ne (by decide)).trans g3.2.2.2.1, (ageL_ne (by decide)).trans g3.2.2.2.2⟩
/-- an agent works for a minute -/
theorem Iv.work1 (h : Iv na nt K v r E S M so) {a k : Nat} (ha : a < na) (hk : r 15 a = some k) {m : Nat} (hK0 : K 0 0 = nI m) (hm : m < 2 ^ 30) (hM : (m : Int) + 1 ≤ M) :
    (¬ u2 (u2 v 16 a (v 16 a + 1)) 26 k (v 26 k + 1) 26 k = v 23 k → Iv na nt K (u2 (u2 v 16 a (v 16 a + 1)) 26 k (v 26 k + 1)) r E S M so) ∧
    (u2 (u2 v 16 a (v 16 a + 1)) 26 k (v 26 k + 1) 26 k = v 23 k → Iv na nt K (C_solve na nt (u2 (u2 v 16 a (v 16 a + 1)) 26 k (v 26 k + 1)) r k a).1 (C_solve na nt (u2 (u2 v 16 a (v 16 a + 1)) 26 k (v 26 k + 1)) r k a).2 E S M (so + 1)) := by
  obtain ⟨g1, g2, g3, g4, g5⟩ := h
  obtain ⟨hkt, h32, _⟩ := g1.1 a ha k hk
  have h24 : v 24 k = 1 := (g1.2.2 k hkt).mpr (by rw [h32]; intro z; cases z)
  obtain ⟨q1, q2, q3, q4, q5, q6, q7⟩ := g2 k hkt
  have hne : ¬ v 26 k = v 23 k := fun z => by
    have := q2.mpr z
    rw [h24] at this
    exact absurd this (by decide)
  have hlt : (v 26 k).toInt < (v 23 k).toInt := by
    rcases Int.lt_or_eq_of_le q1.2.1 with z | z
    · exact z
    · exact absurd (Int32.toInt_inj.mp z) hne
  have hst := lt_step hlt
  have hx : ∀ (j u : Nat), ¬ j = 16 → ¬ j = 26 → u2 (u2 v 16 a (v 16 a + 1)) 26 k (v 26 k + 1) j u = v j u := fun j u h1 h2 => by rw [u2_ne1 h2, u2_ne1 h1]
  have hxr : ∀ j : Nat, ¬ j = 16 → ¬ j = 26 → u2 (u2 v 16 a (v 16 a + 1)) 26 k (v 26 k + 1) j = v j := fun j h1 h2 => by rw [u2_ne1 h2, u2_ne1 h1]
  have hx26 : u2 (u2 v 16 a (v 16 a + 1)) 26 k (v 26 k + 1) 26 k = v 26 k + 1 := u2_same _ _ _ _
  have hx26o : ∀ u, u ≠ k → u2 (u2 v 16 a (v 16 a + 1)) 26 k (v 26 k + 1) 26 u = v 26 u := fun u hu => by rw [u2_o hu, u2_ne1 (by decide)]
  have hs16 : sumI (u2 (u2 v 16 a (v 16 a + 1)) 26 k (v 26 k + 1) 16) na = sumI (v 16) na + 1 := by
    rw [sumI_up (f := v 16) (i := a) (x := 1) (by rw [u2_ne1 (by decide), u2_same]) (fun j hj => by rw [u2_ne1 (by decide), u2_o hj]) na, if_pos ha]
  have hs26 : sumI (u2 (u2 v 16 a (v 16 a + 1)) 26 k (v 26 k + 1) 26) nt = sumI (v 26) nt + 1 := by
    rw [sumI_up (f := v 26) (i := k) (x := 1) hx26 hx26o nt, if_pos hkt]
  have hsum : sumI (u2 (u2 v 16 a (v 16 a + 1)) 26 k (v 26 k + 1) 16) na = sumI (u2 (u2 v 16 a (v 16 a + 1)) 26 k (v 26 k + 1) 26) nt := by rw [hs16, hs26, g4]
  rw [hx26]
  generalize u2 (u2 v 16 a (v 16 a + 1)) 26 k (v 26 k + 1) = x at hx hxr hx26 hx26o hsum ⊢
  have hkp : Kp K x := ⟨(hxr 0 (by decide) (by decide)).trans g3.1, (hxr 10 (by decide) (by decide)).trans g3.2.1, (hxr 14 (by decide) (by decide)).trans g3.2.2.1, (hxr 20 (by decide) (by decide)).trans g3.2.2.2.1, (hxr 21 (by decide) (by decide)).trans g3.2.2.2.2⟩
  constructor
  · intro hn
    refine ⟨by rw [hxr 24 (by decide) (by decide)]; exact g1, fun u hu => ?_, hkp, hsum, by rw [hxr 17 (by decide) (by decide)]; exact g5⟩
    rw [hx 24 u (by decide) (by decide), hx 23 u (by decide) (by decide), hx 27 u (by decide) (by decide), hx 25 u (by decide) (by decide), hx 30 u (by decide) (by decide)]
    by_cases e : u = k
    · rw [e, hx26]
      refine ⟨⟨by omega, by omega, q1.2.2⟩, ⟨fun z => ?_, fun z => absurd z hn⟩, fun _ => q4 h24, q4, q5, q6, q7⟩
      rw [h24] at z
      exact absurd z (by decide)
    · rw [hx26o u e]
      exact g2 u hu
  · intro he
    have e00 : x 0 0 = nI m := by rw [hxr 0 (by decide) (by decide), g3.1, hK0]
    unfold C_solve
    dsimp only
    rw [take_v]
    have g1' : Lk na nt K (x 24) r := by rw [hxr 24 (by decide) (by decide)]; exact g1
    refine ⟨g1'.leave hkt (by rw [u2_ne1 (by decide), u2_ne1 (by decide), u2_same]; decide) (fun u hu => by rw [u2_ne1 (by decide), u2_ne1 (by decide), u2_o hu]), fun u hu => ?_, ?_, ?_, ?_⟩
    · by_cases e : u = k
      · rw [e]
        simp only [u2_at]
        simp
        rw [hx26, hx 23 k (by decide) (by decide), hx 27 k (by decide) (by decide), hx 25 k (by decide) (by decide), e00]
        have em : (nI m + 1).toInt = (m : Int) + 1 := by
          rw [show nI m + 1 = nI (m + 1) from nI_add m 1, nI_toInt (by omega)]
          omega
        exact ⟨⟨by omega, by omega, q1.2.2⟩, ⟨fun _ => he, fun _ => rfl⟩, fun _ => q4 h24, fun z => absurd z (by decide), q5, ⟨by omega, by omega⟩, Or.inr (Or.inr (Or.inr (Or.inl rfl)))⟩
      · have eo : ∀ j, ¬ j = 17 → u2 (u2 (u2 x 24 k 3) 30 k (x 0 0 + 1)) 17 a (u2 (u2 x 24 k 3) 30 k (x 0 0 + 1) 17 a + 1) j u = x j u := fun j hj => by rw [u2_ne1 hj, u2_o e, u2_o e]
        rw [u2_ne1 (j := 17) (by decide), u2_ne1 (j := 17) (by decide), u2_ne1 (j := 17) (by decide), u2_ne1 (j := 17) (by decide), u2_ne1 (j := 17) (by decide), u2_ne1 (j := 17) (by decide), u2_o e, u2_o e, u2_o e, u2_o e, u2_o e, u2_o e, u2_o e, u2_o e, u2_o e, u2_o e, u2_o e, u2_o e]
        rw [hx 24 u (by decide) (by decide), hx 23 u (by decide) (by decide), hx 27 u (by decide) (by decide), hx 25 u (by decide) (by decide), hx 30 u (by decide) (by decide), hx26o u e]
        exact g2 u hu
    · exact ⟨by rw [u2_ne1 (by decide), u2_ne1 (by decide), u2_ne1 (by decide)]; exact hkp.1, by rw [u2_ne1 (by decide), u2_ne1 (by decide), u2_ne1 (by decide)]; exact hkp.2.1, by rw [u2_ne1 (by decide), u2_ne1 (by decide), u2_ne1 (by decide)]; exact hkp.2.2.1, by rw [u2_ne1 (by decide), u2_ne1 (by decide), u2_ne1 (by decide)]; exact hkp.2.2.2.1, by rw [u2_ne1 (by decide), u2_ne1 (by decide), u2_ne1 (by decide)]; exact hkp.2.2.2.2⟩
    · rw [u2_ne1 (by decide), u2_ne1 (by decide), u2_ne1 (by decide), u2_ne1 (by decide), u2_ne1 (by decide), u2_ne1 (by decide)]; exact hsum
    · rw [sumI_up (f := x 17) (i := a) (x := 1) (by rw [u2_same]) (fun j hj => by rw [u2_o hj, u2_ne1 (by decide), u2_ne1 (by decide)]) na, if_pos ha, hxr 17 (by decide) (by decide), g5]
theorem Iv.work (h : Iv na nt K v r E S M so) {m : Nat} (hK0 : K 0 0 = nI m) (hm : m < 2 ^ 30) (hM : (m : Int) + 1 ≤ M) : ∀ n, n ≤ na → Iv na nt K (C_workL na nt v r n).2.1 (C_workL na nt v r n).2.2 E S M (so + (C_workL na nt v r n).1)
  | 0, _ => by
    show Iv na nt K v r E S M (so + 0)
    rw [Int32.add_zero]
    exact h
  | n + 1, hn => by
    have ih := h.work hK0 hm hM n (by omega)
    rw [C_workL_s, C_workLB]
    generalize (C_workL na nt v r n).1 = s at ih ⊢
    generalize (C_workL na nt v r n).2.1 = x at ih ⊢
    generalize (C_workL na nt v r n).2.2 = y at ih ⊢
    by_cases e : y 15 n = none
    · rw [if_pos e]; exact ih
    · rw [if_neg e]
      obtain ⟨w1, w2⟩ := ih.work1 (by omega) (gd_some e) hK0 hm hM
      split
      · rename_i c
        have := w2 c
        rw [Int32.add_assoc] at this
        exact this
      · rename_i c
        exact w1 c
theorem u2_id {s : S2} {j i : Nat} {x : Int32} (h : s j i = x) : u2 s j i x = s := funext fun a => funext fun b => by
  rw [u2_at]
  split
  · rename_i e
    rw [e.1, e.2, h]
  · rfl
theorem u2_u2 {s : S2} {j i : Nat} {x y : Int32} : u2 (u2 s j i x) j i y = u2 s j i y := funext fun a => funext fun b => by
  rw [u2_at, u2_at, u2_at]
  split
  · rfl
  · rfl
theorem Iv.tick (h : Iv na nt K v r E S M so) (x : Int32) : Iv na nt (u2 K 0 0 x) (u2 v 0 0 x) r E S M so := by
  obtain ⟨g1, g2, g3, g4, g5⟩ := h
  refine ⟨?_, ?_, ?_, ?_, ?_⟩
  · rw [u2_ne1 (by decide)]
    unfold Lk
    rw [u2_ne1 (by decide), u2_ne1 (by decide)]
    exact g1
  · intro t ht
    rw [u2_ne1 (by decide), u2_ne1 (by decide), u2_ne1 (by decide), u2_ne1 (by decide), u2_ne1 (by decide), u2_ne1 (by decide)]
    exact g2 t ht
  · exact ⟨by rw [u2_row, u2_row, g3.1], by rw [u2_ne1 (by decide), u2_ne1 (by decide)]; exact g3.2.1, by rw [u2_ne1 (by decide), u2_ne1 (by decide)]; exact g3.2.2.1, by rw [u2_ne1 (by decide), u2_ne1 (by decide)]; exact g3.2.2.2.1, by rw [u2_ne1 (by decide), u2_ne1 (by decide)]; exact g3.2.2.2.2⟩
  · rw [u2_ne1 (by decide), u2_ne1 (by decide)]; exact g4
  · rw [u2_ne1 (by decide)]; exact g5
theorem Iv.minute {o c m : Nat} (hoc : o < c) (hc : c ≤ 1440) (hm : m + 1 < 1440) (h1 : K 0 1 = nI o) (h2 : K 0 2 = nI c) (h0 : K 0 0 = nI m) (h : Iv na nt K v r E (AN o c m : Int) (m : Int) so) : Iv na nt (u2 K 0 0 (nI (m + 1))) (C_passMinute na nt v r).2.1 (C_passMinute na nt v r).2.2 E (AN o c (m + 1) : Int) ((m + 1 : Nat) : Int) (so + (C_passMinute na nt v r).1) := by
  have a1 := AN_small (o := o) (c := c) (m := m) (by omega)
  have a2 := AN_small (o := o) (c := c) (m := m + 1) hm
  have hH := h.home na (Nat.le_refl _)
  have eH : C_sendHomeAgents na nt v r = ((C_homeL na nt v r na).1, (C_homeL na nt v r na).2) := rfl
  unfold C_passMinute
  rw [eH]
  generalize (C_homeL na nt v r na).1 = x1 at hH ⊢
  generalize (C_homeL na nt v r na).2 = y1 at hH ⊢
  have hO := hH.out na (Nat.le_refl _)
  have eO : C_giveOutTickets na nt x1 y1 = ((C_outL na nt x1 y1 na).1, (C_outL na nt x1 y1 na).2) := rfl
  try dsimp only
  rw [eO]
  generalize (C_outL na nt x1 y1 na).1 = x2 at hO ⊢
  generalize (C_outL na nt x1 y1 na).2 = y2 at hO ⊢
  try dsimp only
  have f := hO.2.2.1.1
  have z0 : x2 0 0 = nI m := by rw [f, h0]
  have z1 : x2 0 1 = nI o := by rw [f, h1]
  have z2 : x2 0 2 = nI c := by rw [f, h2]
  have sv := servE (na := na) (nt := nt) (r := y2) z1 z2 hc (by omega) (show m < 1440 by omega)
  rw [z0]
  have fin : ∀ {x3 : S2}, Iv na nt K x3 y2 E (AN o c (m + 1) : Int) ((m + 1 : Nat) : Int) so → Iv na nt (u2 K 0 0 (nI (m + 1))) (u2 (C_work na nt x3 y2).2.1 0 0 ((C_work na nt x3 y2).2.1 0 0 + 1)) (C_work na nt x3 y2).2.2 E (AN o c (m + 1) : Int) ((m + 1 : Nat) : Int) (so + (C_work na nt x3 y2).1) := fun {x3} h3 => by
    have w := h3.work h0 (by omega) (by omega) na (Nat.le_refl _)
    have e : (C_work na nt x3 y2).2.1 0 0 + 1 = nI (m + 1) := by
      show (C_workL na nt x3 y2 na).2.1 0 0 + 1 = _
      rw [w.2.2.1.1, h0]
      exact nI_add m 1
    rw [e]
    exact Iv.tick w _
  by_cases q : C_H_isService na nt x2 y2 (nI m) = true
  · rw [if_pos q]
    obtain ⟨s1, s2⟩ := sv.mp q
    refine fin ?_
    have := (hO.age (by omega) nt).mono (Int.le_refl E) (S' := (AN o c (m + 1) : Int)) (M' := ((m + 1 : Nat) : Int)) (by omega) (by omega)
    exact this
  · rw [if_neg q]
    refine fin (hO.mono (Int.le_refl E) ?_ (by omega))
    omega
theorem Iv.passL {o c m : Nat} (hoc : o < c) (hc : c ≤ 1440) (h1 : K 0 1 = nI o) (h2 : K 0 2 = nI c) (h0 : K 0 0 = nI m) (h : Iv na nt K v r E (AN o c m : Int) (m : Int) so) : ∀ n, m + n < 1440 → Iv na nt (u2 K 0 0 (nI (m + n))) (C_passL na nt v r n).2.1 (C_passL na nt v r n).2.2 E (AN o c (m + n) : Int) ((m + n : Nat) : Int) (so + (C_passL na nt v r n).1)
  | 0, _ => by
    show Iv na nt (u2 K 0 0 (nI m)) v r E (AN o c m : Int) (m : Int) (so + 0)
    rw [u2_id h0, Int32.add_zero]
    exact h
  | n + 1, hn => by
    have ih := h.passL hoc hc h1 h2 h0 n (by omega)
    rw [C_passL_s, C_passLB]
    generalize (C_passL na nt v r n).1 = s at ih ⊢
    generalize (C_passL na nt v r n).2.1 = x at ih ⊢
    generalize (C_passL na nt v r n).2.2 = y at ih ⊢
    have w := ih.minute hoc hc (by omega) (by rw [u2_ne (by omega)]; exact h1) (by rw [u2_ne (by omega)]; exact h2) (u2_same _ _ _ _)
    rw [u2_u2, Int32.add_assoc] at w
    exact w
end TIME
