/-! hours of service: by days, by minutes -/
section TIME
variable {N na nt : Nat} {v : S2} {r : R2} {s : S2}
def modN (o c m a b : Nat) : Nat := if m / 1440 % 7 < 5 then min (m + c) b - max a (m + o) else 0
def FN (o c d : Nat) : Nat := (d / 7 * 5 + min (d % 7) 5) * (c - o)
def AN (o c x : Nat) : Nat := FN o c (x / 1440) + (if x / 1440 % 7 < 5 then min (x % 1440) c - o else 0)
theorem AN_part {o c : Nat} (hc : c ≤ 1440) (d y : Nat) (hy : y ≤ 1440) : AN o c (1440 * d + y) = FN o c d + (if d % 7 < 5 then min y c - o else 0) := by
  unfold AN
  by_cases h : y = 1440
  · subst h
    have e1 : (1440 * d + 1440) / 1440 = d + 1 := by omega
    have e2 : (1440 * d + 1440) % 1440 = 0 := by omega
    rw [e1, e2]
    have e3 : (d + 1) / 7 * 5 + min ((d + 1) % 7) 5 = d / 7 * 5 + min (d % 7) 5 + (if d % 7 < 5 then 1 else 0) := by split <;> omega
    have e4 : FN o c (d + 1) = FN o c d + (if d % 7 < 5 then 1 else 0) * (c - o) := by
      unfold FN
      rw [e3, Nat.add_mul]
    rw [e4]
    have e5 : (if (d + 1) % 7 < 5 then min 0 c - o else 0) = 0 := by split <;> omega
    rw [e5]
    by_cases q : d % 7 < 5
    · rw [if_pos q, if_pos q, Nat.one_mul]; omega
    · rw [if_neg q, if_neg q, Nat.zero_mul]
  · have e1 : (1440 * d + y) / 1440 = d := by omega
    have e2 : (1440 * d + y) % 1440 = y := by omega
    rw [e1, e2]
theorem AN_step {o c m a b : Nat} (hoc : o < c) (hc : c ≤ 1440) (hm : m % 1440 = 0) (ha : a < m + 1440) (hab : a ≤ b) (hmb : m < b) : modN o c m a b + AN o c (max a (min b m)) = AN o c (max a (min b (m + 1440))) := by
  obtain ⟨d, rfl⟩ : ∃ d, m = 1440 * d := ⟨m / 1440, by omega⟩
  have e1 : max a (min b (1440 * d)) = 1440 * d + (max a (1440 * d) - 1440 * d) := by omega
  have e2 : max a (min b (1440 * d + 1440)) = 1440 * d + (min b (1440 * d + 1440) - 1440 * d) := by omega
  rw [e1, e2, AN_part hc _ _ (by omega), AN_part hc _ _ (by omega)]
  unfold modN
  rw [show 1440 * d / 1440 = d by omega]
  by_cases q : d % 7 < 5
  · rw [if_pos q, if_pos q, if_pos q]; omega
  · rw [if_neg q, if_neg q, if_neg q]; omega
theorem max0 {x y : Nat} (hx : x < 2 ^ 30) (hy : y < 2 ^ 30) : (if (0 : Int32) < nI x - nI y then nI x - nI y else 0) = nI (x - y) := by
  by_cases h : y ≤ x
  · rw [nI_sub h]
    by_cases e : x - y = 0
    · rw [e, if_neg (by decide)]; rfl
    · rw [if_pos (show (0 : Int32) < nI (x - y) from nI_lt (a := 0) (by omega) (by omega))]
  · have e : nI x - nI y = -(nI (y - x)) := by
      rw [← nI_sub (show x ≤ y by omega), Int32.neg_sub]
    have ei : (nI x - nI y).toInt = (x : Int) - y := by
      rw [Int32.toInt_sub, nI_toInt (by omega), nI_toInt (by omega)]
      exact Int.bmod_eq_of_le (by omega) (by omega)
    rw [if_neg (by rw [Int32.lt_iff_toInt_lt, ei, show (0 : Int32).toInt = 0 from by decide]; omega), show x - y = 0 by omega]
    rfl
theorem minI {x y : Nat} (hx : x < 2 ^ 30) (hy : y < 2 ^ 30) : (if nI x < nI y then nI x else nI y) = nI (min x y) := by
  by_cases h : x < y
  · rw [if_pos (nI_lt h (by omega)), Nat.min_eq_left (by omega)]
  · rw [if_neg (nI_nlt (by omega) (by omega)), Nat.min_eq_right (by omega)]
theorem maxI {x y : Nat} (hx : x < 2 ^ 30) (hy : y < 2 ^ 30) : (if nI x < nI y then nI y else nI x) = nI (max x y) := by
  by_cases h : x < y
  · rw [if_pos (nI_lt h (by omega)), Nat.max_eq_right (by omega)]
  · rw [if_neg (nI_nlt (by omega) (by omega)), Nat.max_eq_left (by omega)]
/-- the hours as numbers -/
theorem Rel.oc (h : Rel N na nt v r s) : ∃ o c : Nat, v 0 1 = nI o ∧ v 0 2 = nI c ∧ o < c ∧ c ≤ 1440 := by
  obtain ⟨h1, h2, h3⟩ := h.hrs
  have q1 : vp_in (v 0 1) 1441 := vp_in_iff.mpr ⟨by omega, by omega⟩
  have q2 : vp_in (v 0 2) 1441 := vp_in_iff.mpr ⟨by omega, by omega⟩
  have l1 := vp_lt q1
  have l2 := vp_lt q2
  have e1 := in_nI q1
  have e2 := in_nI q2
  refine ⟨_, _, e1, e2, ?_, by omega⟩
  rw [e1, e2, nI_toInt (by omega), nI_toInt (by omega)] at h2
  omega
theorem dowN {m : Nat} (hm : m < 200000) : C_dayOfWeek (nI m) = nI (m / 1440 % 7) := by
  rw [dow_eq (show vp_in (nI m) 200000 from vp_in_nI hm (by decide)), ix_nI (by omega)]
theorem modI {o c m a b : Nat} (hv1 : v 0 1 = nI o) (hv2 : v 0 2 = nI c) (hc : c ≤ 1440) (ho : o ≤ 1440) (hm : m < 200000) (ha : a < 200000) (hb : b < 200000) : C_H_minutesOfDay na nt v r (nI m) (nI a) (nI b) = nI (modN o c m a b) := by
  unfold C_H_minutesOfDay modN
  rw [dowN hm, hv1, hv2, nI_add, nI_add, minI (by omega) (by omega), maxI (by omega) (by omega), max0 (by omega) (by omega)]
  by_cases q : m / 1440 % 7 < 5
  · rw [if_pos (show nI (m / 1440 % 7) < 5 from nI_lt (b := 5) q (by decide)), if_pos q]
  · rw [if_neg (show ¬ nI (m / 1440 % 7) < 5 from nI_nlt (b := 5) (by omega) (by omega)), if_neg q]; rfl
theorem mbL_eq {o c a b : Nat} (hv1 : v 0 1 = nI o) (hv2 : v 0 2 = nI c) (hoc : o < c) (hc : c ≤ 1440) (hab : a ≤ b) (hb : b ≤ 99999) : ∀ (f m acc : Nat), 100800 ≤ m + f * 1440 → m ≤ 102240 → m % 1440 = 0 → a < m + 1440 → ∃ z, C_mbL na nt v r (nI a) (nI b) f m (nI acc) = nI z ∧ z + AN o c (max a (min b m)) = acc + AN o c b
  | 0, m, acc, h1, h2, h3, h4 => ⟨acc, rfl, by rw [show max a (min b m) = b by omega]⟩
  | f + 1, m, acc, h1, h2, h3, h4 => by
    rw [C_mbL]
    by_cases q : b ≤ m
    · rw [if_pos (nI_le q (by omega))]
      exact ⟨acc, rfl, by rw [show max a (min b m) = b by omega]⟩
    · rw [if_neg (nI_ge (by omega) (by omega)), modI hv1 hv2 hc (by omega) (by omega) (by omega) (by omega), nI_add]
      obtain ⟨z, e1, e2⟩ := mbL_eq hv1 hv2 hoc hc hab hb f (m + 1440) (acc + modN o c m a b) (by omega) (by omega) (by omega) (by omega)
      refine ⟨z, e1, ?_⟩
      have := AN_step hoc hc h3 h4 hab (show m < b by omega)
      omega
theorem aheadI {o c x : Nat} (hs2 : s 0 2 = nI o) (hs3 : s 0 3 = nI c) (hoc : o < c) (hc : c ≤ 1440) (hx : x ≤ 99999) : M_serviceAhead s (nI x) = nI (AN o c x) := by
  have e1 : nI x / 1440 = nI (x / 1440) := nI_div (by omega) (by decide) (by decide)
  have e2 : nI (x / 1440) / 7 = nI (x / 1440 / 7) := nI_div (by omega) (by decide) (by decide)
  have e3 : nI (x / 1440) - nI (x / 1440 / 7) * 7 = nI (x / 1440 % 7) := by
    rw [show nI (x / 1440 / 7) * 7 = nI (x / 1440 / 7 * 7) from nI_mul _ 7, nI_sub (Nat.div_mul_le_self _ _)]
    congr 1
    omega
  have e4 : nI x - nI (x / 1440) * 1440 = nI (x % 1440) := by
    rw [show nI (x / 1440) * 1440 = nI (x / 1440 * 1440) from nI_mul _ 1440, nI_sub (Nat.div_mul_le_self _ _)]
    congr 1
    omega
  have e5 : nI (x / 1440 / 7) * 5 = nI (x / 1440 / 7 * 5) := nI_mul _ 5
  have e6 : (if nI (x / 1440 % 7) < 5 then nI (x / 1440 % 7) else 5) = nI (min (x / 1440 % 7) 5) := minI (y := 5) (by omega) (by decide)
  have e7 : nI c - nI o = nI (c - o) := nI_sub (by omega)
  have e8 : (if nI c < nI (x % 1440) then nI c else nI (x % 1440)) = nI (min (x % 1440) c) := by rw [minI (by omega) (by omega), Nat.min_comm]
  unfold M_serviceAhead AN FN
  rw [hs2, hs3, e1, e2, e3, e4, e5, e6, e7, e8, max0 (by omega) (by omega), nI_add, nI_mul]
  by_cases q : x / 1440 % 7 < 5
  · rw [if_neg (show ¬ (5 : Int32) ≤ nI (x / 1440 % 7) from nI_ge (b := 5) q (by decide)), if_pos q, nI_add]
  · rw [if_pos (show (5 : Int32) ≤ nI (x / 1440 % 7) from nI_le (a := 5) (by omega) (by omega)), if_neg q, Int32.add_zero, Nat.add_zero]
theorem AG_service (h : Rel N na nt v r s) (p0 p1 : Int32) : AG [1] N na nt (C_service na nt v r p0 p1) (M_service s p0 p1) := by
  have h0 := h.thr 0
  have e9 : (99999 : Int32).toInt = 99999 := by decide
  have e0 : (0 : Int32).toInt = 0 := by decide
  unfold C_service M_service
  by_cases c1 : p0 < 0
  · rw [if_pos c1, if_pos c1]; exact AG.no (j := 0) h (by decide) rfl
  · rw [if_neg c1, if_neg c1]
    by_cases c2 : p1 < p0
    · rw [if_pos c2, if_pos c2]; exact AG.no (j := 0) h (by decide) rfl
    · rw [if_neg c2, if_neg c2]
      by_cases c3 : 99999 < p1
      · rw [if_pos c3, if_neg (show ¬ p1 ≤ 99999 from fun z => by rw [Int32.le_iff_toInt_le] at z; rw [Int32.lt_iff_toInt_lt] at c3; omega)]; exact AG.no (j := 0) h (by decide) rfl
      · rw [if_neg c3, if_pos (show p1 ≤ 99999 by rw [Int32.lt_iff_toInt_lt] at c3; rw [Int32.le_iff_toInt_le]; omega)]
        rw [Int32.lt_iff_toInt_lt] at c1 c2 c3
        have q0 : vp_in p0 100000 := vp_in_iff.mpr ⟨by omega, by omega⟩
        have q1 : vp_in p1 100000 := vp_in_iff.mpr ⟨by omega, by omega⟩
        obtain ⟨o, c, hv1, hv2, hoc, hc⟩ := h.oc
        have l0 := vp_lt q0
        have l1 := vp_lt q1
        have i0 := in_nI q0
        have i1 := in_nI q1
        have hab : ix p0 ≤ ix p1 := by
          rw [i0, i1, nI_toInt (by omega), nI_toInt (by omega)] at c2
          omega
        refine AG.rd h ?_
        obtain ⟨z, z1, z2⟩ := mbL_eq (na := na) (nt := nt) (v := v) (r := r) hv1 hv2 hoc hc hab (by omega) 70 (ix p0 / 1440 * 1440) 0 (by omega) (by omega) (by omega) (by omega)
        rw [← i0, ← i1] at z1
        rw [show max (ix p0) (min (ix p1) (ix p0 / 1440 * 1440)) = ix p0 by omega] at z2
        unfold C_H_minutesBetween
        have a0 : M_serviceAhead (u2 s 0 0 0) p0 = nI (AN o c (ix p0)) := by
          rw [← aheadI (s := u2 s 0 0 0) (h0.opn.trans hv1) (h0.cls.trans hv2) hoc hc (show ix p0 ≤ 99999 by omega), ← i0]
        have a1 : M_serviceAhead (u2 s 0 0 0) p1 = nI (AN o c (ix p1)) := by
          rw [← aheadI (s := u2 s 0 0 0) (h0.opn.trans hv1) (h0.cls.trans hv2) hoc hc (show ix p1 ≤ 99999 by omega), ← i1]
        rw [a0, a1, nI_sub (by omega), show AN o c (ix p1) - AN o c (ix p0) = z by omega]
        exact z1
/-! due -/
def svcN (o c x : Nat) : Prop := x / 1440 % 7 < 5 ∧ o ≤ x % 1440 ∧ x % 1440 < c
theorem servI {o c x : Nat} (hs2 : s 0 2 = nI o) (hs3 : s 0 3 = nI c) (hoc : o < c) (hc : c ≤ 1440) (hx : x < 200000) : M_isService s (nI x) = true ↔ svcN o c x := by
  have e1 : nI x / 1440 = nI (x / 1440) := nI_div (by omega) (by decide) (by decide)
  have e2 : nI (x / 1440) / 7 = nI (x / 1440 / 7) := nI_div (by omega) (by decide) (by decide)
  have e3 : nI (x / 1440) - nI (x / 1440 / 7) * 7 = nI (x / 1440 % 7) := by
    rw [show nI (x / 1440 / 7) * 7 = nI (x / 1440 / 7 * 7) from nI_mul _ 7, nI_sub (Nat.div_mul_le_self _ _)]
    congr 1
    omega
  have e4 : nI x - nI (x / 1440) * 1440 = nI (x % 1440) := by
    rw [show nI (x / 1440) * 1440 = nI (x / 1440 * 1440) from nI_mul _ 1440, nI_sub (Nat.div_mul_le_self _ _)]
    congr 1
    omega
  unfold M_isService svcN
  rw [hs2, hs3, e1, e2, e3, e4, isIn_pred (by rw [nI_toInt (by omega)]; omega)]
  by_cases q : x / 1440 % 7 < 5
  · rw [if_neg (show ¬ (5 : Int32) ≤ nI (x / 1440 % 7) from nI_ge (b := 5) q (by decide))]
    by_cases q1 : o ≤ x % 1440
    · rw [if_neg (nI_nlt q1 (by omega))]
      by_cases q2 : x % 1440 < c
      · rw [if_neg (nI_ge q2 (by omega))]
        exact ⟨fun _ => ⟨q, q1, q2⟩, fun _ => rfl⟩
      · rw [if_pos (nI_le (show c ≤ x % 1440 by omega) (by omega))]
        exact ⟨fun z => (by cases z), fun z => absurd z.2.2 q2⟩
    · rw [if_pos (nI_lt (show x % 1440 < o by omega) (by omega))]
      exact ⟨fun z => (by cases z), fun z => absurd z.2.1 q1⟩
  · rw [if_pos (show (5 : Int32) ≤ nI (x / 1440 % 7) from nI_le (a := 5) (by omega) (by omega))]
    exact ⟨fun z => (by cases z), fun z => absurd z.1 q⟩
def kN (o c m e x : Nat) : Nat := if m / 1440 % 7 < 5 then min (m + c) e - max x (m + o) else 0
theorem dueSeg {o c m e : Nat} (hs2 : s 0 2 = nI o) (hs3 : s 0 3 = nI c) (hoc : o < c) (hc : c ≤ 1440) (hm : m % 1440 = 0) (he : e = min (m + 1440) 100000) (hme : m ≤ e) : ∀ (d x l : Nat), x + d = e → m ≤ x → l < 100000 → M_dueL s (100000 - x) (nI x) (nI l) = if l < kN o c m e x then nI (max x (m + o) + l) else M_dueL s (100000 - e) (nI e) (nI (l - kN o c m e x))
  | 0, x, l, h1, h2, h3 => by
    have ex : x = e := by omega
    have hk : kN o c m e x = 0 := by unfold kN; split <;> omega
    rw [hk, if_neg (Nat.not_lt_zero _), Nat.sub_zero, ex]
  | d + 1, x, l, h1, h2, h3 => by
    have hx : x < e := by omega
    obtain ⟨f, hf⟩ : ∃ f, 100000 - x = f + 1 := ⟨99999 - x, by omega⟩
    have hf2 : f = 100000 - (x + 1) := by omega
    have hd : x / 1440 = m / 1440 := by omega
    have hmod : x % 1440 = x - m := by omega
    rw [hf, M_dueL, nI_1]
    by_cases q : M_isService s (nI x) = true
    · rw [if_pos q]
      obtain ⟨q1, q2, q3⟩ := (servI hs2 hs3 hoc hc (by omega)).mp q
      rw [hd] at q1
      rw [hmod] at q2 q3
      have k0 : kN o c m e x = min (m + c) e - x := by unfold kN; rw [if_pos q1]; omega
      have k1 : kN o c m e (x + 1) = min (m + c) e - (x + 1) := by unfold kN; rw [if_pos q1]; omega
      by_cases hl : l = 0
      · subst hl
        rw [if_pos (show nI 0 = 0 from rfl), if_pos (by omega)]
        congr 1
        omega
      · obtain ⟨l', rfl⟩ : ∃ l', l = l' + 1 := ⟨l - 1, by omega⟩
        rw [if_neg (show ¬ nI (l' + 1) = 0 from nI_ne0 (by omega) (by omega)), show nI (l' + 1) + -1 = nI l' from by rw [← Int32.sub_eq_add_neg]; exact nI_pred l', hf2]
        rw [dueSeg hs2 hs3 hoc hc hm he hme d (x + 1) l' (by omega) (by omega) (by omega)]
        by_cases z : l' < kN o c m e (x + 1)
        · rw [if_pos z, if_pos (by omega)]
          congr 1
          omega
        · rw [if_neg z, if_neg (by omega)]
          congr 2
          omega
    · rw [if_neg q, hf2]
      have nq : ¬ svcN o c x := fun z => q ((servI hs2 hs3 hoc hc (by omega)).mpr z)
      unfold svcN at nq
      rw [hd, hmod] at nq
      rw [dueSeg hs2 hs3 hoc hc hm he hme d (x + 1) l (by omega) (by omega) h3]
      have ek : kN o c m e (x + 1) = kN o c m e x := by
        unfold kN
        by_cases w : m / 1440 % 7 < 5
        · rw [if_pos w, if_pos w]; omega
        · rw [if_neg w, if_neg w]
      rw [ek]
      by_cases z : l < kN o c m e x
      · rw [if_pos z, if_pos z]
        congr 1
        unfold kN at z
        by_cases w : m / 1440 % 7 < 5
        · rw [if_pos w] at z; omega
        · rw [if_neg w] at z; omega
      · rw [if_neg z, if_neg z]
theorem msL_eq {o c a : Nat} (hv1 : v 0 1 = nI o) (hv2 : v 0 2 = nI c) (hs2 : s 0 2 = nI o) (hs3 : s 0 3 = nI c) (hoc : o < c) (hc : c ≤ 1440) (ha : a ≤ 99999) : ∀ (f m l : Nat), 100800 ≤ m + f * 1440 → m ≤ 102240 → m % 1440 = 0 → a < m + 1440 → l < 100000 → C_msL na nt v r (nI a) f m (nI (l + 1)) = M_dueL s (100000 - max a (min m 100000)) (nI (max a (min m 100000))) (nI l)
  | 0, m, l, h1, h2, h3, h4, h5 => by
    rw [show 100000 - max a (min m 100000) = 0 by omega]
    rfl
  | f + 1, m, l, h1, h2, h3, h4, h5 => by
    rw [C_msL]
    by_cases q : 99999 < m
    · rw [if_pos (show (99999 : Int32) < nI m from nI_lt (a := 99999) q (by omega)), show 100000 - max a (min m 100000) = 0 by omega]
      rfl
    · rw [if_neg (show ¬ (99999 : Int32) < nI m from nI_nlt (a := 99999) (by omega) (by decide))]
      have hmod : C_H_minutesOfDay na nt v r (nI m) (nI a) 100000 = nI (modN o c m a 100000) := modI (b := 100000) hv1 hv2 hc (by omega) (by omega) (by omega) (by decide)
      rw [hmod, hv1, nI_add, maxI (by omega) (by omega)]
      have hx : max a (min m 100000) = max a m := by omega
      have hle : max a m ≤ min (m + 1440) 100000 := by omega
      have hk : kN o c m (min (m + 1440) 100000) (max a m) = modN o c m a 100000 := by
        unfold kN modN
        by_cases w : m / 1440 % 7 < 5
        · rw [if_pos w, if_pos w]; omega
        · rw [if_neg w, if_neg w]
      have hkb : modN o c m a 100000 ≤ 1440 := by unfold modN; split <;> omega
      rw [hx, dueSeg hs2 hs3 hoc hc h3 rfl (by omega) (min (m + 1440) 100000 - max a m) (max a m) l (by omega) (by omega) h5, hk]
      by_cases z : l < modN o c m a 100000
      · rw [if_pos z, if_neg (nI_nlt (show l + 1 ≤ modN o c m a 100000 by omega) (by omega)), nI_add, show max a (m + o) + (l + 1) = (max a (m + o) + l) + 1 by omega, nI_pred]
        congr 1
        omega
      · rw [if_neg z, if_pos (nI_lt (show modN o c m a 100000 < l + 1 by omega) (by omega)), nI_sub (by omega), show l + 1 - modN o c m a 100000 = (l - modN o c m a 100000) + 1 by omega, msL_eq hv1 hv2 hs2 hs3 hoc hc ha f (m + 1440) (l - modN o c m a 100000) (by omega) (by omega) (by omega) (by omega) (by omega)]
        rw [show max a (min (m + 1440) 100000) = min (m + 1440) 100000 by omega]
theorem AG_due (h : Rel N na nt v r s) (p0 : Int32) : AG [2] N na nt (C_due na nt v r p0) (M_due s p0) := by
  have h0 := h.thr 0
  have hT := h.cTb
  unfold C_due M_due
  rw [h0.isT]
  by_cases h1 : inR p0 nt = true
  · have hl := vp_lt (inR_iff.mp h1)
    have ep := in_nI (inR_iff.mp h1)
    have g := h.tk _ hl
    have esl : M_slack (u2 s 0 0 0) p0 = C_slackOf na nt v r (ix p0) := by
      rw [h0.slack hl, ← ep]
    have hsl := h.slackInt hl
    have h9 := h.tgt _ (vp_lt g.priob)
    rw [if_pos h1, if_pos h1, esl, g.state]
    by_cases c1 : v 24 (ix p0) = 4
    · rw [if_pos c1, if_pos c1]
      by_cases c2 : C_slackOf na nt v r (ix p0) < 0
      · rw [if_pos c2]; exact AG.rd h rfl
      · rw [if_neg c2]; exact AG.rd h rfl
    · rw [if_neg c1, if_neg c1]
      by_cases c2 : C_slackOf na nt v r (ix p0) < 0
      · rw [if_pos c2, if_neg (show ¬ 0 ≤ C_slackOf na nt v r (ix p0) from fun z => by rw [Int32.lt_iff_toInt_lt] at c2; rw [Int32.le_iff_toInt_le] at z; omega)]
        exact AG.rd h rfl
      · rw [if_neg c2, if_pos (show 0 ≤ C_slackOf na nt v r (ix p0) by rw [Int32.lt_iff_toInt_lt] at c2; rw [Int32.le_iff_toInt_le]; omega)]
        refine AG.rd h ?_
        have z0 : (0 : Int32).toInt = 0 := by decide
        rw [Int32.lt_iff_toInt_lt, z0] at c2
        have hag := g.ageb
        have ql : vp_in (C_slackOf na nt v r (ix p0)) 10000 := vp_in_iff.mpr ⟨by omega, by omega⟩
        have ll := vp_lt ql
        have il := in_nI ql
        have lm := vp_lt h.minb
        have im := in_nI h.minb
        obtain ⟨o, c, hv1, hv2, hoc, hc⟩ := h.oc
        have key := msL_eq (na := na) (nt := nt) (v := v) (r := r) (s := u2 s 0 0 0) (a := ix (v 0 0)) hv1 hv2 (h0.opn.trans hv1) (h0.cls.trans hv2) hoc hc (by omega) 70 (ix (v 0 0) / 1440 * 1440) (ix (C_slackOf na nt v r (ix p0))) (by omega) (by omega) (by omega) (by omega) (by omega)
        rw [show max (ix (v 0 0)) (min (ix (v 0 0) / 1440 * 1440) 100000) = ix (v 0 0) by omega, ← im, ← nI_1, ← il] at key
        unfold C_H_minuteOfService
        rw [h.min, ← im]
        exact key
  · rw [if_neg h1, if_neg h1]; exact AG.no (j := 0) h (by decide) rfl
end TIME
