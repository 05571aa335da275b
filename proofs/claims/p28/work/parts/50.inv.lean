/-! WHAT HOLDS OF THE CLASS'S STATE AT ALL TIMES. K: what stays (the numbers of rows 0, 10, 14, 20, 21); E: a bound of the efforts, S: the minutes of service so far, M: of the minute, so: how many were solved -/
def sumI (f : Nat → Int32) : Nat → Int32
  | 0 => 0
  | n + 1 => sumI f n + f n
theorem sumI_up {f g : Nat → Int32} {i : Nat} {x : Int32} (hi : g i = f i + x) (ho : ∀ j, j ≠ i → g j = f j) : ∀ n, sumI g n = sumI f n + (if i < n then x else 0)
  | 0 => by rw [if_neg (Nat.not_lt_zero _)]; rfl
  | n + 1 => by
    show sumI g n + g n = sumI f n + f n + _
    rw [sumI_up hi ho n]
    by_cases e : n = i
    · subst e
      rw [if_neg (Nat.lt_irrefl _), if_pos (Nat.lt_succ_self _), hi, Int32.add_zero, Int32.add_assoc]
    · rw [ho n e]
      by_cases l : i < n
      · rw [if_pos l, if_pos (by omega), Int32.add_assoc, Int32.add_assoc, Int32.add_comm x]
      · rw [if_neg l, if_neg (by omega), Int32.add_zero, Int32.add_zero]
theorem sumI_same {f g : Nat → Int32} : ∀ n, (∀ j, j < n → g j = f j) → sumI g n = sumI f n
  | 0, _ => rfl
  | n + 1, h => by
    show sumI g n + g n = sumI f n + f n
    rw [sumI_same n (fun j hj => h j (by omega)), h n (Nat.lt_succ_self n)]
def hs (x k : Int32) : Prop := ¬ (x &&& (1 <<< (k &&& 31)) = 0)
/-- agents and tickets tell the same of each other; s: the states -/
def Lk (na nt : Nat) (K : S2) (s : Nat → Int32) (r : R2) : Prop :=
  (∀ a, a < na → ∀ t, r 15 a = some t → t < nt ∧ r 32 t = some a ∧ hs (K 14 a) (K 21 t)) ∧ (∀ t, t < nt → ∀ a, r 32 t = some a → a < na ∧ r 15 a = some t) ∧ ∀ t, t < nt → (s t = 1 ↔ ¬ r 32 t = none)
/-- the numbers of a ticket: state, done, effort, age at its answer, age, solved at -/
def TkN (E S M : Int) (st dn ef an ag sa : Int32) : Prop :=
  (0 ≤ dn.toInt ∧ dn.toInt ≤ ef.toInt ∧ ef.toInt ≤ E) ∧ (st = 3 ↔ dn = ef) ∧ (0 < dn.toInt → 0 ≤ an.toInt) ∧ (st = 1 → 0 ≤ an.toInt) ∧ (an.toInt ≤ ag.toInt ∧ 0 ≤ ag.toInt ∧ ag.toInt ≤ S) ∧ (0 ≤ sa.toInt ∧ sa.toInt ≤ M) ∧ (st = 0 ∨ st = 1 ∨ st = 2 ∨ st = 3 ∨ st = 4)
def Kp (K v : S2) : Prop := v 0 = K 0 ∧ v 10 = K 10 ∧ v 14 = K 14 ∧ v 20 = K 20 ∧ v 21 = K 21
def Tks (nt : Nat) (v : S2) (E S M : Int) : Prop := ∀ t, t < nt → TkN E S M (v 24 t) (v 26 t) (v 23 t) (v 27 t) (v 25 t) (v 30 t)
def Iv (na nt : Nat) (K v : S2) (r : R2) (E S M : Int) (so : Int32) : Prop :=
  Lk na nt K (v 24) r ∧ Tks nt v E S M ∧ Kp K v ∧ sumI (v 16) na = sumI (v 26) nt ∧ sumI (v 17) na = so
section INV
variable {na nt : Nat} {K v : S2} {r : R2} {E S M : Int} {so : Int32}
theorem take_v {t : Nat} : (C_takeFromHolder na nt v r t).1 = v := by unfold C_takeFromHolder; split <;> rfl
theorem take_r {t j : Nat} (h15 : ¬ j = 15) (h32 : ¬ j = 32) : (C_takeFromHolder na nt v r t).2 j = r j := by
  unfold C_takeFromHolder
  split
  · rfl
  · show u3 (u3 r 15 _ none) 32 t none j = r j
    rw [u3_ne1 h32, u3_ne1 h15]
theorem take_32 {t u : Nat} : (C_takeFromHolder na nt v r t).2 32 u = if u = t then none else r 32 u := by
  unfold C_takeFromHolder
  by_cases h : r 32 t = none
  · rw [if_pos h]
    by_cases e : u = t
    · rw [if_pos e, e]; exact h
    · rw [if_neg e]
  · rw [if_neg h]
    show u3 (u3 r 15 _ none) 32 t none 32 u = _
    rw [u3_at]
    by_cases e : u = t
    · rw [if_pos ⟨rfl, e⟩, if_pos e]
    · rw [if_neg (fun z => e z.2), if_neg e, u3_ne1 (by decide)]
theorem Lk.take_15 {s : Nat → Int32} (h : Lk na nt K s r) {t a : Nat} (ht : t < nt) (ha : a < na) : (C_takeFromHolder na nt v r t).2 15 a = if r 15 a = some t then none else r 15 a := by
  unfold C_takeFromHolder
  by_cases hn : r 32 t = none
  · rw [if_pos hn]
    by_cases e : r 15 a = some t
    · have := (h.1 a ha t e).2.1
      rw [hn] at this; cases this
    · rw [if_neg e]
  · rw [if_neg hn]
    show u3 (u3 r 15 (gd (r 32 t)) none) 32 t none 15 a = _
    rw [u3_ne1 (by decide), u3_at]
    obtain ⟨b, hb⟩ : ∃ b, r 32 t = some b := ⟨_, gd_some hn⟩
    rw [hb]
    rw [show gd (some b) = b from rfl]
    have hbb := h.2.1 t ht b hb
    by_cases e : a = b
    · rw [if_pos ⟨rfl, e⟩, e, if_pos hbb.2]
    · rw [if_neg (fun z => e z.2), if_neg]
      intro z
      have := (h.1 a ha t z).2.1
      rw [hb] at this
      cases this
      exact e rfl
/-- a ticket that leaves its agent, if it has one, and is in another state than 1 -/
theorem Lk.leave {s s' : Nat → Int32} (h : Lk na nt K s r) {t : Nat} (ht : t < nt) (hs1 : ¬ s' t = 1) (hso : ∀ u, u ≠ t → s' u = s u) : Lk na nt K s' (C_takeFromHolder na nt v r t).2 := by
  refine ⟨fun a ha u e => ?_, fun u hu a e => ?_, fun u hu => ?_⟩
  · rw [h.take_15 ht ha] at e
    by_cases c : r 15 a = some t
    · rw [if_pos c] at e; cases e
    · rw [if_neg c] at e
      obtain ⟨h1, h2, h3⟩ := h.1 a ha u e
      refine ⟨h1, ?_, h3⟩
      rw [take_32, if_neg (fun z => c (by rw [← z]; exact e))]
      exact h2
  · rw [take_32] at e
    by_cases c : u = t
    · rw [if_pos c] at e; cases e
    · rw [if_neg c] at e
      obtain ⟨h1, h2⟩ := h.2.1 u hu a e
      refine ⟨h1, ?_⟩
      rw [h.take_15 ht h1, if_neg (fun z => c (by rw [h2] at z; cases z; rfl))]
      exact h2
  · rw [take_32]
    by_cases c : u = t
    · rw [if_pos c, c]
      exact ⟨fun z => absurd z hs1, fun z => absurd rfl z⟩
    · rw [if_neg c, hso u c]
      exact h.2.2 u hu
theorem Lk.give {s s' : Nat → Int32} (h : Lk na nt K s r) {t a : Nat} (ht : t < nt) (ha : a < na) (h0 : s t = 0) (hf : r 15 a = none) (hk : hs (K 14 a) (K 21 t)) (hs1 : s' t = 1) (hso : ∀ u, u ≠ t → s' u = s u) : Lk na nt K s' (u3 (u3 (u3 r 15 a (some t)) 32 t (some a)) 33 t (some a)) := by
  have hn : r 32 t = none := by
    cases e : r 32 t with
    | none => rfl
    | some b =>
      have := (h.2.2 t ht).mpr (by rw [e]; intro z; cases z)
      rw [h0] at this
      exact absurd this (by decide)
  have e15 : ∀ b, u3 (u3 (u3 r 15 a (some t)) 32 t (some a)) 33 t (some a) 15 b = if b = a then some t else r 15 b := fun b => by
    rw [u3_ne1 (by decide), u3_ne1 (by decide), u3_at]
    by_cases c : b = a
    · rw [if_pos ⟨rfl, c⟩, if_pos c]
    · rw [if_neg (fun z => c z.2), if_neg c]
  have e32 : ∀ u, u3 (u3 (u3 r 15 a (some t)) 32 t (some a)) 33 t (some a) 32 u = if u = t then some a else r 32 u := fun u => by
    rw [u3_ne1 (by decide), u3_at]
    by_cases c : u = t
    · rw [if_pos ⟨rfl, c⟩, if_pos c]
    · rw [if_neg (fun z => c z.2), if_neg c, u3_ne1 (by decide)]
  refine ⟨fun b hb u e => ?_, fun u hu b e => ?_, fun u hu => ?_⟩
  · rw [e15] at e
    by_cases c : b = a
    · rw [if_pos c] at e
      cases e
      rw [c, e32, if_pos rfl]
      exact ⟨ht, rfl, hk⟩
    · rw [if_neg c] at e
      obtain ⟨h1, h2, h3⟩ := h.1 b hb u e
      refine ⟨h1, ?_, h3⟩
      rw [e32, if_neg (fun z => by rw [z, hn] at h2; cases h2)]
      exact h2
  · rw [e32] at e
    by_cases c : u = t
    · rw [if_pos c] at e
      cases e
      rw [e15, if_pos rfl, c]
      exact ⟨ha, rfl⟩
    · rw [if_neg c] at e
      obtain ⟨h1, h2⟩ := h.2.1 u hu b e
      refine ⟨h1, ?_⟩
      rw [e15, if_neg (fun z => by rw [z, hf] at h2; cases h2)]
      exact h2
  · rw [e32]
    by_cases c : u = t
    · rw [if_pos c, c, hs1]
      exact ⟨fun _ z => (by cases z), fun _ => rfl⟩
    · rw [if_neg c, hso u c]
      exact h.2.2 u hu
theorem Lk.same {s s' : Nat → Int32} (h : Lk na nt K s r) (hs : ∀ u, u < nt → (s' u = 1 ↔ s u = 1)) : Lk na nt K s' r := ⟨h.1, h.2.1, fun u hu => (hs u hu).trans (h.2.2 u hu)⟩
theorem u2_row {s : S2} {j i : Nat} {x : Int32} : u2 s j i x j = upd (s j) i x := by unfold u2; rw [if_pos rfl]
theorem u2_o {s : S2} {j i : Nat} {x : Int32} {b : Nat} (h : b ≠ i) (a : Nat) : u2 s j i x a b = s a b := by rw [u2_at, if_neg (fun z => h z.2)]
/-- numbers of one ticket change: state to one that is not 1, with its agent left -/
theorem Iv.leave (h : Iv na nt K v r E S M so) {t : Nat} (ht : t < nt) {v' : S2} (hv : ∀ u, u ≠ t → ∀ j, v' j u = v j u) (hk : Kp K v') (h16 : v' 16 = v 16) (h17 : v' 17 = v 17) (h26 : v' 26 t = v 26 t) (h1 : ¬ v' 24 t = 1) (hT : TkN E S M (v' 24 t) (v' 26 t) (v' 23 t) (v' 27 t) (v' 25 t) (v' 30 t)) : Iv na nt K v' (C_takeFromHolder na nt v r t).2 E S M so := by
  obtain ⟨g1, g2, g3, g4, g5⟩ := h
  refine ⟨g1.leave ht h1 (fun u hu => hv u hu 24), fun u hu => ?_, hk, ?_, by rw [h17]; exact g5⟩
  · by_cases e : u = t
    · rw [e]; exact hT
    · rw [hv u e, hv u e, hv u e, hv u e, hv u e, hv u e]
      exact g2 u hu
  · rw [h16, g4]
    refine (sumI_same nt fun j _ => ?_).symm
    by_cases e : j = t
    · rw [e]; exact h26
    · exact hv j e 26
/-- numbers of one ticket change, its agent stays -/
theorem Iv.stay (h : Iv na nt K v r E S M so) {t : Nat} (ht : t < nt) {v' : S2} {E' : Int} (hE : E ≤ E') (hv : ∀ u, u ≠ t → ∀ j, v' j u = v j u) (hk : Kp K v') (h16 : v' 16 = v 16) (h17 : v' 17 = v 17) (h26 : v' 26 t = v 26 t) (h1 : v' 24 t = 1 ↔ v 24 t = 1) (hT : TkN E' S M (v' 24 t) (v' 26 t) (v' 23 t) (v' 27 t) (v' 25 t) (v' 30 t)) : Iv na nt K v' r E' S M so := by
  obtain ⟨g1, g2, g3, g4, g5⟩ := h
  refine ⟨g1.same (fun u hu => ?_), fun u hu => ?_, hk, ?_, by rw [h17]; exact g5⟩
  · by_cases e : u = t
    · rw [e]; exact h1
    · rw [hv u e]
  · by_cases e : u = t
    · rw [e]; exact hT
    · rw [hv u e, hv u e, hv u e, hv u e, hv u e, hv u e]
      obtain ⟨q1, q2⟩ := g2 u hu
      exact ⟨⟨q1.1, q1.2.1, Int.le_trans q1.2.2 hE⟩, q2⟩
  · rw [h16, g4]
    refine (sumI_same nt fun j _ => ?_).symm
    by_cases e : j = t
    · rw [e]; exact h26
    · exact hv j e 26
theorem Iv.mono (h : Iv na nt K v r E S M so) {E' S' M' : Int} (hE : E ≤ E') (hS : S ≤ S') (hM : M ≤ M') : Iv na nt K v r E' S' M' so := by
  obtain ⟨g1, g2, g3, g4, g5⟩ := h
  refine ⟨g1, fun u hu => ?_, g3, g4, g5⟩
  obtain ⟨q1, q2, q3, q4, q5, q6, q7⟩ := g2 u hu
  exact ⟨⟨q1.1, q1.2.1, by omega⟩, q2, q3, q4, ⟨q5.1, q5.2.1, by omega⟩, ⟨q6.1, by omega⟩, q7⟩
theorem Iv.handBack (h : Iv na nt K v r E S M so) {t : Nat} (ht : t < nt) (h1 : v 24 t = 1) : Iv na nt K (C_handBack na nt v r t).1 (C_handBack na nt v r t).2 E S M so := by
  unfold C_handBack
  show Iv na nt K (u2 (C_takeFromHolder na nt v r t).1 24 t 0) (C_takeFromHolder na nt v r t).2 E S M so
  rw [take_v]
  obtain ⟨q1, q2, q3, q4, q5, q6, q7⟩ := h.2.1 t ht
  have hk := h.2.2.1
  refine h.leave ht (fun u hu j => u2_o hu j) ⟨(u2_ne1 (by decide)).trans hk.1, (u2_ne1 (by decide)).trans hk.2.1, (u2_ne1 (by decide)).trans hk.2.2.1, (u2_ne1 (by decide)).trans hk.2.2.2.1, (u2_ne1 (by decide)).trans hk.2.2.2.2⟩ (u2_ne1 (by decide)) (u2_ne1 (by decide)) (by rw [u2_ne1 (by decide)]) (by rw [u2_same]; decide) ?_
  rw [u2_same, u2_ne1 (by decide), u2_ne1 (by decide), u2_ne1 (by decide), u2_ne1 (by decide), u2_ne1 (by decide)]
  refine ⟨q1, ⟨fun z => absurd z (by decide), fun z => ?_⟩, q3, fun z => absurd z (by decide), q5, q6, Or.inl rfl⟩
  rw [h1] at q2
  exact absurd (q2.mpr z) (by decide)
theorem Iv.home (h : Iv na nt K v r E S M so) : ∀ n, n ≤ na → Iv na nt K (C_homeL na nt v r n).1 (C_homeL na nt v r n).2 E S M so
  | 0, _ => h
  | n + 1, hn => by
    have ih := h.home n (by omega)
    rw [C_homeL_s, C_homeLB]
    generalize (C_homeL na nt v r n).1 = x at ih ⊢
    generalize (C_homeL na nt v r n).2 = y at ih ⊢
    cases e : y 15 n with
    | none => rw [if_pos rfl]; exact ih
    | some k =>
      obtain ⟨hk, h32, _⟩ := ih.1.1 n (by omega) k e
      rw [if_neg (by intro q; cases q), show gd (some k) = k from rfl]
      split
      · exact ih
      · exact ih.handBack hk ((ih.1.2.2 k hk).mpr (by rw [h32]; intro q; cases q))
theorem first_of {a : Nat} : ∀ (n y : Nat), C_firstL na nt v r a n = some y → y < n ∧ v 24 y = 0 ∧ hs (v 14 a) (v 21 y)
  | 0, y, e => by cases e
  | n + 1, y, e => by
    rw [C_firstL_s, C_firstLB] at e
    have ih := first_of (a := a) n
    generalize C_firstL na nt v r a n = x at e ih
    have up : ∀ z, x = some z → z < n + 1 ∧ v 24 z = 0 ∧ hs (v 14 a) (v 21 z) := fun z hz => ⟨Nat.lt_succ_of_lt (ih z hz).1, (ih z hz).2⟩
    split at e
    · rename_i h0
      split at e
      · rename_i h1
        have h2 : hs (v 14 a) (v 21 n) := fun z => by
          unfold C_A_hasSkill at h1
          rw [if_pos z] at h1
          cases h1
        split at e
        · cases e; exact ⟨Nat.lt_succ_self n, h0, h2⟩
        · rename_i hx
          split at e
          · cases e; exact ⟨Nat.lt_succ_self n, h0, h2⟩
          · exact up y ((gd_some hx).trans e)
      · exact up y e
    · exact up y e
theorem Iv.give (h : Iv na nt K v r E S M so) {t a : Nat} (ht : t < nt) (ha : a < na) (h0 : v 24 t = 0) (hf : r 15 a = none) (hk : hs (v 14 a) (v 21 t)) : Iv na nt K (C_give na nt v r t a).1 (C_give na nt v r t a).2 E S M so := by
  obtain ⟨g1, g2, g3, g4, g5⟩ := h
  obtain ⟨q1, q2, q3, q4, q5, q6, q7⟩ := g2 t ht
  rw [h0] at q2
  have hne : ¬ v 26 t = v 23 t := fun z => absurd (q2.mpr z) (by decide)
  have hk' : hs (K 14 a) (K 21 t) := by rw [← g3.2.2.1, ← g3.2.2.2.2]; exact hk
  unfold C_give
  by_cases c : 0 ≤ v 27 t
  · rw [if_pos c]
    dsimp only
    rw [Int32.le_iff_toInt_le, show (0 : Int32).toInt = 0 from by decide] at c
    refine ⟨g1.give ht ha h0 hf hk' (u2_same _ _ _ _) (fun u hu => u2_o hu 24), fun u hu => ?_, ⟨(u2_ne1 (by decide)).trans g3.1, (u2_ne1 (by decide)).trans g3.2.1, (u2_ne1 (by decide)).trans g3.2.2.1, (u2_ne1 (by decide)).trans g3.2.2.2.1, (u2_ne1 (by decide)).trans g3.2.2.2.2⟩, by rw [u2_ne1 (by decide), u2_ne1 (by decide)]; exact g4, by rw [u2_ne1 (by decide)]; exact g5⟩
    by_cases e : u = t
    · rw [e, u2_same, u2_ne1 (by decide), u2_ne1 (by decide), u2_ne1 (by decide), u2_ne1 (by decide), u2_ne1 (by decide)]
      exact ⟨q1, ⟨fun z => absurd z (by decide), fun z => absurd z hne⟩, fun _ => c, fun _ => c, q5, q6, Or.inr (Or.inl rfl)⟩
    · rw [u2_o e, u2_o e, u2_o e, u2_o e, u2_o e, u2_o e]; exact g2 u hu
  · rw [if_neg c]
    dsimp only
    refine ⟨g1.give ht ha h0 hf hk' (by rw [u2_ne1 (by decide), u2_same]) (fun u hu => by rw [u2_o hu, u2_o hu]), fun u hu => ?_, ⟨(u2_ne1 (by decide)).trans ((u2_ne1 (by decide)).trans g3.1), (u2_ne1 (by decide)).trans ((u2_ne1 (by decide)).trans g3.2.1), (u2_ne1 (by decide)).trans ((u2_ne1 (by decide)).trans g3.2.2.1), (u2_ne1 (by decide)).trans ((u2_ne1 (by decide)).trans g3.2.2.2.1), (u2_ne1 (by decide)).trans ((u2_ne1 (by decide)).trans g3.2.2.2.2)⟩, ?_, ?_⟩
    · by_cases e : u = t
      · rw [e, u2_same, u2_ne1 (by decide), u2_same, u2_ne1 (by decide), u2_ne1 (by decide), u2_ne1 (by decide), u2_ne1 (by decide), u2_ne1 (by decide), u2_ne1 (by decide), u2_ne1 (by decide), u2_ne1 (by decide)]
        exact ⟨q1, ⟨fun z => absurd z (by decide), fun z => absurd z hne⟩, fun _ => q5.2.1, fun _ => q5.2.1, ⟨Int.le_refl _, q5.2⟩, q6, Or.inr (Or.inl rfl)⟩
      · rw [u2_o e, u2_o e, u2_o e, u2_o e, u2_o e, u2_o e, u2_o e, u2_o e, u2_o e, u2_o e, u2_o e, u2_o e]; exact g2 u hu
    · rw [u2_ne1 (by decide), u2_ne1 (by decide), u2_ne1 (by decide), u2_ne1 (by decide)]; exact g4
    · rw [u2_ne1 (by decide), u2_ne1 (by decide)]; exact g5
theorem Iv.out (h : Iv na nt K v r E S M so) : ∀ n, n ≤ na → Iv na nt K (C_outL na nt v r n).1 (C_outL na nt v r n).2 E S M so
  | 0, _ => h
  | n + 1, hn => by
    have ih := h.out n (by omega)
    rw [C_outL_s, C_outLB]
    generalize (C_outL na nt v r n).1 = x at ih ⊢
    generalize (C_outL na nt v r n).2 = y at ih ⊢
    by_cases e : y 15 n = none
    · rw [if_pos e]
      split
      · split
        · exact ih
        · rename_i hx
          obtain ⟨f1, f2, f3⟩ := first_of nt _ (gd_some hx)
          exact ih.give f1 (by omega) f2 e f3
      · exact ih
    · rw [if_neg e]; exact ih
end INV
