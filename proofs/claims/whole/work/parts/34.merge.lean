/-! merging -/
section MERGE
variable {N na nt : Nat} {v : S2} {r : R2} {s : S2}
theorem wit_up {s : S2} (h : MI s) {o : Int32} : ∀ n a, vp_in a 20 → M_wit s o n a = true → M_wit s o 20 a = true := by
  obtain ⟨rk, hrk⟩ := h.rank
  have key : ∀ n a m, vp_in a 20 → 20 ≤ m + rk (ix a) → M_wit s o n a = true → M_wit s o m a = true := fun n => by
    induction n with
    | zero =>
      intro a m _ _ e
      rw [M_wit] at e
      rw [of_decide_eq_true e]
      exact M_wit_eq m
    | succ n ih =>
      intro a m ha hm e
      by_cases e1 : a = o
      · rw [e1]; exact M_wit_eq m
      · rw [M_wit, if_neg e1] at e
        by_cases e4 : s 19 (ix a) = 4
        · rw [if_pos e4] at e
          obtain ⟨g1, g2, g3⟩ := hrk _ (vp_lt ha) e4
          obtain ⟨m', rfl⟩ : ∃ m', m = m' + 1 := ⟨m - 1, by omega⟩
          rw [M_wit, if_neg e1, if_pos e4]
          exact ih _ m' g1 (by omega) e
        · rw [if_neg e4] at e; cases e
  exact fun n a ha e => key n a 20 ha (by omega) e
theorem within_iff {s : S2} (h : MI s) {o a : Int32} (ha : vp_in a 20) : M_isWithin s a o = true ↔ ∃ n, M_wit s o n a = true :=
  ⟨fun e => ⟨20, e⟩, fun ⟨n, e⟩ => wit_up h n a ha e⟩
theorem bool_iff {a b : Bool} (h : a = true ↔ b = true) : a = b := by
  cases a <;> cases b <;> simp_all
theorem u2_comm {s : S2} {j i j' i' : Nat} {x y : Int32} (h : ¬ j = j') : u2 (u2 s j i x) j' i' y = u2 (u2 s j' i' y) j i x := by
  funext a b
  rw [u2_at, u2_at, u2_at, u2_at]
  by_cases e : a = j ∧ b = i
  · rw [if_neg (fun q => h (e.1.symm.trans q.1)), if_pos e, if_pos e]
  · rw [if_neg e, if_neg e]
theorem or_shuf1 (a b c : Int32) : (a ||| c) ||| (b ||| c) = (a ||| b) ||| c := by
  apply Int32.toBitVec_inj.mp
  show (a.toBitVec ||| c.toBitVec) ||| (b.toBitVec ||| c.toBitVec) = (a.toBitVec ||| b.toBitVec) ||| c.toBitVec
  apply BitVec.eq_of_getLsbD_eq
  intro i hi
  simp only [BitVec.getLsbD_or]
  cases a.toBitVec.getLsbD i <;> cases b.toBitVec.getLsbD i <;> cases c.toBitVec.getLsbD i <;> rfl
theorem or_shuf2 (a b c : Int32) : (a ||| c) ||| b = (a ||| b) ||| c := by
  apply Int32.toBitVec_inj.mp
  show (a.toBitVec ||| c.toBitVec) ||| b.toBitVec = (a.toBitVec ||| b.toBitVec) ||| c.toBitVec
  apply BitVec.eq_of_getLsbD_eq
  intro i hi
  simp only [BitVec.getLsbD_or]
  cases a.toBitVec.getLsbD i <;> cases b.toBitVec.getLsbD i <;> cases c.toBitVec.getLsbD i <;> rfl
theorem or_shuf3 (a b c : Int32) : a ||| (b ||| c) = (a ||| b) ||| c := by
  apply Int32.toBitVec_inj.mp
  show a.toBitVec ||| (b.toBitVec ||| c.toBitVec) = (a.toBitVec ||| b.toBitVec) ||| c.toBitVec
  apply BitVec.eq_of_getLsbD_eq
  intro i hi
  simp only [BitVec.getLsbD_or]
  cases a.toBitVec.getLsbD i <;> cases b.toBitVec.getLsbD i <;> cases c.toBitVec.getLsbD i <;> rfl
/-- who lies within whom once t was merged into u -/
theorem Rel.witM (h : Rel N na nt v r s) {s1 : S2} {t u : Nat} (ht : t < nt) (hu : u < nt) (hne : t ≠ u) (ht4 : ¬ s 19 t = 4) (hu4 : ¬ s 19 u = 4) (e19 : ∀ i, s1 19 i = if i = t then 4 else s 19 i) (e25 : ∀ i, s1 25 i = if i = t then nI u else s 25 i) (x : Nat) (hx : x < nt) : ∀ i, i < nt → ((∃ n, M_wit s1 (nI x) n (nI i) = true) ↔ (∃ n, M_wit s (nI x) n (nI i) = true) ∨ (x = u ∧ ∃ n, M_wit s (nI t) n (nI i) = true)) := by
  have hT := h.cTb
  have inj : ∀ a b, a < nt → b < nt → nI a = nI b → a = b := fun a b ha hb e => (nI_eq (by omega) (by omega)).mp e
  have hix : ∀ a, a < nt → ix (nI a) = a := fun a ha => ix_nI (by omega)
  have hu1 : ¬ s1 19 u = 4 := by rw [e19, if_neg (fun q => hne q.symm)]; exact hu4
  have hnext : ∀ i, i < nt → s 19 i = 4 → ∃ j, j < nt ∧ s 25 i = nI j := fun i hi h4 => by
    obtain ⟨j, hj, _, e⟩ := (h.tk i hi).mrg ((h.tk i hi).state ▸ h4)
    exact ⟨j, hj, e⟩
  have to : ∀ n i, i < nt → M_wit s1 (nI x) n (nI i) = true → (∃ n, M_wit s (nI x) n (nI i) = true) ∨ (x = u ∧ ∃ n, M_wit s (nI t) n (nI i) = true) := fun n => by
    induction n with
    | zero =>
      intro i hi e
      rw [M_wit] at e
      exact Or.inl ⟨0, by rw [M_wit]; exact e⟩
    | succ n ih =>
      intro i hi e
      by_cases e1 : nI i = nI x
      · exact Or.inl ⟨0, by rw [M_wit]; exact decide_eq_true e1⟩
      · rw [M_wit, if_neg e1, hix i hi, e19, e25] at e
        by_cases et : i = t
        · rw [if_pos et, if_pos et, if_pos rfl] at e
          have hxu : nI u = nI x := by
            by_cases q : nI u = nI x
            · exact q
            · rw [M_wit_stop q (by rw [hix u hu]; exact hu1)] at e; cases e
          exact Or.inr ⟨(inj u x hu hx hxu).symm, 0, by rw [M_wit, et]; exact decide_eq_true rfl⟩
        · rw [if_neg et, if_neg et] at e
          by_cases e4 : s 19 i = 4
          · rw [if_pos e4] at e
            obtain ⟨j, hj, ej⟩ := hnext i hi e4
            rw [ej] at e
            rcases ih j hj e with ⟨m, q⟩ | ⟨hxu, m, q⟩
            · exact Or.inl ⟨m + 1, by rw [M_wit, if_neg e1, hix i hi, if_pos e4, ej]; exact q⟩
            · refine Or.inr ⟨hxu, m + 1, ?_⟩
              rw [M_wit, if_neg (fun q => et (inj i t hi ht q)), hix i hi, if_pos e4, ej]; exact q
          · rw [if_neg e4] at e; cases e
  have fro1 : ∀ n i, i < nt → M_wit s (nI x) n (nI i) = true → ∃ n, M_wit s1 (nI x) n (nI i) = true := fun n => by
    induction n with
    | zero =>
      intro i hi e
      rw [M_wit] at e
      exact ⟨0, by rw [M_wit]; exact e⟩
    | succ n ih =>
      intro i hi e
      by_cases e1 : nI i = nI x
      · exact ⟨0, by rw [M_wit]; exact decide_eq_true e1⟩
      · rw [M_wit, if_neg e1, hix i hi] at e
        by_cases e4 : s 19 i = 4
        · rw [if_pos e4] at e
          obtain ⟨j, hj, ej⟩ := hnext i hi e4
          rw [ej] at e
          obtain ⟨m, q⟩ := ih j hj e
          have et : i ≠ t := fun z => ht4 (z ▸ e4)
          exact ⟨m + 1, by rw [M_wit, if_neg e1, hix i hi, e19, e25, if_neg et, if_neg et, if_pos e4, ej]; exact q⟩
        · rw [if_neg e4] at e; cases e
  have fro2 : ∀ n i, i < nt → M_wit s (nI t) n (nI i) = true → ∃ n, M_wit s1 (nI u) n (nI i) = true := fun n => by
    have base : ∃ n, M_wit s1 (nI u) n (nI t) = true := ⟨1, by rw [M_wit, if_neg (fun q => hne (inj t u ht hu q)), hix t ht, e19, e25, if_pos rfl, if_pos rfl, if_pos rfl]; exact M_wit_eq 0⟩
    induction n with
    | zero =>
      intro i hi e
      rw [M_wit] at e
      rw [of_decide_eq_true e]; exact base
    | succ n ih =>
      intro i hi e
      by_cases e1 : nI i = nI t
      · rw [e1]; exact base
      · rw [M_wit, if_neg e1, hix i hi] at e
        by_cases e4 : s 19 i = 4
        · rw [if_pos e4] at e
          obtain ⟨j, hj, ej⟩ := hnext i hi e4
          rw [ej] at e
          obtain ⟨m, q⟩ := ih j hj e
          have et : i ≠ t := fun z => e1 (by rw [z])
          by_cases eu : nI i = nI u
          · exact ⟨0, by rw [M_wit]; exact decide_eq_true eu⟩
          · exact ⟨m + 1, by rw [M_wit, if_neg eu, hix i hi, e19, e25, if_neg et, if_neg et, if_pos e4, ej]; exact q⟩
        · rw [if_neg e4] at e; cases e
  intro i hi
  constructor
  · rintro ⟨n, e⟩; exact to n i hi e
  · rintro (⟨n, e⟩ | ⟨rfl, n, e⟩)
    · exact fro1 n i hi e
    · exact fro2 n i hi e
theorem Rel.custM (h : Rel N na nt v r s) {s1 : S2} (h1 : MI s1) {t u : Nat} (ht : t < nt) (hu : u < nt) (hne : t ≠ u) (ht4 : ¬ s 19 t = 4) (hu4 : ¬ s 19 u = 4) (e19 : ∀ i, s1 19 i = if i = t then 4 else s 19 i) (e25 : ∀ i, s1 25 i = if i = t then nI u else s 25 i) (e18 : s1 18 = s 18) (e14 : s1 0 14 = s 0 14) (x : Nat) (hx : x < nt) : M_customersOf s1 (nI x) = if x = u then M_customersOf s (nI u) ||| M_customersOf s (nI t) else M_customersOf s (nI x) := by
  have hT := h.cTb
  have hw : ∀ i, i < nt → (M_isWithin s1 (nI i) (nI x) = true ↔ M_isWithin s (nI i) (nI x) = true ∨ (x = u ∧ M_isWithin s (nI i) (nI t) = true)) := fun i hi => by
    have vi : vp_in (nI i) 20 := vp_in_nI (by omega) (by decide)
    rw [within_iff h1 vi, within_iff h.mi vi, within_iff h.mi vi]
    exact h.witM ht hu hne ht4 hu4 e19 e25 x hx i hi
  rw [M_customersOf, M_customersOf, M_customersOf, M_customersOf, e14, h.ixT]
  by_cases e : x = u
  · rw [if_pos e]
    have : ∀ n, n ≤ nt → M_custL s1 (nI x) n = M_custL s (nI u) n ||| M_custL s (nI t) n := fun n => by
      induction n with
      | zero => intro _; show (0 : Int32) = 0 ||| 0; decide
      | succ n ih =>
        intro hn
        have hq := hw n (by omega)
        rw [e] at hq ih ⊢
        rw [M_custL, M_custL, M_custL, M_custLB, M_custLB, M_custLB, ih (by omega), e18]
        by_cases q1 : M_isWithin s (nI n) (nI u) = true
        · rw [if_pos q1, if_pos (hq.mpr (Or.inl q1))]
          by_cases q2 : M_isWithin s (nI n) (nI t) = true
          · rw [if_pos q2, or_shuf1]
          · rw [if_neg q2, or_shuf2]
        · rw [if_neg q1]
          by_cases q2 : M_isWithin s (nI n) (nI t) = true
          · rw [if_pos q2, if_pos (hq.mpr (Or.inr ⟨rfl, q2⟩)), or_shuf3]
          · rw [if_neg q2, if_neg (fun z => (hq.mp z).elim q1 (fun y => q2 y.2))]
    exact this nt (Nat.le_refl _)
  · rw [if_neg e]
    have : ∀ n, n ≤ nt → M_custL s1 (nI x) n = M_custL s (nI x) n := fun n => by
      induction n with
      | zero => intro _; rfl
      | succ n ih =>
        intro hn
        have hq := hw n (by omega)
        rw [M_custL, M_custL, M_custLB, M_custLB, ih (by omega), e18, bool_iff (hq.trans ⟨fun z => z.elim id (fun y => absurd y.1 e), Or.inl⟩)]
    exact this nt (Nat.le_refl _)
theorem u2_id {s : S2} {j i : Nat} : u2 s j i (s j i) = s := by
  funext a b
  rw [u2_at]
  split
  · rename_i h; rw [h.1, h.2]
  · rfl
theorem Rel.opn_iff (h : Rel N na nt v r s) {t : Nat} (ht : t < nt) : (C_T_isOpen na nt v r t = M_isOpen s (nI t)) ∧ (C_T_isOpen na nt v r t = true ↔ v 24 t = 0 ∨ v 24 t = 1 ∨ v 24 t = 2) := by
  have hT := h.cTb
  unfold C_T_isOpen M_isOpen
  rw [ix_nI (by omega), (h.tk t ht).state]
  rcases (h.tk t ht).rng with e | e | e | e | e <;> rw [e] <;> decide
theorem Rel.mergeA (h : Rel N na nt v r s) {t u : Nat} (ht : t < nt) (hu : u < nt) (hne : t ≠ u) (ot : v 24 t = 0 ∨ v 24 t = 1 ∨ v 24 t = 2) (ou : v 24 u = 0 ∨ v 24 u = 1 ∨ v 24 u = 2) : Rel N na nt (u2 (u2 v 24 t 4) 31 u (v 31 u ||| v 31 t)) (u3 (C_takeFromHolder na nt v r t).2 34 t (some u)) (u2 (M_leave s (nI t) 4) 25 t (nI u)) := by
  have hT := h.cTb
  have hk := h.takeM ht
  have ht4 : ¬ s 19 t = 4 := by rw [(h.tk t ht).state]; rcases ot with e | e | e <;> rw [e] <;> decide
  have hu4 : ¬ s 19 u = 4 := by rw [(h.tk u hu).state]; rcases ou with e | e | e <;> rw [e] <;> decide
  have vt : vp_in (nI t) 20 := vp_in_nI (by omega) (by decide)
  have vu : vp_in (nI u) 20 := vp_in_nI (by omega) (by decide)
  have hMI : MI (u2 (M_leave s (nI t) 4) 25 t (nI u)) := by
    have h9 := MI_merge (p := nI t) (q := nI u) (m := s 16 u) h.mi vt vu (fun q => hne ((nI_eq (by omega) (by omega)).mp q)) (by rw [ix_nI (by omega)]; exact hu4) (h.mi.2.2.1 u (by omega))
    rw [ix_nI (by omega), ix_nI (by omega)] at h9
    have e16 : u2 (M_leave s (nI t) 4) 25 t (nI u) 16 u = s 16 u := by rw [u2_ne1 (by decide), M_leave_fn (by decide) (by decide)]
    rw [← e16, u2_id] at h9
    exact h9
  have e19 : ∀ i, u2 (M_leave s (nI t) 4) 25 t (nI u) 19 i = if i = t then 4 else s 19 i := fun i => by
    rw [u2_ne1 (by decide), M_leave_at, ix_nI (by omega)]
    by_cases e : i = t
    · rw [if_pos ⟨rfl, e⟩, if_pos e]
    · rw [if_neg (fun q => e q.2), if_neg (fun q => absurd q.1 (by decide)), if_neg e]
  have e25 : ∀ i, u2 (M_leave s (nI t) 4) 25 t (nI u) 25 i = if i = t then nI u else s 25 i := fun i => by
    rw [u2_at, M_leave_fn (by decide) (by decide)]
    by_cases e : i = t
    · rw [if_pos ⟨rfl, e⟩, if_pos e]
    · rw [if_neg (fun q => e q.2), if_neg e]
  have hcu := fun x hx => h.custM hMI ht hu hne ht4 hu4 e19 e25 (by rw [u2_ne1 (by decide), M_leave_fn (by decide) (by decide)]) (by rw [u2_ne1 (by decide), M_leave_fn (by decide) (by decide)]) x hx
  have el : M_leave s (nI t) 4 = u2 (M_leaveL s (nI t) na) 19 t 4 := h.leave_eq ht 4
  refine hk.upT2 (Nat.le_refl _) ht (fun j i z1 z2 => ?_) (fun j i z => ?_) (fun j i z => ?_) hMI (fun a ha e => absurd e (h.free ht a ha)) ?_ (fun x hx => ?_)
  · rw [u2_at, if_neg (by omega), u2_at, if_neg (by omega)]
  · rw [el, u2_at, if_neg (by omega), u2_at, if_neg (by omega)]
  · rw [u3_at, if_neg (by omega)]
  · obtain ⟨b1, b2, b3, b4, b5, b6, b7, b8, b9, b10, b11, b12, b13, b14, b15, b16, b17, b18, b19, b20, b21, b22, b23, b24⟩ := hk.tk t ht
    have z0 : u2 (u2 v 24 t 4) 31 u (v 31 u ||| v 31 t) 24 t = 4 := by rw [u2_ne1 (by decide), u2_same]
    have w : ∀ j, ¬ j = 24 → ¬ j = 31 → u2 (u2 v 24 t 4) 31 u (v 31 u ||| v 31 t) j t = v j t := fun j q1 q2 => by rw [u2_ne1 q2, u2_ne1 q1]
    have y : ∀ j, ¬ j = 19 → ¬ j = 25 → u2 (M_leave s (nI t) 4) 25 t (nI u) j t = M_leaveL s (nI t) na j t := fun j q1 q2 => by rw [el, u2_ne1 q2, u2_ne1 q1]
    refine ⟨by rw [w 20 (by decide) (by decide)]; exact b1, by rw [w 21 (by decide) (by decide), y 15 (by decide) (by decide)]; exact b2, by rw [w 22 (by decide) (by decide), y 16 (by decide) (by decide)]; exact b3, by rw [w 23 (by decide) (by decide), y 17 (by decide) (by decide)]; exact b4, by rw [z0, e19, if_pos rfl], by rw [w 25 (by decide) (by decide), y 20 (by decide) (by decide)]; exact b6, by rw [w 26 (by decide) (by decide), y 21 (by decide) (by decide)]; exact b7, by rw [w 27 (by decide) (by decide), y 23 (by decide) (by decide)]; exact b8, by rw [w 28 (by decide) (by decide), y 24 (by decide) (by decide)]; exact b9, by rw [y 22 (by decide) (by decide), u3_ne1 (by decide)]; exact b10, by rw [u3_ne1 (by decide)]; exact b11, by rw [u3_ne1 (by decide), u3_ne1 (by decide)]; exact b12, fun _ => ⟨u, hu, by rw [u3_at, if_pos ⟨rfl, rfl⟩], by rw [e25, if_pos rfl]⟩, fun q => absurd z0 q, fun q => ?_, fun q => ?_, Or.inr (Or.inr (Or.inr (Or.inr z0))), by rw [w 22 (by decide) (by decide)]; exact b18, by rw [w 21 (by decide) (by decide)]; exact b19, by rw [w 25 (by decide) (by decide), show u2 (u2 v 24 t 4) 31 u (v 31 u ||| v 31 t) 0 0 = v 0 0 from by rw [u2_ne1 (by decide), u2_ne1 (by decide)]]; exact b20, by rw [w 27 (by decide) (by decide)]; exact b21, fun q => ?_, fun q => ?_, by rw [w 23 (by decide) (by decide)]; exact b24⟩
    · rw [z0] at q; exact absurd q (by decide)
    · rw [z0] at q; exact absurd q (by decide)
    · rw [z0] at q; exact absurd q (by decide)
    · rw [z0] at q; exact absurd q (by decide)
  · rw [hcu x hx]
    by_cases e : x = u
    · rw [if_pos e, e, u2_same, h.cust u hu, h.cust t ht]
    · rw [if_neg e, u2_at, if_neg (fun q => e q.2), u2_ne1 (by decide)]
      exact h.cust x hx
theorem Rel.mergeB (h : Rel N na nt v r s) {t u : Nat} (ht : t < nt) (hu : u < nt) (hne : t ≠ u) (ot : v 24 t = 0 ∨ v 24 t = 1 ∨ v 24 t = 2) (ou : v 24 u = 0 ∨ v 24 u = 1 ∨ v 24 u = 2) : Rel N na nt (u2 (u2 (u2 (u2 v 24 t 4) 22 u (if v 22 t < v 22 u then v 22 t else v 22 u)) 25 u (if v 25 u < v 25 t then v 25 t else v 25 u)) 31 u (v 31 u ||| v 31 t)) (u3 (C_takeFromHolder na nt v r t).2 34 t (some u)) (u2 (u2 (u2 (M_leave s (nI t) 4) 25 t (nI u)) 16 u (if v 22 t < v 22 u then v 22 t else v 22 u)) 20 u (if v 25 u < v 25 t then v 25 t else v 25 u)) := by
  have hA := h.mergeA ht hu hne ot ou
  rw [u2_comm (j := 25) (j' := 31) (by decide), u2_comm (j := 22) (j' := 31) (by decide)]
  have gt := h.tk t ht
  have gu := h.tk u hu
  have w24 : u2 (u2 v 24 t 4) 31 u (v 31 u ||| v 31 t) 24 u = v 24 u := by rw [u2_ne1 (by decide), u2_at, if_neg (fun q => hne q.2.symm)]
  have hpm : vp_in (if v 22 t < v 22 u then v 22 t else v 22 u) 4 := by split; exact gt.priob; exact gu.priob
  have ham : 0 ≤ (if v 25 u < v 25 t then v 25 t else v 25 u).toInt ∧ (if v 25 u < v 25 t then v 25 t else v 25 u).toInt ≤ (v 0 0).toInt := by split; exact gt.ageb; exact gu.ageb
  refine hA.upT (Nat.le_refl _) hu (fun j i z => ?_) (fun j i z => ?_) (fun _ _ _ => rfl) (MI_u2 (by decide) (MI_pr hpm hA.mi)) (fun e => ?_) ?_ (fun x hx => ?_)
  · rw [u2_at, if_neg (by omega), u2_at, if_neg (by omega)]
  · rw [u2_at, if_neg (by omega), u2_at, if_neg (by omega)]
  · rw [u2_ne1 (by decide), u2_ne1 (by decide)]; exact e
  · obtain ⟨b1, b2, b3, b4, b5, b6, b7, b8, b9, b10, b11, b12, b13, b14, b15, b16, b17, b18, b19, b20, b21, b22, b23, b24⟩ := hA.tk u hu
    exact ⟨b1, b2, by rw [u2_ne1 (by decide), u2_same, u2_ne1 (by decide), u2_same], b4, b5, by rw [u2_same, u2_same], b7, b8, b9, b10, b11, b12, b13, b14, b15, b16, b17, by rw [u2_ne1 (by decide), u2_same]; exact hpm, b19, by rw [u2_same]; exact ham, b21, b22, b23, b24⟩
  · rw [u2_ne1 (by decide), u2_ne1 (by decide), hA.cust x hx]
    exact (M_cust_cg (fun _ => by rw [u2_ne1 (by decide), u2_ne1 (by decide)]) (fun _ _ => by rw [u2_ne1 (by decide), u2_ne1 (by decide)]) (by rw [u2_ne1 (by decide), u2_ne1 (by decide)]) (by rw [u2_ne1 (by decide), u2_ne1 (by decide)]) _).symm
theorem AG_merge (h : Rel N na nt v r s) (p0 p1 : Int32) : AG [2, 1, 3] N na nt (C_merge na nt v r p0 p1) (M_merge s p0 p1) := by
  have h0 := h.thr 0
  have hT := h.cTb
  unfold C_merge M_merge
  rw [h0.isT, h0.isT]
  by_cases h1 : inR p0 nt = true
  · rw [if_pos h1, if_pos h1]
    by_cases h2 : inR p1 nt = true
    · rw [if_pos h2, if_pos h2]
      by_cases h3 : p0 = p1
      · rw [if_pos h3, if_pos h3]; exact AG.no (j := 1) h (by decide) rfl
      · rw [if_neg h3, if_neg h3]
        have ht := vp_lt (inR_iff.mp h1)
        have hu := vp_lt (inR_iff.mp h2)
        have ep := in_nI (inR_iff.mp h1)
        have eq := in_nI (inR_iff.mp h2)
        have hne : ix p0 ≠ ix p1 := fun z => h3 (by rw [ep, eq, z])
        have o0 := h0.opn_iff ht
        have o1 := h0.opn_iff hu
        rw [← ep] at o0
        rw [← eq] at o1
        rw [← o0.1, ← o1.1]
        by_cases c0 : C_T_isOpen na nt v r (ix p0) = true
        · rw [if_pos c0, if_pos c0]
          by_cases c1 : C_T_isOpen na nt v r (ix p1) = true
          · rw [if_pos c1, if_pos c1, take_v]
            have l16 : M_leave (u2 s 0 0 0) p0 4 16 = s 16 := by rw [M_leave_fn (by decide) (by decide), u2_ne1 (by decide)]
            have l20 : M_leave (u2 s 0 0 0) p0 4 20 = s 20 := by rw [M_leave_fn (by decide) (by decide), u2_ne1 (by decide)]
            rw [l16, l20, (h.tk _ ht).prio, (h.tk _ hu).prio, (h.tk _ ht).age, (h.tk _ hu).age]
            have hB := h0.mono.mergeB ht hu hne (o0.2.mp c0) (o1.2.mp c1)
            rw [← ep, ← eq] at hB
            refine AG.ok ?_ ?_ hB
            · rw [u2_ne1 (by decide), u2_ne1 (by decide), u2_ne1 (by decide), M_leave_fn (by decide) (by decide)]; exact u2_00 s 0
            · rw [hB.cust _ hu, ← eq]
          · rw [if_neg c1, if_neg c1]; exact AG.no (j := 2) h (by decide) rfl
        · rw [if_neg c0, if_neg c0]; exact AG.no (j := 2) h (by decide) rfl
    · rw [if_neg h2, if_neg h2]; exact AG.no (j := 0) h (by decide) rfl
  · rw [if_neg h1, if_neg h1]; exact AG.no (j := 0) h (by decide) rfl
end MERGE
