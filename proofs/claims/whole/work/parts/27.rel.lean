/-! THE TWO STATES SAY THE SAME: the class's (v, r), the reference's s -/
def hnd (o : Option Nat) : Int32 := match o with
  | none => -1
  | some t => nI t
theorem hnd_some {o : Option Nat} {t : Nat} (ht : t < 1000) (ho : ∀ u, o = some u → u < 1000) : hnd o = nI t ↔ o = some t := by
  cases o with
  | none => exact ⟨fun e => absurd e.symm (nI_ne_m1 (by omega)), fun e => by cases e⟩
  | some u =>
    have hu := ho u rfl
    exact ⟨fun e => congrArg some ((nI_eq (by omega) (by omega)).mp e), fun e => by cases e; rfl⟩
theorem hnd_none {o : Option Nat} (ho : ∀ u, o = some u → u < 1000) : hnd o = -1 ↔ o = none := by
  cases o with
  | none => exact ⟨fun _ => rfl, fun _ => rfl⟩
  | some u =>
    have hu := ho u rfl
    exact ⟨fun e => absurd e (nI_ne_m1 (by omega)), fun e => by cases e⟩
def AgR (na nt : Nat) (v : S2) (r : R2) (s : S2) (a : Nat) : Prop :=
  (v 10 a = nI a) ∧
  (s 8 a = v 11 a) ∧
  (s 9 a = v 12 a) ∧
  (s 10 a = v 13 a) ∧
  (s 7 a = v 14 a) ∧
  (s 12 a = v 16 a) ∧
  (s 13 a = v 17 a) ∧
  (s 11 a = hnd (r 15 a)) ∧
  (1 ≤ (v 13 a).toInt ∧ (v 13 a).toInt ≤ 1440) ∧
  (∀ t, r 15 a = some t → t < nt ∧ r 32 t = some a ∧ v 24 t = 1)
theorem AgR.num {na nt : Nat} {v : S2} {r : R2} {s : S2} {a : Nat} (h : AgR na nt v r s a) : v 10 a = nI a := h.1
theorem AgR.days {na nt : Nat} {v : S2} {r : R2} {s : S2} {a : Nat} (h : AgR na nt v r s a) : s 8 a = v 11 a := h.2.1
theorem AgR.beg {na nt : Nat} {v : S2} {r : R2} {s : S2} {a : Nat} (h : AgR na nt v r s a) : s 9 a = v 12 a := h.2.2.1
theorem AgR.fin {na nt : Nat} {v : S2} {r : R2} {s : S2} {a : Nat} (h : AgR na nt v r s a) : s 10 a = v 13 a := h.2.2.2.1
theorem AgR.skl {na nt : Nat} {v : S2} {r : R2} {s : S2} {a : Nat} (h : AgR na nt v r s a) : s 7 a = v 14 a := h.2.2.2.2.1
theorem AgR.wrk {na nt : Nat} {v : S2} {r : R2} {s : S2} {a : Nat} (h : AgR na nt v r s a) : s 12 a = v 16 a := h.2.2.2.2.2.1
theorem AgR.sol {na nt : Nat} {v : S2} {r : R2} {s : S2} {a : Nat} (h : AgR na nt v r s a) : s 13 a = v 17 a := h.2.2.2.2.2.2.1
theorem AgR.hold {na nt : Nat} {v : S2} {r : R2} {s : S2} {a : Nat} (h : AgR na nt v r s a) : s 11 a = hnd (r 15 a) := h.2.2.2.2.2.2.2.1
theorem AgR.finb {na nt : Nat} {v : S2} {r : R2} {s : S2} {a : Nat} (h : AgR na nt v r s a) : 1 ≤ (v 13 a).toInt ∧ (v 13 a).toInt ≤ 1440 := h.2.2.2.2.2.2.2.2.1
theorem AgR.heldb {na nt : Nat} {v : S2} {r : R2} {s : S2} {a : Nat} (h : AgR na nt v r s a) : ∀ t, r 15 a = some t → t < nt ∧ r 32 t = some a ∧ v 24 t = 1 := h.2.2.2.2.2.2.2.2.2
def TkR (N na nt : Nat) (v : S2) (r : R2) (s : S2) (t : Nat) : Prop :=
  (v 20 t = nI t) ∧
  (s 15 t = v 21 t) ∧
  (s 16 t = v 22 t) ∧
  (s 17 t = v 23 t) ∧
  (s 19 t = v 24 t) ∧
  (s 20 t = v 25 t) ∧
  (s 21 t = v 26 t) ∧
  (s 23 t = v 27 t) ∧
  (s 24 t = v 28 t) ∧
  (s 22 t = hnd (r 33 t)) ∧
  (∀ a, r 33 t = some a → a < na) ∧
  (∀ a, r 32 t = some a → a < na ∧ r 15 a = some t) ∧
  (v 24 t = 4 → ∃ u, u < nt ∧ r 34 t = some u ∧ s 25 t = nI u) ∧
  (v 24 t ≠ 4 → r 34 t = none) ∧
  (v 24 t = 2 → s 25 t = v 29 t) ∧
  (v 24 t = 3 → s 25 t = v 30 t) ∧
  (v 24 t = 0 ∨ v 24 t = 1 ∨ v 24 t = 2 ∨ v 24 t = 3 ∨ v 24 t = 4) ∧
  (vp_in (v 22 t) 4) ∧
  (vp_in (v 21 t) 8) ∧
  (0 ≤ (v 25 t).toInt ∧ (v 25 t).toInt ≤ (v 0 0).toInt) ∧
  (v 27 t = -1 ∨ 0 ≤ (v 27 t).toInt) ∧
  ((v 24 t = 0 ∨ v 24 t = 1 ∨ v 24 t = 2) → v 26 t < v 23 t) ∧
  (v 24 t = 3 → v 26 t = v 23 t) ∧
  ((v 23 t).toInt ≤ 600 + 300 * N)
theorem TkR.num {N na nt : Nat} {v : S2} {r : R2} {s : S2} {t : Nat} (h : TkR N na nt v r s t) : v 20 t = nI t := h.1
theorem TkR.need {N na nt : Nat} {v : S2} {r : R2} {s : S2} {t : Nat} (h : TkR N na nt v r s t) : s 15 t = v 21 t := h.2.1
theorem TkR.prio {N na nt : Nat} {v : S2} {r : R2} {s : S2} {t : Nat} (h : TkR N na nt v r s t) : s 16 t = v 22 t := h.2.2.1
theorem TkR.eff {N na nt : Nat} {v : S2} {r : R2} {s : S2} {t : Nat} (h : TkR N na nt v r s t) : s 17 t = v 23 t := h.2.2.2.1
theorem TkR.state {N na nt : Nat} {v : S2} {r : R2} {s : S2} {t : Nat} (h : TkR N na nt v r s t) : s 19 t = v 24 t := h.2.2.2.2.1
theorem TkR.age {N na nt : Nat} {v : S2} {r : R2} {s : S2} {t : Nat} (h : TkR N na nt v r s t) : s 20 t = v 25 t := h.2.2.2.2.2.1
theorem TkR.don {N na nt : Nat} {v : S2} {r : R2} {s : S2} {t : Nat} (h : TkR N na nt v r s t) : s 21 t = v 26 t := h.2.2.2.2.2.2.1
theorem TkR.ansA {N na nt : Nat} {v : S2} {r : R2} {s : S2} {t : Nat} (h : TkR N na nt v r s t) : s 23 t = v 27 t := h.2.2.2.2.2.2.2.1
theorem TkR.reop {N na nt : Nat} {v : S2} {r : R2} {s : S2} {t : Nat} (h : TkR N na nt v r s t) : s 24 t = v 28 t := h.2.2.2.2.2.2.2.2.1
theorem TkR.lat {N na nt : Nat} {v : S2} {r : R2} {s : S2} {t : Nat} (h : TkR N na nt v r s t) : s 22 t = hnd (r 33 t) := h.2.2.2.2.2.2.2.2.2.1
theorem TkR.latb {N na nt : Nat} {v : S2} {r : R2} {s : S2} {t : Nat} (h : TkR N na nt v r s t) : ∀ a, r 33 t = some a → a < na := h.2.2.2.2.2.2.2.2.2.2.1
theorem TkR.holdb {N na nt : Nat} {v : S2} {r : R2} {s : S2} {t : Nat} (h : TkR N na nt v r s t) : ∀ a, r 32 t = some a → a < na ∧ r 15 a = some t := h.2.2.2.2.2.2.2.2.2.2.2.1
theorem TkR.mrg {N na nt : Nat} {v : S2} {r : R2} {s : S2} {t : Nat} (h : TkR N na nt v r s t) : v 24 t = 4 → ∃ u, u < nt ∧ r 34 t = some u ∧ s 25 t = nI u := h.2.2.2.2.2.2.2.2.2.2.2.2.1
theorem TkR.nmrg {N na nt : Nat} {v : S2} {r : R2} {s : S2} {t : Nat} (h : TkR N na nt v r s t) : v 24 t ≠ 4 → r 34 t = none := h.2.2.2.2.2.2.2.2.2.2.2.2.2.1
theorem TkR.paus {N na nt : Nat} {v : S2} {r : R2} {s : S2} {t : Nat} (h : TkR N na nt v r s t) : v 24 t = 2 → s 25 t = v 29 t := h.2.2.2.2.2.2.2.2.2.2.2.2.2.2.1
theorem TkR.solv {N na nt : Nat} {v : S2} {r : R2} {s : S2} {t : Nat} (h : TkR N na nt v r s t) : v 24 t = 3 → s 25 t = v 30 t := h.2.2.2.2.2.2.2.2.2.2.2.2.2.2.2.1
theorem TkR.rng {N na nt : Nat} {v : S2} {r : R2} {s : S2} {t : Nat} (h : TkR N na nt v r s t) : v 24 t = 0 ∨ v 24 t = 1 ∨ v 24 t = 2 ∨ v 24 t = 3 ∨ v 24 t = 4 := h.2.2.2.2.2.2.2.2.2.2.2.2.2.2.2.2.1
theorem TkR.priob {N na nt : Nat} {v : S2} {r : R2} {s : S2} {t : Nat} (h : TkR N na nt v r s t) : vp_in (v 22 t) 4 := h.2.2.2.2.2.2.2.2.2.2.2.2.2.2.2.2.2.1
theorem TkR.needb {N na nt : Nat} {v : S2} {r : R2} {s : S2} {t : Nat} (h : TkR N na nt v r s t) : vp_in (v 21 t) 8 := h.2.2.2.2.2.2.2.2.2.2.2.2.2.2.2.2.2.2.1
theorem TkR.ageb {N na nt : Nat} {v : S2} {r : R2} {s : S2} {t : Nat} (h : TkR N na nt v r s t) : 0 ≤ (v 25 t).toInt ∧ (v 25 t).toInt ≤ (v 0 0).toInt := h.2.2.2.2.2.2.2.2.2.2.2.2.2.2.2.2.2.2.2.1
theorem TkR.ansb {N na nt : Nat} {v : S2} {r : R2} {s : S2} {t : Nat} (h : TkR N na nt v r s t) : v 27 t = -1 ∨ 0 ≤ (v 27 t).toInt := h.2.2.2.2.2.2.2.2.2.2.2.2.2.2.2.2.2.2.2.2.1
theorem TkR.doneb {N na nt : Nat} {v : S2} {r : R2} {s : S2} {t : Nat} (h : TkR N na nt v r s t) : (v 24 t = 0 ∨ v 24 t = 1 ∨ v 24 t = 2) → v 26 t < v 23 t := h.2.2.2.2.2.2.2.2.2.2.2.2.2.2.2.2.2.2.2.2.2.1
theorem TkR.donee {N na nt : Nat} {v : S2} {r : R2} {s : S2} {t : Nat} (h : TkR N na nt v r s t) : v 24 t = 3 → v 26 t = v 23 t := h.2.2.2.2.2.2.2.2.2.2.2.2.2.2.2.2.2.2.2.2.2.2.1
theorem TkR.effb {N na nt : Nat} {v : S2} {r : R2} {s : S2} {t : Nat} (h : TkR N na nt v r s t) : (v 23 t).toInt ≤ 600 + 300 * N := h.2.2.2.2.2.2.2.2.2.2.2.2.2.2.2.2.2.2.2.2.2.2.2
def Rel (N na nt : Nat) (v : S2) (r : R2) (s : S2) : Prop :=
  (MI s) ∧
  (s 0 1 = v 0 0) ∧
  (vp_in (v 0 0) 100000) ∧
  (s 0 2 = v 0 1) ∧
  (s 0 3 = v 0 2) ∧
  (0 ≤ (v 0 1).toInt ∧ (v 0 1).toInt < (v 0 2).toInt ∧ (v 0 2).toInt ≤ 1440) ∧
  (s 0 6 = nI na) ∧
  (na ≤ 6) ∧
  (s 0 14 = nI nt) ∧
  (nt ≤ 20) ∧
  (∀ i, i < 4 → s 4 i = v 1 i ∧ s 5 i = v 2 i ∧ 1 ≤ (v 2 i).toInt ∧ (v 2 i).toInt ≤ 9999) ∧
  (∀ a, a < na → AgR na nt v r s a) ∧
  (∀ t, t < nt → TkR N na nt v r s t) ∧
  (∀ t, t < nt → v 31 t = M_customersOf s (nI t)) ∧
  (∀ t, nt ≤ t → t < 20 → s 19 t = 0 ∧ s 20 t = 0 ∧ s 21 t = 0 ∧ s 24 t = 0) ∧
  (∀ a, na ≤ a → a < 6 → s 12 a = 0 ∧ s 13 a = 0)
theorem Rel.mi {N na nt : Nat} {v : S2} {r : R2} {s : S2} (h : Rel N na nt v r s) : MI s := h.1
theorem Rel.min {N na nt : Nat} {v : S2} {r : R2} {s : S2} (h : Rel N na nt v r s) : s 0 1 = v 0 0 := h.2.1
theorem Rel.minb {N na nt : Nat} {v : S2} {r : R2} {s : S2} (h : Rel N na nt v r s) : vp_in (v 0 0) 100000 := h.2.2.1
theorem Rel.opn {N na nt : Nat} {v : S2} {r : R2} {s : S2} (h : Rel N na nt v r s) : s 0 2 = v 0 1 := h.2.2.2.1
theorem Rel.cls {N na nt : Nat} {v : S2} {r : R2} {s : S2} (h : Rel N na nt v r s) : s 0 3 = v 0 2 := h.2.2.2.2.1
theorem Rel.hrs {N na nt : Nat} {v : S2} {r : R2} {s : S2} (h : Rel N na nt v r s) : 0 ≤ (v 0 1).toInt ∧ (v 0 1).toInt < (v 0 2).toInt ∧ (v 0 2).toInt ≤ 1440 := h.2.2.2.2.2.1
theorem Rel.cA {N na nt : Nat} {v : S2} {r : R2} {s : S2} (h : Rel N na nt v r s) : s 0 6 = nI na := h.2.2.2.2.2.2.1
theorem Rel.cAb {N na nt : Nat} {v : S2} {r : R2} {s : S2} (h : Rel N na nt v r s) : na ≤ 6 := h.2.2.2.2.2.2.2.1
theorem Rel.cT {N na nt : Nat} {v : S2} {r : R2} {s : S2} (h : Rel N na nt v r s) : s 0 14 = nI nt := h.2.2.2.2.2.2.2.2.1
theorem Rel.cTb {N na nt : Nat} {v : S2} {r : R2} {s : S2} (h : Rel N na nt v r s) : nt ≤ 20 := h.2.2.2.2.2.2.2.2.2.1
theorem Rel.tgt {N na nt : Nat} {v : S2} {r : R2} {s : S2} (h : Rel N na nt v r s) : ∀ i, i < 4 → s 4 i = v 1 i ∧ s 5 i = v 2 i ∧ 1 ≤ (v 2 i).toInt ∧ (v 2 i).toInt ≤ 9999 := h.2.2.2.2.2.2.2.2.2.2.1
theorem Rel.ag {N na nt : Nat} {v : S2} {r : R2} {s : S2} (h : Rel N na nt v r s) : ∀ a, a < na → AgR na nt v r s a := h.2.2.2.2.2.2.2.2.2.2.2.1
theorem Rel.tk {N na nt : Nat} {v : S2} {r : R2} {s : S2} (h : Rel N na nt v r s) : ∀ t, t < nt → TkR N na nt v r s t := h.2.2.2.2.2.2.2.2.2.2.2.2.1
theorem Rel.cust {N na nt : Nat} {v : S2} {r : R2} {s : S2} (h : Rel N na nt v r s) : ∀ t, t < nt → v 31 t = M_customersOf s (nI t) := h.2.2.2.2.2.2.2.2.2.2.2.2.2.1
theorem Rel.zT {N na nt : Nat} {v : S2} {r : R2} {s : S2} (h : Rel N na nt v r s) : ∀ t, nt ≤ t → t < 20 → s 19 t = 0 ∧ s 20 t = 0 ∧ s 21 t = 0 ∧ s 24 t = 0 := h.2.2.2.2.2.2.2.2.2.2.2.2.2.2.1
theorem Rel.zA {N na nt : Nat} {v : S2} {r : R2} {s : S2} (h : Rel N na nt v r s) : ∀ a, na ≤ a → a < 6 → s 12 a = 0 ∧ s 13 a = 0 := h.2.2.2.2.2.2.2.2.2.2.2.2.2.2.2
theorem AgR.cg {na nt : Nat} {v v' : S2} {r r' : R2} {s s' : S2} {a : Nat} (h : AgR na nt v r s a) (hv : ∀ j, 10 ≤ j → j < 20 → v' j a = v j a) (hs : ∀ j, 7 ≤ j → j < 14 → s' j a = s j a) (hr : r' 15 a = r 15 a) (ht : ∀ t, r 15 a = some t → r' 32 t = r 32 t ∧ v' 24 t = v 24 t) : AgR na nt v' r' s' a := by
  obtain ⟨b1, b2, b3, b4, b5, b6, b7, b8, b9, b10⟩ := h
  refine ⟨?_, ?_, ?_, ?_, ?_, ?_, ?_, ?_, ?_, fun t e => ?_⟩
  · rw [hv 10 (by decide) (by decide)]; exact b1
  · rw [hv 11 (by decide) (by decide), hs 8 (by decide) (by decide)]; exact b2
  · rw [hv 12 (by decide) (by decide), hs 9 (by decide) (by decide)]; exact b3
  · rw [hv 13 (by decide) (by decide), hs 10 (by decide) (by decide)]; exact b4
  · rw [hv 14 (by decide) (by decide), hs 7 (by decide) (by decide)]; exact b5
  · rw [hv 16 (by decide) (by decide), hs 12 (by decide) (by decide)]; exact b6
  · rw [hv 17 (by decide) (by decide), hs 13 (by decide) (by decide)]; exact b7
  · rw [hr, hs 11 (by decide) (by decide)]; exact b8
  · rw [hv 13 (by decide) (by decide)]; exact b9
  · rw [hr] at e
    rw [(ht t e).1, (ht t e).2]
    exact b10 t e
theorem TkR.cg {N N' na nt : Nat} {v v' : S2} {r r' : R2} {s s' : S2} {t : Nat} (h : TkR N na nt v r s t) (hN : N ≤ N') (hv : ∀ j, 20 ≤ j → j < 31 → v' j t = v j t) (hs : ∀ j, 15 ≤ j → s' j t = s j t) (hr : ∀ j, 32 ≤ j → r' j t = r j t) (h15 : ∀ a, r 32 t = some a → r' 15 a = r 15 a) (hm : (v 0 0).toInt ≤ (v' 0 0).toInt) : TkR N' na nt v' r' s' t := by
  obtain ⟨b1, b2, b3, b4, b5, b6, b7, b8, b9, b10, b11, b12, b13, b14, b15, b16, b17, b18, b19, b20, b21, b22, b23, b24⟩ := h
  have e20 := hv 20 (by decide) (by decide)
  have e21 := hv 21 (by decide) (by decide)
  have e22 := hv 22 (by decide) (by decide)
  have e23 := hv 23 (by decide) (by decide)
  have e24 := hv 24 (by decide) (by decide)
  have e25 := hv 25 (by decide) (by decide)
  have e26 := hv 26 (by decide) (by decide)
  have e27 := hv 27 (by decide) (by decide)
  have e28 := hv 28 (by decide) (by decide)
  have e29 := hv 29 (by decide) (by decide)
  have e30 := hv 30 (by decide) (by decide)
  have f25 := hs 25 (by decide)
  have g34 := hr 34 (by decide)
  refine ⟨?_, ?_, ?_, ?_, ?_, ?_, ?_, ?_, ?_, ?_, ?_, ?_, ?_, ?_, ?_, ?_, ?_, ?_, ?_, ?_, ?_, ?_, ?_, ?_⟩
  · rw [e20]; exact b1
  · rw [e21, hs 15 (by decide)]; exact b2
  · rw [e22, hs 16 (by decide)]; exact b3
  · rw [e23, hs 17 (by decide)]; exact b4
  · rw [e24, hs 19 (by decide)]; exact b5
  · rw [e25, hs 20 (by decide)]; exact b6
  · rw [e26, hs 21 (by decide)]; exact b7
  · rw [e27, hs 23 (by decide)]; exact b8
  · rw [e28, hs 24 (by decide)]; exact b9
  · rw [hr 33 (by decide), hs 22 (by decide)]; exact b10
  · rw [hr 33 (by decide)]; exact b11
  · intro a e
    rw [hr 32 (by decide)] at e
    rw [h15 a e]
    exact b12 a e
  · rw [e24, g34, f25]; exact b13
  · rw [e24, g34]; exact b14
  · rw [e24, e29, f25]; exact b15
  · rw [e24, e30, f25]; exact b16
  · rw [e24]; exact b17
  · rw [e22]; exact b18
  · rw [e21]; exact b19
  · rw [e25]; exact ⟨b20.1, Int.le_trans b20.2 hm⟩
  · rw [e27]; exact b21
  · rw [e24, e26, e23]; exact b22
  · rw [e24, e26, e23]; exact b23
  · rw [e23]; omega
theorem Rel.ixA {N na nt : Nat} {v : S2} {r : R2} {s : S2} (h : Rel N na nt v r s) : ix (s 0 6) = na := by
  rw [h.cA]; exact ix_nI (by have := h.cAb; omega)
theorem Rel.ixT {N na nt : Nat} {v : S2} {r : R2} {s : S2} (h : Rel N na nt v r s) : ix (s 0 14) = nt := by
  rw [h.cT]; exact ix_nI (by have := h.cTb; omega)
theorem in_nm1 {x : Int32} {n : Nat} (hn : n ≤ 100) : M_isIn x 0 (nI n - 1) = inR x n := by
  have e0 : (0 : Int32).toInt = 0 := by decide
  have e1 : (nI n - 1).toInt = (n : Int) - 1 := by
    cases n with
    | zero => decide
    | succ m => rw [nI_pred, nI_toInt (by omega)]; omega
  unfold M_isIn
  cases hb : inR x n with
  | true =>
    have h := vp_in_iff.mp (inR_iff.mp hb)
    rw [if_neg (by rw [Int32.lt_iff_toInt_lt, e0]; omega), if_neg (by rw [Int32.lt_iff_toInt_lt, e1]; omega)]
  | false =>
    have h : ¬ (0 ≤ x.toInt ∧ x.toInt < n) := fun z => by
      rw [← vp_in_iff, ← inR_iff, hb] at z; cases z
    by_cases h0 : x < 0
    · rw [if_pos h0]
    · rw [if_neg h0, if_pos (by rw [Int32.lt_iff_toInt_lt, e1]; rw [Int32.lt_iff_toInt_lt, e0] at h0; omega)]
theorem Rel.isA {N na nt : Nat} {v : S2} {r : R2} {s : S2} (h : Rel N na nt v r s) (x : Int32) : M_isAgent s x = inR x na := by
  rw [M_isAgent, h.cA]; exact in_nm1 (by have := h.cAb; omega)
theorem Rel.isT {N na nt : Nat} {v : S2} {r : R2} {s : S2} (h : Rel N na nt v r s) (x : Int32) : M_isTicket s x = inR x nt := by
  rw [M_isTicket, h.cT]; exact in_nm1 (by have := h.cTb; omega)
/-- the number of what was thrown is no matter -/
theorem M_wit_cg {s s' : S2} (h19 : ∀ t, s' 19 t = 4 ↔ s 19 t = 4) (h25 : ∀ t, s 19 t = 4 → s' 25 t = s 25 t) (o : Int32) : ∀ n a, M_wit s' o n a = M_wit s o n a
  | 0, _ => rfl
  | n + 1, a => by
    rw [M_wit, M_wit]
    by_cases h : s 19 (ix a) = 4
    · rw [if_pos h, if_pos ((h19 _).mpr h), h25 _ h, M_wit_cg h19 h25 o n]
    · rw [if_neg h, if_neg (fun z => h ((h19 _).mp z))]
theorem M_cust_cg {s s' : S2} (h19 : ∀ t, s' 19 t = 4 ↔ s 19 t = 4) (h25 : ∀ t, s 19 t = 4 → s' 25 t = s 25 t) (h18 : s' 18 = s 18) (hn : s' 0 14 = s 0 14) (t : Int32) : M_customersOf s' t = M_customersOf s t := by
  have : ∀ n, M_custL s' t n = M_custL s t n := fun n => by
    induction n with
    | zero => rfl
    | succ n ih => rw [M_custL, M_custL, M_custLB, M_custLB, M_isWithin, M_isWithin, M_wit_cg h19 h25, ih, h18]
  rw [M_customersOf, M_customersOf, this, hn]
theorem Rel.thr {N na nt : Nat} {v : S2} {r : R2} {s : S2} (h : Rel N na nt v r s) (x : Int32) : Rel N na nt v r (u2 s 0 0 x) := by
  have e : ∀ j, ¬ j = 0 → u2 s 0 0 x j = s j := fun j hj => u2_ne1 hj
  have e0 : ∀ i, ¬ i = 0 → u2 s 0 0 x 0 i = s 0 i := fun i hi => by rw [u2_at, if_neg (fun z => hi z.2)]
  obtain ⟨a1, a2, a3, a4, a5, a6, a7, a8, a9, a10, a11, a12, a13, a14, a15, a16⟩ := h
  refine ⟨MI_u0 (by decide) a1, (e0 1 (by decide)).trans a2, a3, (e0 2 (by decide)).trans a4, (e0 3 (by decide)).trans a5, a6, (e0 6 (by decide)).trans a7, a8, (e0 14 (by decide)).trans a9, a10, fun i hi => ?_, fun a ha => ?_, fun t ht => ?_, fun t ht => ?_, fun t h1 h2 => ?_, fun a h1 h2 => ?_⟩
  · rw [e 4 (by decide), e 5 (by decide)]; exact a11 i hi
  · exact (a12 a ha).cg (fun _ _ _ => rfl) (fun j hj _ => by rw [e j (by omega)]) rfl (fun _ _ => ⟨rfl, rfl⟩)
  · exact (a13 t ht).cg (Nat.le_refl _) (fun _ _ _ => rfl) (fun j hj => by rw [e j (by omega)]) (fun _ _ => rfl) (fun _ _ => rfl) (Int.le_refl _)
  · rw [a14 t ht]
    exact (M_cust_cg (fun _ => by rw [e 19 (by decide)]) (fun _ _ => by rw [e 25 (by decide)]) (e 18 (by decide)) (e0 14 (by decide)) _).symm
  · exact a15 t h1 h2
  · exact a16 a h1 h2
