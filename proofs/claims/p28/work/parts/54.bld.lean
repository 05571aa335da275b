/-! the desk as 'build' makes it -/
def BA (g : Nat → Int32) (v : S2) (r : R2) (a : Nat) : Prop := v 10 a = nI a ∧ g (20 + 8 * a) = v 14 a ∧ r 15 a = none ∧ v 16 a = 0 ∧ v 17 a = 0
def BT (g : Nat → Int32) (v : S2) (r : R2) (t : Nat) : Prop := v 20 t = nI t ∧ g (70 + 14 * t) = v 21 t ∧ vp_in (v 21 t) 8 ∧ v 24 t = 0 ∧ v 26 t = 0 ∧ (1 ≤ (v 23 t).toInt ∧ (v 23 t).toInt ≤ 25) ∧ v 27 t = -1 ∧ v 25 t = 0 ∧ v 30 t = 0 ∧ r 32 t = none
def BI (na nt : Nat) (g : Nat → Int32) (v : S2) (r : R2) : Prop := (∀ a, a < na → BA g v r a) ∧ ∀ t, t < nt → BT g v r t
section BLD
variable {na nt : Nat} {g g' : Nat → Int32} {K v : S2} {r : R2} {G G' : CG} {D : va_G} {p0 p1 p2 p3 : Int32}
theorem CI_nA (hx : Gx D G G' 1 0) (h : CI G v r) : CI G' (C_nA v (nA G) p0 p1 p2 p3) (C_rA r (nA G)) := by
  obtain ⟨_, ha, ht, _⟩ := hx
  refine ⟨fun t q => ?_, fun a q t e => ?_, fun t q a e => ?_, fun t q a e => ?_, fun t q u e => ?_⟩
  · rw [ht] at q; exact h.1 t q
  · rw [ha] at q
    have e' : va_up (r 15) (nA G) none a = some t := e
    by_cases c : a = nA G
    · rw [c, up_self] at e'; cases e'
    · rw [up_ne c] at e'
      rw [ht]
      exact h.2.1 a (by omega) t e'
  · rw [ht] at q; rw [ha]; exact Nat.lt_succ_of_lt (h.2.2.1 t q a e)
  · rw [ht] at q; rw [ha]; exact Nat.lt_succ_of_lt (h.2.2.2.1 t q a e)
  · rw [ht] at q ⊢; exact h.2.2.2.2 t q u e
theorem CI_nT (hx : Gx D G G' 0 1) (h : CI G v r) (hp : vp_in p1 4) : CI G' (C_nT v (nT G) p0 p1 p2 p3) (C_rT r (nT G)) := by
  obtain ⟨_, ha, ht, _⟩ := hx
  have up : ∀ {f : Nat → Option Nat} {t a : Nat}, va_up f (nT G) none t = some a → t < nT G + 1 → t < nT G ∧ f t = some a := fun {f t a} e q => by
    by_cases c : t = nT G
    · rw [c, up_self] at e; cases e
    · rw [up_ne c] at e; exact ⟨by omega, e⟩
  refine ⟨fun t q => ?_, fun a q t e => ?_, fun t q a e => ?_, fun t q a e => ?_, fun t q u e => ?_⟩
  · rw [ht] at q
    show vp_in (upd (v 22) (nT G) p1 t) 4
    by_cases c : t = nT G
    · rw [c, upd_self]; exact hp
    · rw [upd_ne c]; exact h.1 t (by omega)
  · rw [ha] at q; rw [ht]; exact Nat.lt_succ_of_lt (h.2.1 a q t e)
  · rw [ht] at q
    obtain ⟨q1, e1⟩ := up (f := r 32) e q
    rw [ha]; exact h.2.2.1 t q1 a e1
  · rw [ht] at q
    obtain ⟨q1, e1⟩ := up (f := r 33) e q
    rw [ha]; exact h.2.2.2.1 t q1 a e1
  · rw [ht] at q
    obtain ⟨q1, e1⟩ := up (f := r 34) e q
    rw [ht]; exact Nat.lt_succ_of_lt (h.2.2.2.2 t q1 u e1)
theorem BI.nA (h : BI na nt g v r) (hA : ∀ a, a < na → g' (20 + 8 * a) = g (20 + 8 * a)) (hT : ∀ t, t < nt → g' (70 + 14 * t) = g (70 + 14 * t)) (h0 : g' (20 + 8 * na) = p0) : BI (na + 1) nt g' (C_nA v na p0 p1 p2 p3) (C_rA r na) := by
  refine ⟨fun a q => ?_, fun t q => ?_⟩
  · by_cases c : a = na
    · rw [c]
      exact ⟨upd_self, h0.trans upd_self.symm, up_self, upd_self, upd_self⟩
    · obtain ⟨e1, e2, e3, e4, e5⟩ := h.1 a (by omega)
      exact ⟨(upd_ne c).trans e1, ((hA a (by omega)).trans e2).trans (upd_ne c).symm, (up_ne c).trans e3, (upd_ne c).trans e4, (upd_ne c).trans e5⟩
  · obtain ⟨e1, e2, e3⟩ := h.2 t q
    exact ⟨e1, (hT t q).trans e2, e3⟩
theorem BI.nT (h : BI na nt g v r) (hA : ∀ a, a < na → g' (20 + 8 * a) = g (20 + 8 * a)) (hT : ∀ t, t < nt → g' (70 + 14 * t) = g (70 + 14 * t)) (h0 : g' (70 + 14 * nt) = p0) (hp : vp_in p0 8) (h2 : 1 ≤ p2.toInt ∧ p2.toInt ≤ 25) : BI na (nt + 1) g' (C_nT v nt p0 p1 p2 p3) (C_rT r nt) := by
  refine ⟨fun a q => ?_, fun t q => ?_⟩
  · obtain ⟨e1, e2, e3⟩ := h.1 a q
    exact ⟨e1, (hA a q).trans e2, e3⟩
  · by_cases c : t = nt
    · rw [c]
      refine ⟨upd_self, h0.trans upd_self.symm, ?_, upd_self, upd_self, ?_, upd_self, upd_self, upd_self, up_self⟩
      · show vp_in (upd (v 21) nt p0 nt) 8
        rw [upd_self]; exact hp
      · show 1 ≤ (upd (v 23) nt p2 nt).toInt ∧ (upd (v 23) nt p2 nt).toInt ≤ 25
        rw [upd_self]; exact h2
    · obtain ⟨e1, e2, e3, e4, e5, e6, e7, e8, e9, e10⟩ := h.2 t (by omega)
      refine ⟨(upd_ne c).trans e1, ((hT t (by omega)).trans e2).trans (upd_ne c).symm, ?_, (upd_ne c).trans e4, (upd_ne c).trans e5, ?_, (upd_ne c).trans e7, (upd_ne c).trans e8, (upd_ne c).trans e9, (up_ne c).trans e10⟩
      · show vp_in (upd (v 21) nt p0 t) 8
        rw [upd_ne c]; exact e3
      · show 1 ≤ (upd (v 23) nt p2 t).toInt ∧ (upd (v 23) nt p2 t).toInt ≤ 25
        rw [upd_ne c]; exact e6
theorem BI.arr (h : BI na nt g v r) (hA : ∀ a, a < na → g' (20 + 8 * a) = g (20 + 8 * a)) (hT : ∀ t, t < nt → g' (70 + 14 * t) = g (70 + 14 * t)) : BI na nt g' v r :=
  ⟨fun a q => ⟨(h.1 a q).1, (hA a q).trans (h.1 a q).2.1, (h.1 a q).2.2⟩, fun t q => ⟨(h.2 t q).1, (hT t q).trans (h.2 t q).2.1, (h.2 t q).2.2⟩⟩
theorem sumI_0 {f : Nat → Int32} : ∀ n, (∀ i, i < n → f i = 0) → sumI f n = 0
  | 0, _ => rfl
  | n + 1, h => by
    show sumI f n + f n = 0
    rw [sumI_0 n (fun i hi => h i (by omega)), h n (Nat.lt_succ_self n)]
    rfl
def GK (na nt : Nat) (g : Nat → Int32) (K : S2) : Prop := (∀ a, a < na → K 10 a = nI a ∧ g (20 + 8 * a) = K 14 a) ∧ ∀ t, t < nt → K 20 t = nI t ∧ g (70 + 14 * t) = K 21 t ∧ vp_in (K 21 t) 8
theorem BI.gk (h : BI na nt g v r) : GK na nt g v := ⟨fun a q => ⟨(h.1 a q).1, (h.1 a q).2.1⟩, fun t q => ⟨(h.2 t q).1, (h.2 t q).2.1, (h.2 t q).2.2.1⟩⟩
theorem GK.tick (h : GK na nt g K) {x : Int32} : GK na nt g (u2 K 0 0 x) := by
  unfold GK
  rw [u2_ne1 (by decide), u2_ne1 (by decide), u2_ne1 (by decide), u2_ne1 (by decide)]
  exact h
theorem BI.iv (h : BI na nt g v r) : Iv na nt v v r 25 0 0 0 := by
  have z0 : (0 : Int32).toInt = 0 := by decide
  have zm : (-1 : Int32).toInt = -1 := by decide
  refine ⟨⟨fun a q t e => ?_, fun t q a e => ?_, fun t q => ?_⟩, fun t q => ?_, ⟨rfl, rfl, rfl, rfl, rfl⟩, ?_, ?_⟩
  · rw [(h.1 a q).2.2.1] at e; cases e
  · rw [(h.2 t q).2.2.2.2.2.2.2.2.2] at e; cases e
  · obtain ⟨e1, e2, e3, e4, e5, e6, e7, e8, e9, e10⟩ := h.2 t q
    rw [e4, e10]
    exact ⟨fun z => absurd z (by decide), fun z => absurd rfl z⟩
  · obtain ⟨e1, e2, e3, e4, e5, e6, e7, e8, e9, e10⟩ := h.2 t q
    rw [e4, e5, e7, e8, e9]
    refine ⟨⟨by omega, by omega, by omega⟩, ⟨fun z => absurd z (by decide), fun z => ?_⟩, fun z => ?_, fun z => absurd z (by decide), ⟨by omega, by omega, by omega⟩, ⟨by omega, by omega⟩, Or.inl rfl⟩
    · rw [← z, z0] at e6; omega
    · rw [z0] at z; omega
  · rw [sumI_0 na (fun i q => (h.1 i q).2.2.2.1), sumI_0 nt (fun i q => (h.2 i q).2.2.2.2.1)]
  · exact sumI_0 na (fun i q => (h.1 i q).2.2.2.2)
theorem spanE {a e : Nat} (h1 : a < 1440) (h2 : a < e) (h3 : e ≤ 1440) : C_isSpanOfDay (nI a) (nI e) = true := by
  unfold C_isSpanOfDay
  rw [if_neg (show ¬ nI a < 0 from nI_nlt (b := 0) (by omega) (by omega)), if_neg (show ¬ 1440 ≤ nI a from nI_ge (b := 1440) h1 (by decide)), if_neg (nI_ge h2 (by omega)), if_neg (show ¬ 1440 < nI e from nI_nlt (a := 1440) h3 (by decide))]
theorem prioE {p : Nat} (h : p < 4) : C_isPriority (nI p) = true := by
  unfold C_isPriority
  rw [if_neg (show ¬ nI p < 0 from nI_nlt (b := 0) (by omega) (by omega)), if_neg (show ¬ 4 ≤ nI p from nI_ge (b := 4) h (by decide))]
theorem setHoursE {o c : Nat} (ho : o < 540) (h2 : o < c) (h3 : c ≤ 1440) (hv : v 0 1 = 540) : C_setHours na nt v r (nI o) (nI c) = (0, true, u2 (u2 v 0 1 (nI o)) 0 2 (nI c), r) := by
  have e : ¬ nI o = 540 := fun z => by
    have := congrArg Int32.toInt z
    rw [nI_toInt (by omega), show (540 : Int32).toInt = 540 from by decide] at this
    omega
  unfold C_setHours
  rw [if_pos (spanE (by omega) h2 h3), if_neg (by rw [hv]; exact e)]
theorem setTargetsE {p a s : Nat} (hp : p < 4) (h1 : 1 ≤ a) (h2 : a ≤ s) (h3 : s ≤ 9999) : C_setTargets na nt v r (nI p) (nI a) (nI s) = (0, v 2 p, u2 (u2 v 1 p (nI a)) 2 p (nI s), r) := by
  unfold C_setTargets
  rw [if_pos (prioE hp), if_neg (show ¬ nI a < 1 from nI_nlt (b := 1) h1 (by omega)), if_neg (show ¬ 9999 < nI a from nI_nlt (a := 9999) (by omega) (by decide)), if_neg (nI_nlt h2 (by omega)), if_pos (show nI s ≤ 9999 from nI_le (b := 9999) h3 (by decide)), ix_nI (by omega)]
theorem addAgentE {s d a e : Nat} (hn : na < 6) (hs : s ≤ 255) (hd : 1 ≤ d ∧ d ≤ 127) (h1 : a < 1440) (h2 : a < e) (h3 : e ≤ 1440) : C_addAgent na nt v r (nI s) (nI d) (nI a) (nI e) = (0, nI na, C_nA v na (nI s) (nI d) (nI a) (nI e), C_rA r na) := by
  have q : C_isSetOfSkills (nI s) = true := by
    unfold C_isSetOfSkills
    rw [if_neg (show ¬ nI s < 0 from nI_nlt (b := 0) (by omega) (by omega)), if_neg (show ¬ 255 < nI s from nI_nlt (a := 255) hs (by decide))]
  unfold C_addAgent
  rw [if_pos q, if_neg (show ¬ nI d < 1 from nI_nlt (b := 1) hd.1 (by omega)), if_neg (show ¬ 127 < nI d from nI_nlt (a := 127) hd.2 (by decide)), if_pos (spanE h1 h2 h3), if_pos (show nI na < 6 from nI_lt (b := 6) hn (by decide))]
theorem openE {a p e q : Nat} (hn : nt < 20) (ha : a < 8) (hp : p < 4) (he : 1 ≤ e ∧ e ≤ 600) (hq : q < 10) : C_open na nt v r (nI a) (nI p) (nI e) (nI q) = (0, nI nt, C_nT v nt (nI a) (nI p) (nI e) (nI q), C_rT r nt) := by
  unfold C_open
  rw [if_neg (show ¬ nI a < 0 from nI_nlt (b := 0) (by omega) (by omega)), if_neg (show ¬ 8 ≤ nI a from nI_ge (b := 8) ha (by decide)), if_pos (prioE hp), if_neg (show ¬ nI e < 1 from nI_nlt (b := 1) he.1 (by omega)), if_neg (show ¬ 600 < nI e from nI_nlt (a := 600) he.2 (by decide)), if_neg (show ¬ nI q < 0 from nI_nlt (b := 0) (by omega) (by omega)), if_pos (show nI q < 10 from nI_lt (b := 10) hq (by decide)), if_pos (show nI nt < 20 from nI_lt (b := 20) hn (by decide))]
theorem shl_sol : ∀ p, p < 4 → (240 : Int32) <<< (nI p &&& 31) = C_sol0 p := by decide +kernel
end BLD
