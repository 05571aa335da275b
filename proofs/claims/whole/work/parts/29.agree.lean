/-! WHAT THE TWO DO, call by call: AG says that they agree -/
def AG {α : Type} (hl : List Nat) (N na nt : Nat) (c : Nat × α × S2 × R2) (m : α × S2) : Prop := KC hl c.1 (m.2 0 0) ∧ (c.1 = 0 → c.2.1 = m.1) ∧ Rel (N + 1) na nt c.2.2.1 c.2.2.2 m.2
theorem u2_00 (s : S2) (x : Int32) : u2 s 0 0 x 0 0 = x := u2_same _ _ _ _
theorem no_1 (s : S2) (x : Int32) : (M_no s x).1 = 0 := rfl
theorem no_2 (s : S2) (x : Int32) : (M_no s x).2 = u2 s 0 0 x := rfl
section AGS
variable {N na nt : Nat} {v : S2} {r : R2} {s : S2}
theorem Rel.mono (h : Rel N na nt v r s) : Rel (N + 1) na nt v r s := by
  obtain ⟨a1, a2, a3, a4, a5, a6, a7, a8, a9, a10, a11, a12, a13, a14, a15, a16⟩ := h
  exact ⟨a1, a2, a3, a4, a5, a6, a7, a8, a9, a10, a11, a12, fun t ht => (a13 t ht).cg (Nat.le_succ N) (fun _ _ _ => rfl) (fun _ _ => rfl) (fun _ _ => rfl) (fun _ _ => rfl) (Int.le_refl _), a14, a15, a16⟩
/-- both refuse -/
theorem AG.no {hl : List Nat} {c : Nat} {j : Nat} (h : Rel N na nt v r s) (hc : c ≠ 0) (hj : hl[j]? = some c) : AG hl N na nt (c, 0, v, r) ((M_no (u2 s 0 0 0) (nI (j + 1))).1, (M_no (u2 s 0 0 0) (nI (j + 1))).2) :=
  ⟨Or.inr ⟨hc, j, hj, by show u2 (u2 s 0 0 0) 0 0 (nI (j + 1)) 0 0 = _; rw [u2_00]⟩, fun e => absurd e hc, ((h.thr 0).thr _).mono⟩
/-- both read -/
theorem AG.rd {hl : List Nat} {x y : Int32} (h : Rel N na nt v r s) (e : x = y) : AG hl N na nt (0, x, v, r) (y, u2 s 0 0 0) :=
  ⟨Or.inl ⟨rfl, u2_00 s 0⟩, fun _ => e, (h.thr 0).mono⟩
theorem lt_succ {x : Int32} {n : Nat} (hn : n < 2 ^ 30) : nI n < x ↔ ¬ x < nI (n + 1) := by
  rw [Int32.lt_iff_toInt_lt, Int32.lt_iff_toInt_lt, nI_toInt (by omega), nI_toInt (by omega)]
  omega
theorem isIn_lt {x lo : Int32} {n : Nat} (hn : n < 2 ^ 30) : M_isIn x lo (nI n) = true ↔ ¬ x < lo ∧ x < nI (n + 1) := by
  unfold M_isIn
  by_cases h1 : x < lo
  · rw [if_pos h1]; exact ⟨fun z => (by cases z), fun z => absurd h1 z.1⟩
  · rw [if_neg h1]
    by_cases h2 : nI n < x
    · rw [if_pos h2]; exact ⟨fun z => (by cases z), fun z => absurd z.2 ((lt_succ hn).mp h2)⟩
    · rw [if_neg h2]; exact ⟨fun _ => ⟨h1, Decidable.not_not.mp (fun z => h2 ((lt_succ hn).mpr z))⟩, fun _ => rfl⟩
theorem AG_agent (h : Rel N na nt v r s) (p0 p1 : Int32) : AG [2] N na nt (C_agent na nt v r p0 p1) (M_agent s p0 p1) := by
  have h0 := h.thr 0
  have hi : M_isIn p1 0 3 = true ↔ ¬ p1 < 0 ∧ p1 < 4 := isIn_lt (n := 3) (by decide)
  unfold C_agent M_agent
  rw [h0.isA]
  by_cases h1 : inR p0 na = true
  · have hl := vp_lt (inR_iff.mp h1)
    rw [if_pos h1, if_pos h1]
    by_cases h2 : M_isIn p1 0 3 = true
    · obtain ⟨z1, z2⟩ := hi.mp h2
      rw [if_neg z1, if_pos z2, if_pos h2]
      refine AG.rd h ?_
      rw [h0.toldA hl, ← in_nI (inR_iff.mp h1)]
    · rw [if_neg h2]
      by_cases z1 : p1 < 0
      · rw [if_pos z1]; exact AG.no (j := 0) h (by decide) rfl
      · rw [if_neg z1, if_neg (fun z2 => h2 (hi.mpr ⟨z1, z2⟩))]; exact AG.no (j := 0) h (by decide) rfl
  · rw [if_neg h1, if_neg h1]; exact AG.no (j := 0) h (by decide) rfl
theorem AG_ticket (h : Rel N na nt v r s) (p0 p1 : Int32) : AG [2] N na nt (C_ticket na nt v r p0 p1) (M_ticket s p0 p1) := by
  have h0 := h.thr 0
  have hi : M_isIn p1 0 7 = true ↔ ¬ p1 < 0 ∧ p1 < 8 := isIn_lt (n := 7) (by decide)
  unfold C_ticket M_ticket
  rw [h0.isT]
  by_cases h1 : inR p0 nt = true
  · have hl := vp_lt (inR_iff.mp h1)
    rw [if_pos h1, if_pos h1]
    by_cases h2 : M_isIn p1 0 7 = true
    · obtain ⟨z1, z2⟩ := hi.mp h2
      rw [if_neg z1, if_pos z2, if_pos h2]
      refine AG.rd h ?_
      rw [h0.toldT hl, ← in_nI (inR_iff.mp h1)]
    · rw [if_neg h2]
      by_cases z1 : p1 < 0
      · rw [if_pos z1]; exact AG.no (j := 0) h (by decide) rfl
      · rw [if_neg z1, if_neg (fun z2 => h2 (hi.mpr ⟨z1, z2⟩))]; exact AG.no (j := 0) h (by decide) rfl
  · rw [if_neg h1, if_neg h1]; exact AG.no (j := 0) h (by decide) rfl
theorem AG_next (h : Rel N na nt v r s) (p0 : Int32) : AG [2] N na nt (C_next na nt v r p0) (M_next s p0) := by
  have h0 := h.thr 0
  unfold C_next M_next
  rw [h0.isA]
  by_cases h1 : inR p0 na = true
  · have hl := vp_lt (inR_iff.mp h1)
    rw [if_pos h1, if_pos h1]
    refine AG.rd h ?_
    rw [h0.numT (fun t e => C_first_lt t e), ← h0.nextOf hl, ← in_nI (inR_iff.mp h1)]
  · rw [if_neg h1, if_neg h1]; exact AG.no (j := 0) h (by decide) rfl
theorem AG_main (h : Rel N na nt v r s) (p0 : Int32) : AG [2] N na nt (C_main na nt v r p0) (M_main s p0) := by
  have h0 := h.thr 0
  unfold C_main M_main
  rw [h0.isT]
  by_cases h1 : inR p0 nt = true
  · have hl := vp_lt (inR_iff.mp h1)
    rw [if_pos h1, if_pos h1]
    refine AG.rd h ?_
    obtain ⟨e1, e2⟩ := h0.main 20 _ hl
    rw [M_mainOf, show p0 = nI (ix p0) from in_nI (inR_iff.mp h1), ← in_nI (inR_iff.mp h1), show M_chase (u2 s 0 0 0) 20 p0 = nI (C_chain r 20 (ix p0)) from by rw [← e1, ← in_nI (inR_iff.mp h1)]]
    exact (h.tk _ e2).num
  · rw [if_neg h1, if_neg h1]; exact AG.no (j := 0) h (by decide) rfl
theorem AG_customers (h : Rel N na nt v r s) (p0 : Int32) : AG [2] N na nt (C_customers na nt v r p0) (M_customers s p0) := by
  have h0 := h.thr 0
  unfold C_customers M_customers
  rw [h0.isT]
  by_cases h1 : inR p0 nt = true
  · have hl := vp_lt (inR_iff.mp h1)
    rw [if_pos h1, if_pos h1]
    refine AG.rd h ?_
    rw [h0.cust _ hl, ← in_nI (inR_iff.mp h1)]
  · rw [if_neg h1, if_neg h1]; exact AG.no (j := 0) h (by decide) rfl
theorem AG_all (h : Rel N na nt v r s) (p0 : Int32) : AG [2] N na nt (C_all na nt v r p0) (M_all s p0) := by
  have hi : M_isIn p0 0 4 = true ↔ ¬ p0 < 0 ∧ p0 < 5 := isIn_lt (n := 4) (by decide)
  have h45 : p0 ≤ 4 ↔ p0 < 5 := by
    rw [Int32.le_iff_toInt_le, Int32.lt_iff_toInt_lt, show (4 : Int32).toInt = 4 from by decide, show (5 : Int32).toInt = 5 from by decide]; omega
  have hL : ∀ n, n ≤ nt → C_allL na nt v r p0 n = M_allL s p0 n := fun n => by
    induction n with
    | zero => exact fun _ => rfl
    | succ n ih =>
      intro hn
      rw [C_allL_s, C_allLB, M_allL, M_allLB, ih (by omega), (h.tk n (by omega)).state]
  unfold C_all M_all
  by_cases h2 : M_isIn p0 0 4 = true
  · obtain ⟨z1, z2⟩ := hi.mp h2
    rw [if_neg z1, if_pos (h45.mpr z2), if_pos h2]
    refine AG.rd h ?_
    rw [h.ixT]
    exact hL nt (Nat.le_refl _)
  · rw [if_neg h2]
    by_cases z1 : p0 < 0
    · rw [if_pos z1]; exact AG.no (j := 0) h (by decide) rfl
    · rw [if_neg z1, if_neg (fun z2 => h2 (hi.mpr ⟨z1, h45.mp z2⟩))]; exact AG.no (j := 0) h (by decide) rfl
/-! reads that refuse nothing -/
theorem AG_broken (h : Rel N na nt v r s) (b : Bool) : C_broken na nt v r b = (M_broken s b).1 := by
  have h0 := h.thr 0
  show C_brokenL na nt v r b nt = M_brokenL s b (ix (s 0 14))
  rw [h.ixT]
  have : ∀ n, n ≤ nt → C_brokenL na nt v r b n = M_brokenL s b n := fun n => by
    induction n with
    | zero => exact fun _ => rfl
    | succ n ih =>
      intro hn
      rw [C_brokenL_s, C_brokenLB, M_brokenL, M_brokenLB, ih (by omega)]
      cases b with
      | true => rw [if_pos rfl, h0.brkA (show n < nt by omega)]
      | false => rw [if_neg (by decide), h0.brkS (show n < nt by omega)]
  exact this nt (Nat.le_refl _)
theorem AG_success (h : Rel N na nt v r s) : C_success na nt v r = (M_success s).1 := by
  have h0 := h.thr 0
  have : ∀ n, n ≤ nt → C_succL na nt v r n = M_succL s n := fun n => by
    induction n with
    | zero => exact fun _ => rfl
    | succ n ih =>
      intro hn
      rw [C_succL_s, C_succLB, M_succL, M_succLB, ih (by omega), (h.tk n (by omega)).state, h0.brkS (show n < nt by omega)]
      rfl
  unfold C_success M_success
  rw [h.ixT, this nt (Nat.le_refl _)]
  by_cases hz : nI ((M_succL s nt).1) = 0
  · rw [if_pos hz, if_pos hz]
  · rw [if_neg hz, if_neg hz]
theorem AG_digest (h : Rel N na nt v r s) : C_digest na nt v r = (M_digest s).1 := by
  have h0 := h.thr 0
  have hA6 := h.cAb
  have hT20 := h.cTb
  have hP : ∀ x n, n ≤ 4 → C_dgP na nt v r x n = M_dgP s x n := fun x n => by
    induction n with
    | zero => exact fun _ => rfl
    | succ n ih =>
      intro hn
      have g := h.tgt n (by omega)
      rw [C_dgP_s, C_dgPB, M_dgP, M_dgPB, ih (by omega), g.1, g.2.1]
      rfl
  have hAi : ∀ a, a < na → ∀ y n, C_dAL na nt v r y a n = M_dgAi s a ((y * 31) + (v 14 a).toInt64) n := fun a ha y n => by
    induction n with
    | zero => rfl
    | succ n ih => rw [C_dAL_s, C_dALB, M_dgAi, M_dgAiB, ih, h0.toldA ha]; rfl
  have hA : ∀ x n, n ≤ na → C_dgA na nt v r x n = M_dgA s x n := fun x n => by
    induction n with
    | zero => exact fun _ => rfl
    | succ n ih =>
      intro hn
      rw [C_dgA_s, C_dgAB, M_dgA, M_dgAB, ih (by omega), C_digestedAgent, hAi n (by omega), (h.ag n (by omega)).skl]
  have hTi : ∀ t, t < nt → ∀ y n, C_dTL na nt v r y t n = M_dgTi s t ((y * 31) + (v 21 t).toInt64) n := fun t ht y n => by
    induction n with
    | zero => rfl
    | succ n ih => rw [C_dTL_s, C_dTLB, M_dgTi, M_dgTiB, ih, h0.toldT ht]; rfl
  have hT : ∀ x n, n ≤ nt → C_dgT na nt v r x n = M_dgT s x n := fun x n => by
    induction n with
    | zero => exact fun _ => rfl
    | succ n ih =>
      intro hn
      have hl : n < nt := by omega
      obtain ⟨e1, e2⟩ := h0.main 20 n hl
      rw [C_dgT_s, C_dgTB, M_dgT, M_dgTB, ih (by omega), C_digestedTicket, hTi n hl, (h.tk n hl).need, M_mainOf, e1, ← h0.cust n hl, show v 20 (C_mainOf na nt v r n) = nI (C_chain r 20 n) from (h.tk _ e2).num]
      rfl
  unfold C_digest M_digest
  rw [h.ixT, h.ixA]
  show _ = M_dgT s _ nt
  rw [hT _ nt (Nat.le_refl _), hA _ na (Nat.le_refl _), hP _ 4 (Nat.le_refl _), h.min, h.opn, h.cls, h.cA, h.cT]
  rfl
end AGS
