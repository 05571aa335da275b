/-! WHAT THE TWO SAY, read by read -/
theorem bit_iff (k : Nat) (hk : k < 8) (y : BitVec 32) : ((y.sshiftRight k) &&& 1#32 = 1#32) ↔ ¬ (y &&& (1#32 <<< k) = 0#32) := by
  have h1 : ((y.sshiftRight k) &&& BitVec.twoPow 32 0) = if y.getLsbD k then BitVec.twoPow 32 0 else 0#32 := by
    rw [BitVec.and_twoPow, BitVec.getLsbD_sshiftRight]
    simp [show k < 32 by omega]
  have h2 : (y &&& BitVec.twoPow 32 k) = if y.getLsbD k then BitVec.twoPow 32 k else 0#32 := BitVec.and_twoPow _ _
  have e1 : BitVec.twoPow 32 0 = 1#32 := by decide
  have e2 : (1#32 <<< k) = BitVec.twoPow 32 k := rfl
  rw [e1] at h1
  rw [h1, e2, h2]
  have ht : ∀ k, k < 8 → ¬ BitVec.twoPow 32 k = 0#32 := by decide +kernel
  cases y.getLsbD k with
  | true => simp [ht k hk]
  | false => simp
theorem has_iff {k : Nat} (hk : k < 8) (x : Int32) : ((x >>> (nI k &&& 31)) &&& 1 = 1) ↔ ¬ (x &&& (1 <<< (nI k &&& 31)) = 0) := by
  have hs : ∀ k, k < 8 → (nI k &&& 31) = nI k := by decide +kernel
  have hm : ∀ k, k < 8 → ((nI k).toBitVec.smod 32).toNat = k := by decide +kernel
  rw [hs k hk, ← Int32.toBitVec_inj, ← Int32.toBitVec_inj (a := x &&& (1 <<< nI k))]
  have e1 : (x >>> nI k &&& 1).toBitVec = (x.toBitVec.sshiftRight k) &&& 1#32 := by
    show (x.toBitVec.sshiftRight ((nI k).toBitVec.smod 32).toNat) &&& 1#32 = _
    rw [hm k hk]
  have e2 : (x &&& (1 <<< nI k)).toBitVec = x.toBitVec &&& (1#32 <<< k) := by
    show x.toBitVec &&& (1#32 <<< ((nI k).toBitVec.smod 32).toNat) = _
    rw [hm k hk]
  rw [e1, e2]
  exact bit_iff k hk _
theorem M_has_eq {x k : Int32} (hk : vp_in k 8) : M_has x k = if x &&& (1 <<< (k &&& 31)) = 0 then false else true := by
  have e := in_nI hk
  have hl := vp_lt hk
  unfold M_has
  rw [e]
  by_cases h : x &&& (1 <<< (nI (ix k) &&& 31)) = 0
  · rw [if_pos h, if_neg (fun z => (has_iff hl x).mp z h)]
  · rw [if_neg h, if_pos ((has_iff hl x).mpr h)]
theorem isIn_pred {x lo hi : Int32} (h : 1 ≤ hi.toInt) : M_isIn x lo (hi - 1) = if x < lo then false else if hi ≤ x then false else true := by
  have e : (hi - 1).toInt = hi.toInt - 1 := by
    obtain ⟨n, hn, e⟩ := nI_of (x := hi) (by rw [Int32.lt_iff_toInt_lt]; have : (0 : Int32).toInt = 0 := by decide
                                             omega)
    rw [e, nI_toInt hn] at h ⊢
    obtain ⟨m, rfl⟩ : ∃ m, n = m + 1 := ⟨n - 1, by omega⟩
    rw [nI_pred, nI_toInt (by omega)]
    omega
  unfold M_isIn
  by_cases h1 : x < lo
  · rw [if_pos h1, if_pos h1]
  · rw [if_neg h1, if_neg h1]
    by_cases h2 : hi ≤ x
    · rw [if_pos h2, if_pos (by rw [Int32.lt_iff_toInt_lt, e]; rw [Int32.le_iff_toInt_le] at h2; omega)]
    · rw [if_neg h2, if_neg (by rw [Int32.lt_iff_toInt_lt, e]; rw [Int32.le_iff_toInt_le] at h2; omega)]
theorem dow_eq {x : Int32} {n : Nat} (h : vp_in x n) : C_dayOfWeek x = nI (ix x / 1440 % 7) := by
  have hl : ix x < 2 ^ 31 := by
    obtain ⟨j, hj, e⟩ := nI_of (x := x) (fun z => h (Or.inl z))
    rw [e, ix_nI hj]; exact hj
  have e := in_nI h
  have e2 : x / 1440 = nI (ix x / 1440) := by
    conv => lhs; rw [e]
    exact nI_div hl (by decide) (by decide)
  have hd : ix x / 1440 < 2 ^ 31 := Nat.lt_of_le_of_lt (Nat.div_le_self _ _) hl
  unfold C_dayOfWeek
  rw [e2, show nI (ix x / 1440) / 7 = nI (ix x / 1440 / 7) from nI_div hd (by decide) (by decide), show nI (ix x / 1440 / 7) * 7 = nI (ix x / 1440 / 7 * 7) from nI_mul _ 7, nI_sub (Nat.div_mul_le_self _ _)]
  congr 1
  omega
theorem dow_in {x : Int32} {n : Nat} (h : vp_in x n) : vp_in (C_dayOfWeek x) 8 := by
  rw [dow_eq h]
  exact vp_in_nI (by omega) (by decide)
section EQS
variable {N na nt : Nat} {v : S2} {r : R2} {s : S2}
theorem Rel.serv (h : Rel N na nt v r s) (p : Int32) : C_H_isService na nt v r p = M_isService s p := by
  have h3 := h.hrs
  unfold C_H_isService M_isService
  rw [h.opn, h.cls, isIn_pred (by omega)]
  show (if 5 ≤ C_dayOfWeek p then false else _) = if 5 ≤ C_dayOfWeek p then false else _
  by_cases h1 : 5 ≤ C_dayOfWeek p
  · rw [if_pos h1, if_pos h1]
  · rw [if_neg h1, if_neg h1]
    by_cases h2 : (p - p / 1440 * 1440) < v 0 1
    · rw [if_pos h2]; rfl
    · rw [if_neg h2]
      by_cases h4 : v 0 2 ≤ (p - p / 1440 * 1440)
      · rw [if_pos h4]; rfl
      · rw [if_neg h4]; rfl
theorem Rel.there (h : Rel N na nt v r s) {a : Nat} (ha : a < na) : C_A_isThere na nt v r a (v 0 0) = M_isThere s (nI a) := by
  have g := h.ag a ha
  have hb := h.cAb
  unfold C_A_isThere M_isThere
  rw [ix_nI (by omega), h.min, g.days, g.beg, g.fin, isIn_pred g.finb.1, show v 0 0 / 1440 - v 0 0 / 1440 / 7 * 7 = C_dayOfWeek (v 0 0) from rfl, M_has_eq (dow_in h.minb)]
  by_cases h1 : v 11 a &&& (1 <<< (C_dayOfWeek (v 0 0) &&& 31)) = 0
  · rw [if_pos h1, if_pos h1, if_neg (by decide)]
  · rw [if_neg h1, if_neg h1, if_pos rfl]
    by_cases h2 : (v 0 0 - v 0 0 / 1440 * 1440) < v 12 a
    · rw [if_pos h2]; rfl
    · rw [if_neg h2]
      by_cases h4 : v 13 a ≤ (v 0 0 - v 0 0 / 1440 * 1440)
      · rw [if_pos h4]; rfl
      · rw [if_neg h4]; rfl
theorem Rel.slack (h : Rel N na nt v r s) {t : Nat} (ht : t < nt) : C_slackOf na nt v r t = M_slack s (nI t) := by
  have g := h.tk t ht
  have hb := h.cTb
  unfold C_slackOf M_slack
  rw [ix_nI (by omega), g.prio, g.age, (h.tgt _ (vp_lt g.priob)).2.1]
theorem Rel.lat (h : Rel N na nt v r s) {t a : Nat} (ht : t < nt) (ha : a < na) : s 22 t = nI a ↔ r 33 t = some a := by
  have g := h.tk t ht
  have hb := h.cAb
  rw [g.lat]
  exact hnd_some (by omega) (fun u e => by have := g.latb u e; omega)
theorem Rel.likes (h : Rel N na nt v r s) {a t u : Nat} (ha : a < na) (ht : t < nt) (hu : u < nt) : C_isLikedMore na nt v r a t u = M_likes s (nI a) (nI t) (nI u) := by
  have hb := h.cTb
  unfold C_isLikedMore M_likes
  rw [ix_nI (show t < 2 ^ 31 by omega), ix_nI (show u < 2 ^ 31 by omega), h.slack ht, h.slack hu]
  by_cases h1 : r 33 t = some a
  · rw [if_pos h1, if_pos ((h.lat ht ha).mpr h1)]
    by_cases h2 : r 33 u = some a
    · rw [if_pos h2, if_pos ((h.lat hu ha).mpr h2)]
    · rw [if_neg h2, if_neg (fun z => h2 ((h.lat hu ha).mp z))]
  · rw [if_neg h1, if_neg (fun z => h1 ((h.lat ht ha).mp z))]
    by_cases h2 : r 33 u = some a
    · rw [if_pos h2, if_pos ((h.lat hu ha).mpr h2)]
    · rw [if_neg h2, if_neg (fun z => h2 ((h.lat hu ha).mp z))]
theorem Rel.skill (h : Rel N na nt v r s) {a t : Nat} (ha : a < na) (ht : t < nt) : C_A_hasSkill na nt v r a (v 21 t) = M_has (s 7 a) (s 15 t) := by
  rw [(h.tk t ht).need, (h.ag a ha).skl, M_has_eq (h.tk t ht).needb]
  rfl
theorem Rel.first (h : Rel N na nt v r s) {a : Nat} (ha : a < na) : ∀ n, n ≤ nt → hnd (C_firstL na nt v r a n) = M_nextL s (nI a) n ∧ ∀ y, C_firstL na nt v r a n = some y → y < n
  | 0, _ => ⟨rfl, fun y e => by cases e⟩
  | n + 1, hn => by
    obtain ⟨ih, ib⟩ := h.first ha n (by omega)
    have hb := h.cTb
    have hbA := h.cAb
    have hlt : n < nt := by omega
    rw [C_firstL_s, C_firstLB, M_nextL, M_nextLB]
    rw [h.skill ha hlt, (h.tk n hlt).state, ix_nI (show a < 2 ^ 31 by omega)]
    generalize C_firstL na nt v r a n = x at ih ib ⊢
    have ib' : ∀ y, x = some y → y < n + 1 := fun y e => Nat.lt_succ_of_lt (ib y e)
    by_cases h1 : v 24 n = 0
    · rw [if_pos h1, if_pos h1]
      by_cases h2 : M_has (s 7 a) (s 15 n) = true
      · rw [if_pos h2, if_pos h2]
        cases x with
        | none =>
          rw [if_pos rfl, if_pos (show M_nextL s (nI a) n = -1 from ih.symm)]
          exact ⟨rfl, fun y e => by cases e; exact Nat.lt_succ_self n⟩
        | some u =>
          have hu := ib u rfl
          rw [if_neg (by intro e; cases e), ← ih, if_neg (show ¬ hnd (some u) = -1 from nI_ne_m1 (by omega))]
          rw [show gd (some u) = u from rfl, show hnd (some u) = nI u from rfl, h.likes ha hlt (show u < nt by omega)]
          by_cases h3 : M_likes s (nI a) (nI n) (nI u) = true
          · rw [if_pos h3, if_pos h3]
            exact ⟨rfl, fun y e => by cases e; exact Nat.lt_succ_self n⟩
          · rw [if_neg h3, if_neg h3]
            exact ⟨rfl, ib'⟩
      · rw [if_neg h2, if_neg h2]
        exact ⟨ih, ib'⟩
    · rw [if_neg h1, if_neg h1]
      exact ⟨ih, ib'⟩
theorem Rel.nextOf (h : Rel N na nt v r s) {a : Nat} (ha : a < na) : M_nextOf s (nI a) = hnd (C_firstByLiking na nt v r a) := by
  rw [M_nextOf, h.ixT]
  exact (h.first ha nt (Nat.le_refl _)).1.symm
theorem Rel.numT (h : Rel N na nt v r s) {o : Option Nat} (ho : ∀ t, o = some t → t < nt) : C_numberOfTicket na nt v r o = hnd o := by
  unfold C_numberOfTicket
  cases o with
  | none => rw [if_pos rfl]; rfl
  | some t =>
    rw [if_neg (by intro e; cases e)]
    exact (h.tk t (ho t rfl)).num
theorem Rel.numA (h : Rel N na nt v r s) {o : Option Nat} (ho : ∀ t, o = some t → t < na) : C_numberOfAgent na nt v r o = hnd o := by
  unfold C_numberOfAgent
  cases o with
  | none => rw [if_pos rfl]; rfl
  | some t =>
    rw [if_neg (by intro e; cases e)]
    exact (h.ag t (ho t rfl)).num
theorem Rel.hand (h : Rel N na nt v r s) {a t : Nat} (ha : a < na) (ht : t < nt) : s 11 a = nI t ↔ r 15 a = some t := by
  have hb := h.cTb
  rw [(h.ag a ha).hold]
  exact hnd_some (by omega) (fun u e => by have := ((h.ag a ha).heldb u e).1; omega)
theorem Rel.agentOf (h : Rel N na nt v r s) {t : Nat} (ht : t < nt) : M_agentOf s (nI t) = hnd (r 32 t) := by
  have hb := h.cAb
  rw [M_agentOf, h.ixA]
  have hno : ∀ n, n ≤ na → (∀ a, r 32 t = some a → n ≤ a) → M_agentL s (nI t) n = -1 := fun n => by
    induction n with
    | zero => exact fun _ _ => rfl
    | succ n ih =>
      intro hn hz
      refine M_agentL_no (ih (by omega) (fun a e => by have := hz a e; omega)) (fun e => ?_)
      have e2 := (h.hand (show n < na by omega) ht).mp e
      have e3 := ((h.ag n (by omega)).heldb t e2).2.1
      have := hz n e3
      omega
  cases e : r 32 t with
  | none => exact hno na (Nat.le_refl _) (fun a z => by rw [e] at z; cases z)
  | some a =>
    obtain ⟨ha, e2⟩ := (h.tk t ht).holdb a e
    exact M_agentL_yes (hno a (by omega) (fun b z => by rw [e] at z; cases z; exact Nat.le_refl _)) ((h.hand ha ht).mpr e2) (by omega) na ha
theorem Rel.toldA (h : Rel N na nt v r s) {a : Nat} (ha : a < na) (w : Int32) : C_toldOfAgent na nt v r a w = M_toldAgent s (nI a) w := by
  have hb := h.cAb
  have g := h.ag a ha
  unfold C_toldOfAgent M_toldAgent
  rw [ix_nI (by omega), h.there ha, h.numT (fun t e => (g.heldb t e).1), g.hold, g.wrk, g.sol]
theorem Rel.toldT (h : Rel N na nt v r s) {t : Nat} (ht : t < nt) (w : Int32) : C_toldOfTicket na nt v r t w = M_toldTicket s (nI t) w := by
  have hb := h.cTb
  have g := h.tk t ht
  unfold C_toldOfTicket M_toldTicket
  rw [ix_nI (by omega), h.numA (fun a e => (g.holdb a e).1), h.agentOf ht, g.state, g.prio, g.age, g.don, g.eff, g.ansA, g.reop]
theorem Rel.main (h : Rel N na nt v r s) : ∀ n t, t < nt → M_chase s n (nI t) = nI (C_chain r n t) ∧ C_chain r n t < nt
  | 0, t, ht => ⟨rfl, ht⟩
  | n + 1, t, ht => by
    have hb := h.cTb
    have g := h.tk t ht
    by_cases h4 : v 24 t = 4
    · obtain ⟨u, hu, e1, e2⟩ := g.mrg h4
      rw [M_chase, ix_nI (by omega), if_pos (g.state.trans h4), e2, C_chain_some e1]
      exact h.main n u hu
    · rw [M_chase_stop (by rw [ix_nI (by omega), g.state]; exact h4), C_chain_none (g.nmrg h4)]
      exact ⟨rfl, ht⟩
theorem sub_le {x y : Int32} (hy : 0 ≤ y.toInt ∧ y.toInt ≤ 100000) (hx : 1 ≤ x.toInt ∧ x.toInt ≤ 9999) : (x - y).toInt = x.toInt - y.toInt := by
  rw [Int32.toInt_sub]
  exact Int.bmod_eq_of_le (by omega) (by omega)
theorem Rel.slackInt (h : Rel N na nt v r s) {t : Nat} (ht : t < nt) : (C_slackOf na nt v r t).toInt = (v 2 (ix (v 22 t))).toInt - (v 25 t).toInt := by
  have g := h.tk t ht
  have hm := vp_in_iff.mp h.minb
  have h9 := h.tgt _ (vp_lt g.priob)
  have ha := g.ageb
  exact sub_le ⟨ha.1, by omega⟩ ⟨h9.2.2.1, h9.2.2.2⟩
theorem Rel.brkS (h : Rel N na nt v r s) {t : Nat} (ht : t < nt) : C_breaksSolution na nt v r t = M_breaks s (nI t) false := by
  have hb := h.cTb
  have g := h.tk t ht
  have h9 := h.tgt _ (vp_lt g.priob)
  have hs := h.slackInt ht
  unfold C_breaksSolution M_breaks
  rw [ix_nI (by omega), g.state, g.age, g.prio, h9.2.1]
  by_cases h1 : v 24 t = 4
  · rw [if_pos h1, if_pos h1]
  · rw [if_neg h1, if_neg h1, if_neg (show ¬ false = true by decide)]
    by_cases h2 : v 25 t ≤ v 2 (ix (v 22 t))
    · have h3 : 0 ≤ C_slackOf na nt v r t := by
        rw [Int32.le_iff_toInt_le] at h2 ⊢
        rw [hs, show (0 : Int32).toInt = 0 from by decide]
        omega
      rw [if_pos h2, if_pos h3]
    · have h3 : ¬ 0 ≤ C_slackOf na nt v r t := by
        rw [Int32.le_iff_toInt_le] at h2 ⊢
        rw [hs, show (0 : Int32).toInt = 0 from by decide]
        omega
      rw [if_neg h2, if_neg h3]
theorem Rel.brkA (h : Rel N na nt v r s) {t : Nat} (ht : t < nt) : C_breaksAnswer na nt v r t = M_breaks s (nI t) true := by
  have hb := h.cTb
  have g := h.tk t ht
  have h9 := h.tgt _ (vp_lt g.priob)
  unfold C_breaksAnswer M_breaks
  rw [ix_nI (by omega), g.state, g.age, g.prio, g.ansA, h9.1]
  rcases g.ansb with e | e
  · rw [e, if_neg (by decide), if_pos rfl, if_pos rfl]
  · rw [if_pos (by rw [Int32.le_iff_toInt_le]; exact e), if_pos rfl, if_neg (show ¬ v 27 t = -1 from fun z => by rw [z] at e; exact absurd e (by decide))]
end EQS
