/-! the calls that the law makes, one by one: what they do where the law makes them -/
section CALLS
variable {na nt : Nat} {K v : S2} {r : R2} {E S M : Int} {so : Int32} {G : CG}
theorem Kp.up (h : Kp K v) {j i : Nat} {x : Int32} (hj : (j != 0 && j != 10 && j != 14 && j != 20 && j != 21) = true) : Kp K (u2 v j i x) := by
  simp only [Bool.and_eq_true, bne_iff_ne] at hj
  obtain ⟨⟨⟨⟨a, b⟩, c⟩, d⟩, e⟩ := hj
  exact ⟨(u2_ne1 (fun z => a z.symm)).trans h.1, (u2_ne1 (fun z => b z.symm)).trans h.2.1, (u2_ne1 (fun z => c z.symm)).trans h.2.2.1, (u2_ne1 (fun z => d z.symm)).trans h.2.2.2.1, (u2_ne1 (fun z => e z.symm)).trans h.2.2.2.2⟩
theorem TkN.st {st st' dn ef an ag sa : Int32} (h : TkN E S M st dn ef an ag sa) (h3 : ¬ st = 3) (h' : st' = 0 ∨ st' = 2 ∨ st' = 4) : TkN E S M st' dn ef an ag sa := by
  obtain ⟨q1, q2, q3, q4, q5, q6, q7⟩ := h
  have e3 : ¬ st' = 3 := by rcases h' with e | e | e <;> rw [e] <;> decide
  have e1 : ¬ st' = 1 := by rcases h' with e | e | e <;> rw [e] <;> decide
  exact ⟨q1, ⟨fun z => absurd z e3, fun z => absurd (q2.mpr z) h3⟩, q3, fun z => absurd z e1, q5, q6, by rcases h' with e | e | e <;> rw [e] <;> simp⟩
theorem CI_take' {t : Nat} (h : CI G v r) : CI G v (C_takeFromHolder na nt v r t).2 := by
  have := CI_take (na := na) (nt := nt) (t := t) h
  rw [take_v] at this
  exact this
theorem pauseE {t : Nat} (ht : t < nt) (hn : nt ≤ 20) (h : v 24 t = 0 ∨ v 24 t = 1) : ∃ z, C_pause na nt v r (nI t) = (0, z, u2 (u2 v 24 t 2) 29 t (v 0 0), (C_takeFromHolder na nt v r t).2) := by
  have hi : inR (nI t) nt = true := inR_iff.mpr (vp_in_nI ht (by omega))
  unfold C_pause
  rw [if_pos hi, ix_nI (by omega), take_v]
  rcases h with h | h
  · rw [if_pos h]; exact ⟨_, rfl⟩
  · rw [if_neg (by rw [h]; decide), if_pos h]; exact ⟨_, rfl⟩
theorem Iv.pause (h : Iv na nt K v r E S M so) {t : Nat} (ht : t < nt) (h01 : v 24 t = 0 ∨ v 24 t = 1) (y : Int32) : Iv na nt K (u2 (u2 v 24 t 2) 29 t y) (C_takeFromHolder na nt v r t).2 E S M so := by
  refine h.leave ht (fun u hu j => by rw [u2_o hu, u2_o hu]) ((h.2.2.1.up rfl).up rfl) (by rw [u2_ne1 (by decide), u2_ne1 (by decide)]) (by rw [u2_ne1 (by decide), u2_ne1 (by decide)]) (by rw [u2_ne1 (by decide), u2_ne1 (by decide)]) (by rw [u2_ne1 (by decide), u2_same]; decide) ?_
  have q := h.2.1 t ht
  simp only [u2_at]
  simp
  exact q.st (by rcases h01 with e | e <;> rw [e] <;> decide) (Or.inr (Or.inl rfl))
theorem resumeE {t : Nat} (ht : t < nt) (hn : nt ≤ 20) (h : v 24 t = 2) : ∃ z, C_resume na nt v r (nI t) = (0, z, u2 v 24 t 0, r) := by
  have hi : inR (nI t) nt = true := inR_iff.mpr (vp_in_nI ht (by omega))
  unfold C_resume
  rw [if_pos hi, ix_nI (by omega), if_pos h]
  exact ⟨_, rfl⟩
theorem Iv.resume (h : Iv na nt K v r E S M so) {t : Nat} (ht : t < nt) (h2 : v 24 t = 2) : Iv na nt K (u2 v 24 t 0) r E S M so := by
  refine h.stay ht (Int.le_refl E) (fun u hu j => u2_o hu j) (h.2.2.1.up rfl) (u2_ne1 (by decide)) (u2_ne1 (by decide)) (by rw [u2_ne1 (by decide)]) (by rw [u2_same, h2]; decide) ?_
  have q := h.2.1 t ht
  simp only [u2_at]
  simp
  exact q.st (by rw [h2]; decide) (Or.inl rfl)
theorem reopenE {t m : Nat} {p : Int32} (ht : t < nt) (hn : nt ≤ 20) (h : v 24 t = 3) (hp1 : 1 ≤ p.toInt) (hp2 : p.toInt ≤ 20) (hm : v 0 0 = nI m) (hm2 : m < 1440) (hs1 : 0 ≤ (v 30 t).toInt) : ∃ z, C_reopen na nt v r (nI t) p = (0, z, u2 (u2 (u2 v 24 t 0) 23 t (v 23 t + p)) 28 t (v 28 t + 1), r) := by
  have hi : inR (nI t) nt = true := inR_iff.mpr (vp_in_nI ht (by omega))
  have e1 : (1 : Int32).toInt = 1 := by decide
  have e3 : (300 : Int32).toInt = 300 := by decide
  have e7 : (7200 : Int32).toInt = 7200 := by decide
  have hb := Int32.toInt_le (v 30 t)
  have e2 : Int32.maxValue.toInt = 2147483647 := by decide
  have es : (nI m - v 30 t).toInt = (m : Int) - (v 30 t).toInt := by
    rw [Int32.toInt_sub, nI_toInt (by omega)]
    exact Int.bmod_eq_of_le (by omega) (by omega)
  unfold C_reopen
  rw [if_pos hi, ix_nI (by omega), if_neg (by rw [Int32.lt_iff_toInt_lt]; omega), if_pos (by rw [Int32.le_iff_toInt_le]; omega), if_pos h, if_pos (by rw [hm, Int32.lt_iff_toInt_lt]; omega)]
  exact ⟨_, rfl⟩
theorem Iv.reopen (h : Iv na nt K v r E S M so) {t : Nat} {p : Int32} (ht : t < nt) (h3 : v 24 t = 3) (hp1 : 1 ≤ p.toInt) (hp2 : p.toInt ≤ 20) (hE : E < 2 ^ 30) (y : Int32) : Iv na nt K (u2 (u2 (u2 v 24 t 0) 23 t (v 23 t + p)) 28 t y) r (E + 20) S M so := by
  refine h.stay ht (by omega) (fun u hu j => by rw [u2_o hu, u2_o hu, u2_o hu]) (((h.2.2.1.up rfl).up rfl).up rfl) (by rw [u2_ne1 (by decide), u2_ne1 (by decide), u2_ne1 (by decide)]) (by rw [u2_ne1 (by decide), u2_ne1 (by decide), u2_ne1 (by decide)]) (by rw [u2_ne1 (by decide), u2_ne1 (by decide), u2_ne1 (by decide)]) (by rw [u2_ne1 (by decide), u2_ne1 (by decide), u2_same, h3]; decide) ?_
  obtain ⟨q1, q2, q3, q4, q5, q6, q7⟩ := h.2.1 t ht
  have e : (v 23 t + p).toInt = (v 23 t).toInt + p.toInt := toI_add (by omega) (by omega)
  have ed := q2.mp h3
  simp only [u2_at]
  simp
  refine ⟨⟨q1.1, by omega, by omega⟩, ⟨fun z => absurd z (by decide), fun z => ?_⟩, q3, fun z => absurd z (by decide), q5, q6, Or.inl rfl⟩
  rw [ed] at z
  have := congrArg Int32.toInt z
  omega
theorem Iv.r34 (h : Iv na nt K v r E S M so) {t : Nat} {x : Option Nat} : Iv na nt K v (u3 r 34 t x) E S M so := by
  obtain ⟨g1, g2, g3, g4, g5⟩ := h
  refine ⟨?_, g2, g3, g4, g5⟩
  unfold Lk
  rw [u3_ne1 (by decide), u3_ne1 (by decide)]
  exact g1
def mPr (v : S2) (t u : Nat) : Int32 := if v 22 t < v 22 u then v 22 t else v 22 u
def mAg (v : S2) (t u : Nat) : Int32 := if v 25 u < v 25 t then v 25 t else v 25 u
theorem mergeE {t u : Nat} (ht : t < nt) (hu : u < nt) (hn : nt ≤ 20) (hne : ¬ t = u) (h1 : v 24 t = 0 ∨ v 24 t = 1 ∨ v 24 t = 2) (h2 : v 24 u = 0 ∨ v 24 u = 1 ∨ v 24 u = 2) : ∃ z, C_merge na nt v r (nI t) (nI u) = (0, z, u2 (u2 (u2 (u2 v 24 t 4) 22 u (mPr v t u)) 25 u (mAg v t u)) 31 u (v 31 u ||| v 31 t), u3 (C_takeFromHolder na nt v r t).2 34 t (some u)) := by
  have hi : inR (nI t) nt = true := inR_iff.mpr (vp_in_nI ht (by omega))
  have hj : inR (nI u) nt = true := inR_iff.mpr (vp_in_nI hu (by omega))
  have op : ∀ {w : Nat}, (v 24 w = 0 ∨ v 24 w = 1 ∨ v 24 w = 2) → C_T_isOpen na nt v r w = true := fun {w} q => by
    unfold C_T_isOpen
    rcases q with q | q | q
    · rw [if_pos q]
    · rw [if_neg (by rw [q]; decide), if_pos q]
    · rw [if_neg (by rw [q]; decide), if_neg (by rw [q]; decide), if_pos q]
  have e : ¬ nI t = nI u := fun z => hne (by
    have := congrArg Int32.toInt z
    rw [nI_toInt (by omega), nI_toInt (by omega)] at this
    omega)
  unfold C_merge
  rw [if_pos hi, if_pos hj, if_neg e, ix_nI (by omega), ix_nI (by omega), if_pos (op h1), if_pos (op h2), take_v]
  exact ⟨_, rfl⟩
theorem Iv.merge (h : Iv na nt K v r E S M so) {t u : Nat} (ht : t < nt) (hu : u < nt) (hne : ¬ t = u) (h1 : v 24 t = 0 ∨ v 24 t = 1 ∨ v 24 t = 2) (x y : Int32) : Iv na nt K (u2 (u2 (u2 (u2 v 24 t 4) 22 u x) 25 u (mAg v t u)) 31 u y) (u3 (C_takeFromHolder na nt v r t).2 34 t (some u)) E S M so := by
  have n3 : ¬ v 24 t = 3 := by rcases h1 with e | e | e <;> rw [e] <;> decide
  have qt := h.2.1 t ht
  have a1 : Iv na nt K (u2 v 24 t 4) (C_takeFromHolder na nt v r t).2 E S M so := by
    refine h.leave ht (fun w hw j => u2_o hw j) (h.2.2.1.up rfl) (u2_ne1 (by decide)) (u2_ne1 (by decide)) (by rw [u2_ne1 (by decide)]) (by rw [u2_same]; decide) ?_
    simp only [u2_at]
    simp
    exact qt.st n3 (Or.inr (Or.inr rfl))
  refine Iv.r34 (a1.stay hu (Int.le_refl E) (fun w hw j => by rw [u2_o hw, u2_o hw, u2_o hw]) (((a1.2.2.1.up rfl).up rfl).up rfl) (by rw [u2_ne1 (by decide), u2_ne1 (by decide), u2_ne1 (by decide)]) (by rw [u2_ne1 (by decide), u2_ne1 (by decide), u2_ne1 (by decide)]) (by rw [u2_ne1 (by decide), u2_ne1 (by decide), u2_ne1 (by decide)]) (by rw [u2_ne1 (by decide), u2_ne1 (by decide), u2_ne1 (by decide)]) ?_)
  have qu := a1.2.1 u hu
  have eo : ∀ j, ¬ j = 31 → ¬ j = 25 → ¬ j = 22 → u2 (u2 (u2 (u2 v 24 t 4) 22 u x) 25 u (mAg v t u)) 31 u y j u = u2 v 24 t 4 j u := fun j a b c => by rw [u2_ne1 a, u2_ne1 b, u2_ne1 c]
  have e5 : u2 (u2 (u2 (u2 v 24 t 4) 22 u x) 25 u (mAg v t u)) 31 u y 25 u = mAg v t u := by rw [u2_ne1 (by decide), u2_same]
  rw [eo 24 (by decide) (by decide) (by decide), eo 26 (by decide) (by decide) (by decide), eo 23 (by decide) (by decide) (by decide), eo 27 (by decide) (by decide) (by decide), eo 30 (by decide) (by decide) (by decide), e5]
  obtain ⟨q1, q2, q3, q4, q5, q6, q7⟩ := qu
  have t5 := qt.2.2.2.2.1
  rw [u2_ne1 (j := 24) (a := 25) (by decide)] at q5
  have ea : (v 25 u).toInt ≤ (mAg v t u).toInt ∧ (mAg v t u).toInt ≤ S := by
    unfold mAg
    split
    · rename_i z
      rw [Int32.lt_iff_toInt_lt] at z
      omega
    · omega
  exact ⟨q1, q2, q3, q4, ⟨by omega, by omega, by omega⟩, q6, q7⟩
theorem CI_merge {t u : Nat} (h : CI G v r) (ht : t < nT G) (hu : u < nT G) (x y : Int32) : CI G (u2 (u2 (u2 (u2 v 24 t 4) 22 u (mPr v t u)) 25 u x) 31 u y) (u3 (C_takeFromHolder na nt v r t).2 34 t (some u)) :=
  CI_v (by decide) (CI_v (by decide) (CI_p (minPrio (h.prio ht) (h.prio hu)) (CI_v (by decide) (CI_r (CI_take' h) (fun z => absurd z (by decide)) (fun z => absurd z (by decide)) (fun z => absurd z (by decide)) (fun _ w e => by cases e; exact hu)))))
theorem agentE {a : Nat} {w : Int32} (ha : a < na) (hn : na ≤ 6) (h0 : ¬ w < 0) (h4 : w < 4) : C_agent na nt v r (nI a) w = (0, C_toldOfAgent na nt v r a w, v, r) := by
  have hi : inR (nI a) na = true := inR_iff.mpr (vp_in_nI ha (by omega))
  unfold C_agent
  rw [if_pos hi, if_neg h0, if_pos h4, ix_nI (by omega)]
theorem ticketE {t : Nat} {w : Int32} (ht : t < nt) (hn : nt ≤ 20) (h0 : ¬ w < 0) (h8 : w < 8) : C_ticket na nt v r (nI t) w = (0, C_toldOfTicket na nt v r t w, v, r) := by
  have hi : inR (nI t) nt = true := inR_iff.mpr (vp_in_nI ht (by omega))
  unfold C_ticket
  rw [if_pos hi, if_neg h0, if_pos h8, ix_nI (by omega)]
theorem tA0 {a : Nat} : C_toldOfAgent na nt v r a 0 = C_numberOfTicket na nt v r (r 15 a) := if_pos rfl
theorem tA1 {a : Nat} : C_toldOfAgent na nt v r a 1 = v 16 a := (if_neg (by decide)).trans (if_pos rfl)
theorem tA2 {a : Nat} : C_toldOfAgent na nt v r a 2 = v 17 a := (if_neg (by decide)).trans ((if_neg (by decide)).trans (if_pos rfl))
theorem tT0 {t : Nat} : C_toldOfTicket na nt v r t 0 = v 24 t := if_pos rfl
theorem tT1 {t : Nat} : C_toldOfTicket na nt v r t 1 = C_numberOfAgent na nt v r (r 32 t) := (if_neg (by decide)).trans (if_pos rfl)
theorem tT3 {t : Nat} : C_toldOfTicket na nt v r t 3 = v 25 t := (if_neg (by decide)).trans ((if_neg (by decide)).trans ((if_neg (by decide)).trans (if_pos rfl)))
theorem tT4 {t : Nat} : C_toldOfTicket na nt v r t 4 = v 26 t := (if_neg (by decide)).trans ((if_neg (by decide)).trans ((if_neg (by decide)).trans ((if_neg (by decide)).trans (if_pos rfl))))
theorem tT5 {t : Nat} : C_toldOfTicket na nt v r t 5 = v 23 t := (if_neg (by decide)).trans ((if_neg (by decide)).trans ((if_neg (by decide)).trans ((if_neg (by decide)).trans ((if_neg (by decide)).trans (if_pos rfl)))))
theorem tT6 {t : Nat} : C_toldOfTicket na nt v r t 6 = v 27 t := (if_neg (by decide)).trans ((if_neg (by decide)).trans ((if_neg (by decide)).trans ((if_neg (by decide)).trans ((if_neg (by decide)).trans ((if_neg (by decide)).trans (if_pos rfl))))))
theorem passE {p m : Nat} (hp : 1 ≤ p) (hp2 : p ≤ 600) (hm : v 0 0 = nI m) (hm2 : m < 1440) : C_pass na nt v r (nI p) = (0, (C_passL na nt v r p).1, (C_passL na nt v r p).2.1, (C_passL na nt v r p).2.2) := by
  have e : (99999 : Int32) - nI m = nI (99999 - m) := nI_sub (a := 99999) (by omega)
  unfold C_pass
  rw [if_neg (show ¬ nI p < 1 from nI_nlt (b := 1) hp (by omega)), if_pos (show nI p ≤ 600 from nI_le (b := 600) hp2 (by decide)), hm, e, if_pos (nI_le (by omega) (by omega)), ix_nI (by omega)]
theorem CI_passL (h : CI G v r) : ∀ n, CI G (C_passL (nA G) (nT G) v r n).2.1 (C_passL (nA G) (nT G) v r n).2.2
  | 0 => h
  | n + 1 => by
    have ih := CI_passL h n
    rw [C_passL_s, C_passLB]
    exact CI_pm ih
theorem allE {s : Int32} (h0 : ¬ s < 0) (h4 : s ≤ 4) : C_all na nt v r s = (0, C_allL na nt v r s nt, v, r) := by
  unfold C_all
  rw [if_neg h0, if_pos h4]
theorem bit_at (k : Nat) (hk : k < 20) (x : Int32) : ((x >>> (nI k &&& 31)) &&& 1) = if x.toBitVec.getLsbD k then 1 else 0 := by
  have h31 : ∀ k, k < 20 → (nI k &&& 31) = nI k := by decide +kernel
  have hm : ∀ k, k < 20 → ((nI k).toBitVec.smod 32).toNat = k := by decide +kernel
  rw [h31 k hk]
  apply Int32.toBitVec_inj.mp
  show (x.toBitVec.sshiftRight ((nI k).toBitVec.smod 32).toNat) &&& 1#32 = _
  rw [hm k hk]
  have h1 : ((x.toBitVec.sshiftRight k) &&& BitVec.twoPow 32 0) = if x.toBitVec.getLsbD k then BitVec.twoPow 32 0 else 0#32 := by
    rw [BitVec.and_twoPow, BitVec.getLsbD_sshiftRight]
    simp [show k < 32 by omega]
  have e1 : BitVec.twoPow 32 0 = 1#32 := by decide
  rw [e1] at h1
  rw [h1]
  split <;> rfl
theorem bit_or (k i : Nat) (hk : k < 20) (hi : i < 20) (x : Int32) : (x ||| (1 <<< (nI i &&& 31))).toBitVec.getLsbD k = (x.toBitVec.getLsbD k || decide (i = k)) := by
  have h31 : ∀ k, k < 20 → (nI k &&& 31) = nI k := by decide +kernel
  have hm : ∀ k, k < 20 → ((nI k).toBitVec.smod 32).toNat = k := by decide +kernel
  rw [h31 i hi]
  show (x.toBitVec ||| (1#32 <<< ((nI i).toBitVec.smod 32).toNat)).getLsbD k = _
  rw [hm i hi, BitVec.getLsbD_or, show (1#32 <<< i) = BitVec.twoPow 32 i from rfl, BitVec.getLsbD_twoPow]
  simp [show i < 32 by omega]
theorem allL_bit {s : Int32} {k : Nat} (hk : k < 20) (hs1 : v 24 k = s) : ∀ n, n ≤ 20 → k < n → (C_allL na nt v r s n).toBitVec.getLsbD k = true
  | 0, _, h => absurd h (Nat.not_lt_zero _)
  | n + 1, hn, h => by
    rw [C_allL_s, C_allLB]
    by_cases e : k = n
    · subst e
      rw [if_pos hs1, bit_or k k hk hk]
      simp
    · have ih := allL_bit hk hs1 n (by omega) (by omega)
      split
      · rw [bit_or k n hk (by omega), ih]; rfl
      · exact ih
theorem all_ok {s : Int32} {k : Nat} (hn : nt ≤ 20) (hk : k < nt) (hs1 : v 24 k = s) : (C_allL na nt v r s nt >>> (nI k &&& 31)) &&& 1 = 1 := by
  rw [bit_at k (by omega), allL_bit (by omega) hs1 nt hn hk]
  rfl
theorem bit_iff (k : Nat) (hk : k < 8) (y : BitVec 32) : ((y.sshiftRight k) &&& 1#32 = 1#32) ↔ ¬ (y &&& (1#32 <<< k) = 0#32) := by
  have h1 : ((y.sshiftRight k) &&& BitVec.twoPow 32 0) = if y.getLsbD k then BitVec.twoPow 32 0 else 0#32 := by
    rw [BitVec.and_twoPow, BitVec.getLsbD_sshiftRight]
    simp [show k < 32 by omega]
  have h2 : (y &&& BitVec.twoPow 32 k) = if y.getLsbD k then BitVec.twoPow 32 k else 0#32 := BitVec.and_twoPow _ _
  have e1 : BitVec.twoPow 32 0 = 1#32 := by decide
  have e2 : (1#32 <<< k) = BitVec.twoPow 32 k := rfl
  rw [e1] at h1
  rw [h1, e2, h2]
  have ht : ∀ k, k < 8 → ¬ BitVec.twoPow 32 k = 0#32 := by decide +kernel
  cases y.getLsbD k with
  | true => simp [ht k hk]
  | false => simp
theorem has_iff {k : Nat} (hk : k < 8) (x : Int32) : ((x >>> (nI k &&& 31)) &&& 1 = 1) ↔ ¬ (x &&& (1 <<< (nI k &&& 31)) = 0) := by
  have hs : ∀ k, k < 8 → (nI k &&& 31) = nI k := by decide +kernel
  have hm : ∀ k, k < 8 → ((nI k).toBitVec.smod 32).toNat = k := by decide +kernel
  rw [hs k hk, ← Int32.toBitVec_inj, ← Int32.toBitVec_inj (a := x &&& (1 <<< nI k))]
  have e1 : (x >>> nI k &&& 1).toBitVec = (x.toBitVec.sshiftRight k) &&& 1#32 := by
    show (x.toBitVec.sshiftRight ((nI k).toBitVec.smod 32).toNat) &&& 1#32 = _
    rw [hm k hk]
  have e2 : (x &&& (1 <<< nI k)).toBitVec = x.toBitVec &&& (1#32 <<< k) := by
    show x.toBitVec &&& (1#32 <<< ((nI k).toBitVec.smod 32).toNat) = _
    rw [hm k hk]
  rw [e1, e2]
  exact bit_iff k hk _
theorem hs_ok {x : Int32} {q : Int32} (hq : vp_in q 8) (h : hs x q) : (x >>> (q &&& 31)) &&& 1 = 1 := by
  have e := in_nI hq
  have hl := vp_lt hq
  unfold hs at h
  rw [e] at h ⊢
  exact (has_iff hl x).mpr h
end CALLS
