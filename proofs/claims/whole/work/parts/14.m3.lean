/-! what the writers do to the reference's numbers, place by place; the invariant MI goes through them -/
theorem j_iaddN {k : Kx} {cc : ByteArray} {own : String} {R : Room} {nL : Nat} {ws : va_W} {c n pc : Nat} {lv : List (Option Value)} {st : List Value} (F : Fx k cc own R nL) {a b : Nat} (hd : decode cc pc = .ok (.iadd, 1)) (K : J k ws c n (pc + 1) lv (.int (nI (a + b)) :: st)) : J k ws c n pc lv (.int (nI b) :: .int (nI a) :: st) := j_iadd F hd (by rw [nI_add]; exact K)
theorem M_leaveL_at (s : S2) (p : Int32) : ∀ (n a b : Nat), M_leaveL s p n a b = if a = 11 ∧ b < n ∧ s 11 b = p then -1 else s a b
  | 0, a, b => by simp [M_leaveL]
  | n + 1, a, b => by
    have ih := M_leaveL_at s p n
    have e : M_leaveL s p n 11 n = s 11 n := by rw [ih, if_neg (fun z => by omega)]
    rw [M_leaveL_s, M_leaveLB, e]
    by_cases h : s 11 n = p
    · rw [if_pos h, u2_at, ih a b]
      by_cases h1 : a = 11 ∧ b = n
      · obtain ⟨rfl, rfl⟩ := h1
        rw [if_pos ⟨rfl, rfl⟩, if_pos ⟨rfl, by omega, h⟩]
      · rw [if_neg h1]
        by_cases h2 : a = 11 ∧ b < n ∧ s 11 b = p
        · rw [if_pos h2, if_pos ⟨h2.1, by omega, h2.2.2⟩]
        · rw [if_neg h2, if_neg (fun z => h2 ⟨z.1, by have := z.2.1; omega, z.2.2⟩)]
    · rw [if_neg h, ih a b]
      by_cases h2 : a = 11 ∧ b < n ∧ s 11 b = p
      · rw [if_pos h2, if_pos ⟨h2.1, by omega, h2.2.2⟩]
      · rw [if_neg h2, if_neg (fun z => ?_)]
        by_cases hb : b = n
        · exact h (by rw [← hb]; exact z.2.2)
        · exact h2 ⟨z.1, by have := z.2.1; omega, z.2.2⟩
theorem M_leave_at (s : S2) (p x : Int32) (a b : Nat) : M_leave s p x a b = if a = 19 ∧ b = ix p then x else if a = 11 ∧ b < ix (s 0 6) ∧ s 11 b = p then -1 else s a b := by
  rw [M_leave, u2_at, M_leaveL_at]
theorem M_leave_fn {s : S2} {p x : Int32} {a : Nat} (h1 : ¬ a = 19) (h2 : ¬ a = 11) : M_leave s p x a = s a := funext fun b => by rw [M_leave_at, if_neg (fun z => h1 z.1), if_neg (fun z => h2 z.1)]
theorem M_leave_06 {s : S2} {p x : Int32} : M_leave s p x 0 6 = s 0 6 := by rw [M_leave_fn (by decide) (by decide)]
theorem M_leave_014 {s : S2} {p x : Int32} : M_leave s p x 0 14 = s 0 14 := by rw [M_leave_fn (by decide) (by decide)]
theorem MI_leave {s : S2} {p x : Int32} (h : MI s) (hx : ¬ x = 4) : MI (M_leave s p x) := by
  obtain ⟨h1, h2, h3, h4, rk, h5⟩ := h
  refine ⟨by rw [M_leave_06]; exact h1, by rw [M_leave_014]; exact h2, fun t ht => by rw [M_leave_fn (by decide) (by decide)]; exact h3 t ht, fun a ha => ?_, rk, fun t ht hs => ?_⟩
  · rw [M_leave_at, if_neg (by omega)]
    split
    · exact Or.inl rfl
    · exact h4 a ha
  · rw [M_leave_at] at hs
    rw [M_leave_fn (by decide) (by decide)]
    split at hs
    · exact absurd hs hx
    · rw [if_neg (by omega)] at hs
      exact h5 t ht hs
theorem MI_hand {s : S2} {i : Nat} {x : Int32} (h : MI s) (hx : x = -1 ∨ vp_in x 20) : MI (u2 s 11 i x) := by
  obtain ⟨h1, h2, h3, h4, rk, h5⟩ := h
  refine ⟨h1, h2, h3, fun a ha => ?_, rk, h5⟩
  rw [u2_at]
  split
  · exact hx
  · exact h4 a ha
theorem MI_state {s : S2} {i : Nat} {x : Int32} (h : MI s) (hx : ¬ x = 4) : MI (u2 s 19 i x) := by
  obtain ⟨h1, h2, h3, h4, rk, h5⟩ := h
  refine ⟨h1, h2, h3, h4, rk, fun t ht hs => h5 t ht ?_⟩
  rw [u2_at] at hs
  split at hs
  · exact absurd hs hx
  · exact hs
theorem MI_note {s : S2} {i : Nat} {x : Int32} (h : MI s) (hx : ¬ s 19 i = 4) : MI (u2 s 25 i x) := by
  obtain ⟨h1, h2, h3, h4, rk, h5⟩ := h
  refine ⟨h1, h2, h3, h4, rk, fun t ht hs => ?_⟩
  have hs' : s 19 t = 4 := hs
  rw [u2_ne (fun z => hx (by rw [← z.2]; exact hs'))]
  exact h5 t ht hs'
theorem M_leave_note {s : S2} {p x y : Int32} (h : MI s) (hx : ¬ x = 4) : MI (u2 (M_leave s p x) 25 (ix p) y) := MI_note (MI_leave h hx) (by rw [M_leave_at, if_pos ⟨rfl, rfl⟩]; exact hx)
theorem M_nextL_in (s : S2) (a : Int32) : ∀ n, n ≤ 20 → M_nextL s a n = -1 ∨ vp_in (M_nextL s a n) 20
  | 0, _ => Or.inl rfl
  | n + 1, h => by
    have ih := M_nextL_in s a n (by omega)
    have hn : vp_in (nI n) 20 := vp_in_nI (by omega) (by decide)
    rw [M_nextL_s, M_nextLB]
    repeat' split
    all_goals first | exact Or.inr hn | exact ih
theorem M_nextOf_in {s : S2} {a : Int32} (h : MI s) : M_nextOf s a = -1 ∨ vp_in (M_nextOf s a) 20 := M_nextL_in s a _ h.nT
/-- how far it is to the end of the chain, at most 20 -/
theorem MI.rank {s : S2} (h : MI s) : ∃ rk : Nat → Nat, ∀ t, t < 20 → s 19 t = 4 → vp_in (s 25 t) 20 ∧ rk t < rk (ix (s 25 t)) ∧ rk (ix (s 25 t)) ≤ 20 := by
  obtain ⟨rk, hrk⟩ := h.2.2.2.2
  refine ⟨fun t => fb_ct (fun v => decide (rk v < rk t)) 20, fun t ht hs => ?_⟩
  obtain ⟨h1, h2⟩ := hrk t ht hs
  refine ⟨h1, ?_, fb_ct_le _ _⟩
  have e := fb_ct_upd (fun v => decide (rk v < rk t)) true (i := t) (n := 20) ht
  have e2 := fb_ct_sub (p := fun k => if k = t then true else decide (rk k < rk t)) (q := fun v => decide (rk v < rk (ix (s 25 t)))) (n := 20) (fun k _ hk => by
    by_cases hkt : k = t
    · rw [hkt]; exact decide_eq_true h2
    · simp only [hkt, if_false, decide_eq_true_eq] at hk ⊢
      omega)
  simp only [Nat.lt_irrefl, decide_false, Bool.false_eq_true, if_false, if_true, Nat.add_zero] at e
  show fb_ct _ 20 < fb_ct _ 20
  omega
theorem MI_merge {s : S2} {p q m : Int32} (h : MI s) (hp : vp_in p 20) (hq : vp_in q 20) (hne : ¬ p = q) (ho : ¬ s 19 (ix q) = 4) (hm : vp_in m 4) : MI (u2 (u2 (M_leave s p 4) 25 (ix p) q) 16 (ix q) m) := by
  have hpq : ¬ ix p = ix q := fun e => hne (by
    obtain ⟨a, ha, rfl⟩ := vp_in_of hp (by decide)
    obtain ⟨b, hb, rfl⟩ := vp_in_of hq (by decide)
    rw [ix_nI (by omega), ix_nI (by omega)] at e
    rw [e])
  obtain ⟨h1, h2, h3, h4, rk, h5⟩ := h
  refine ⟨?_, ?_, fun t ht => ?_, fun a ha => ?_, fun t => if t = ix q then rk (ix q) + rk (ix p) + 1 else rk t, fun t ht hs => ?_⟩
  · rw [u2_ne1 (by decide), u2_ne1 (by decide), M_leave_06]; exact h1
  · rw [u2_ne1 (by decide), u2_ne1 (by decide), M_leave_014]; exact h2
  · rw [u2_at]
    split
    · exact hm
    · rw [u2_ne1 (by decide), M_leave_fn (by decide) (by decide)]; exact h3 t ht
  · rw [u2_ne1 (by decide), u2_ne1 (by decide), M_leave_at, if_neg (by omega)]
    split
    · exact Or.inl rfl
    · exact h4 a ha
  · have hs' : M_leave s p 4 19 t = 4 := by rw [u2_ne1 (by decide), u2_ne1 (by decide)] at hs; exact hs
    rw [M_leave_at] at hs'
    have e25 : u2 (u2 (M_leave s p 4) 25 (ix p) q) 16 (ix q) m 25 t = if t = ix p then q else s 25 t := by
      rw [u2_ne1 (by decide), u2_at, M_leave_fn (by decide) (by decide)]
      by_cases e : t = ix p <;> simp [e]
    rw [e25]
    by_cases e : t = ix p
    · subst e
      rw [if_pos rfl]
      refine ⟨hq, ?_⟩
      simp only [hpq, if_true, if_false]
      omega
    · rw [if_neg e]
      rw [if_neg (fun z => e z.2), if_neg (by omega)] at hs'
      obtain ⟨g1, g2⟩ := h5 t ht hs'
      refine ⟨g1, ?_⟩
      have ht2 : ¬ t = ix q := fun z => ho (by rw [← z]; exact hs')
      simp only [ht2, if_false]
      split
      · rename_i z
        rw [z] at g2
        omega
      · exact g2
/-- the chain of merged tickets -/
def M_chase (s : S2) : Nat → Int32 → Int32
  | 0, a => a
  | n + 1, a => if s 19 (ix a) = 4 then M_chase s n (s 25 (ix a)) else a
theorem M_chase_stop {s : S2} {a : Int32} (h : ¬ s 19 (ix a) = 4) : ∀ n, M_chase s n a = a
  | 0 => rfl
  | n + 1 => by rw [M_chase, if_neg h]
def M_mainOf (s : S2) (a : Int32) : Int32 := M_chase s 20 a
def M_wit (s : S2) (o : Int32) : Nat → Int32 → Bool
  | 0, a => decide (a = o)
  | n + 1, a => if a = o then true else if s 19 (ix a) = 4 then M_wit s o n (s 25 (ix a)) else false
theorem M_wit_eq {s : S2} {o : Int32} : ∀ n, M_wit s o n o = true
  | 0 => by simp [M_wit]
  | n + 1 => by rw [M_wit, if_pos rfl]
theorem M_wit_stop {s : S2} {o a : Int32} (h1 : ¬ a = o) (h : ¬ s 19 (ix a) = 4) : ∀ n, M_wit s o n a = false
  | 0 => by simp [M_wit, h1]
  | n + 1 => by rw [M_wit, if_neg h1, if_neg h]
def M_isWithin (s : S2) (a o : Int32) : Bool := M_wit s o 20 a
/-- the first agent that has a ticket -/
def M_agentL (s : S2) (p : Int32) : Nat → Int32
  | 0 => -1
  | n + 1 => if M_agentL s p n = -1 then (if s 11 n = p then nI n else -1) else M_agentL s p n
theorem M_agentL_no {s : S2} {p : Int32} {n : Nat} (h : M_agentL s p n = -1) (h2 : ¬ s 11 n = p) : M_agentL s p (n + 1) = -1 := by rw [M_agentL, if_pos h, if_neg h2]
theorem nI_ne_m1 {n : Nat} (h : n < 2 ^ 31) : ¬ nI n = -1 := fun e => by
  have := congrArg Int32.toInt e
  rw [nI_toInt h] at this
  have e1 : (-1 : Int32).toInt = -1 := by decide
  rw [e1] at this
  omega
theorem M_agentL_yes {s : S2} {p : Int32} {n : Nat} (h : M_agentL s p n = -1) (h2 : s 11 n = p) (hn : n < 20) : ∀ m, n < m → M_agentL s p m = nI n
  | 0, h3 => absurd h3 (Nat.not_lt_zero _)
  | m + 1, h3 => by
    by_cases e : n = m
    · subst e
      rw [M_agentL, if_pos h, if_pos h2]
    · have ih := M_agentL_yes h h2 hn m (by omega)
      rw [M_agentL, ih, if_neg (nI_ne_m1 (by omega))]
def M_agentOf (s : S2) (p : Int32) : Int32 := M_agentL s p (ix (s 0 6))
/-- due: minute by minute -/
def M_dueL (s : S2) : Nat → Int32 → Int32 → Int32
  | 0, _, _ => -1
  | f + 1, m, l => if M_isService s m = true then (if l = 0 then m else M_dueL s f (m + 1) (l + (-1))) else M_dueL s f (m + 1) l
theorem ddiv_ok0 : ∀ a, a < 21 → ∀ b, b < 21 → 0 < b → (FP.ddiv (FP.i2d (nI a)) (FP.i2d (nI b))) &&& 0x7fffffffffffffff ≤ 0x7ff0000000000000 := by decide +kernel
theorem ddiv_ok {a b : Nat} (ha : a < 21) (hb : b < 21) (h0 : 0 < b) : vf_n64 (FP.ddiv (FP.i2d (nI a)) (FP.i2d (nI b))) := ddiv_ok0 a ha b hb h0

set_option maxHeartbeats 4000000 in
set_option maxRecDepth 100000 in
theorem qX4_agentOf (l : Launch) (hst : l.stackTraces = false) (D : va_G) (d : Nat → Nat) (s : S2) (p0 : Int32) (hI : MI s) : CR l D yX4_agentOf cX4_agentOf 3 (some .int) 0 0 (MW D d s) [.ref (d 0), .int p0] (.int (M_agentOf s p0)) := by
  refine CR_of [some (.ref (d 0)), some (.int p0), none] hst (by decide +kernel) rfl (Nat.le_of_ble_eq_true rfl) (fun k F hl hD hR => ?_)
  subst hl hD
  have hNA := MI.nA hI
  have eNA := MI.eA hI
  refine j_iconst F (v := 0) dX4_agentOf_0 (by decide) ?_
  refine j_istoren F [some (.ref (d 0)), some (.int p0), some (.int 0)] dX4_agentOf_1 rfl rfl rfl ?_
  refine (show ∀ (fuel i : Nat), (ix (s 0 6)) - i < fuel → i ≤ (ix (s 0 6)) → M_agentL s p0 i = -1 → J k (MW (kD k) d s) 0 0 2 [some (.ref (d 0)), some (.int p0), some (.int (nI i))] [] from ?_) ((ix (s 0 6)) + 1) 0 (by omega) (Nat.zero_le _) rfl
  intro fuel
  induction fuel with
  | zero => intro i hm; exact absurd hm (Nat.not_lt_zero _)
  | succ fuel ih =>
    intro i hm hi hc
    refine j_iloadn F dX4_agentOf_2 rfl ?_
    refine j_aloadn F dX4_agentOf_3 rfl ?_
    refine gf_X4_80 F (v := .int (nI (ix (s 0 6)))) dX4_agentOf_4 0 rfl (mfi_6 eNA) ?_
    refine j_icgeN F (x := i) (y := (ix (s 0 6))) (tgt := 28) dX4_agentOf_7 (by decide) ⟨by omega, by omega⟩ (fun h7 => ?_) (fun h7 => ?_)
    · obtain rfl : i = (ix (s 0 6)) := by omega
      refine j_iconst F (v := (-1)) dX4_agentOf_28 (by decide) ?_
      exact j_iretR F hR dX4_agentOf_29 (congrArg Value.int (show M_agentOf s p0 = (-1) from hc))
    · refine j_aloadn F dX4_agentOf_10 rfl ?_
      refine gf_X4_35 F (v := .ref (d 11)) dX4_agentOf_11 0 rfl rfl ?_
      refine j_iloadn F dX4_agentOf_14 rfl ?_
      refine j_ialdN F dX4_agentOf_15 (f := s 11) 7 rfl ⟨(Nat.lt_of_lt_of_le h7 hNA), by decide⟩ ?_
      refine j_iloadn F dX4_agentOf_16 rfl ?_
      refine j_icne F (tgt := 22) dX4_agentOf_17 (by decide) (fun h17 => ?_) (fun h17 => ?_)
      · refine j_iincN F [some (.ref (d 0)), some (.int p0), some (.int (nI (i + 1)))] dX4_agentOf_22 rfl rfl rfl rfl ?_
        refine j_goto F (tgt := 2) dX4_agentOf_25 (by decide) ?_
        exact ih (i + 1) (by omega) (by omega) (M_agentL_no hc h17)
      · refine j_iloadn F dX4_agentOf_20 rfl ?_
        exact j_iretR F hR dX4_agentOf_21 (congrArg Value.int (show M_agentOf s p0 = nI i from M_agentL_yes hc h17 (by omega) _ h7))
def M_toldTicket (s : S2) (p0 : Int32) (p1 : Int32) : Int32 := if p1 = 0 then s 19 (ix p0) else if p1 = 1 then M_agentOf s p0 else if p1 = 2 then s 16 (ix p0) else if p1 = 3 then s 20 (ix p0) else if p1 = 4 then s 21 (ix p0) else if p1 = 5 then s 17 (ix p0) else if p1 = 6 then s 23 (ix p0) else s 24 (ix p0)
set_option maxHeartbeats 4000000 in
set_option maxRecDepth 100000 in
theorem qX4_toldTicket (l : Launch) (hst : l.stackTraces = false) (D : va_G) (d : Nat → Nat) (s : S2) (p0 : Int32) (p1 : Int32) (hI : MI s) (ht : vp_in p0 20) : CR l D yX4_toldTicket cX4_toldTicket 3 (some .int) 1 22 (MW D d s) [.ref (d 0), .int p0, .int p1] (.int (M_toldTicket s p0 p1)) := by
  refine CR_of [some (.ref (d 0)), some (.int p0), some (.int p1)] hst (by decide +kernel) rfl (Nat.le_of_ble_eq_true rfl) (fun k F hl hD hR => ?_)
  subst hl hD
  refine j_iloadn F dX4_toldTicket_0 rfl ?_
  by_cases h1_0 : p1 = 0
  · refine j_tabin F (off := 43) (tgt := 44) dX4_toldTicket_1 (by rw [h1_0]; decide) (by rw [h1_0]; decide) (by rw [h1_0]; rfl) (by decide) ?_
    refine j_aloadn F dX4_toldTicket_44 rfl ?_
    refine gf_X4_56 F (v := .ref (d 19)) dX4_toldTicket_45 0 rfl rfl ?_
    refine j_iloadn F dX4_toldTicket_48 rfl ?_
    refine j_iald F dX4_toldTicket_49 (f := s 19) 14 rfl ht ?_
    exact j_iretR F hR dX4_toldTicket_50 (congrArg Value.int (show M_toldTicket s p0 p1 = s 19 (ix p0) from by rw [M_toldTicket, if_pos h1_0]))
  by_cases h1_1 : p1 = 1
  · refine j_tabin F (off := 50) (tgt := 51) dX4_toldTicket_1 (by rw [h1_1]; decide) (by rw [h1_1]; decide) (by rw [h1_1]; rfl) (by decide) ?_
    refine j_aloadn F dX4_toldTicket_51 rfl ?_
    refine j_iloadn F dX4_toldTicket_52 rfl ?_
    refine j_rdV F (qX4_agentOf (kl k) hst (kD k) d s p0 hI) lk_X4_146 dX4_toldTicket_53 ⟨(Nat.le_of_ble_eq_true rfl), (Nat.le_of_ble_eq_true rfl)⟩ (fun _ h => h) 0 rfl rfl rfl (Nat.le_of_ble_eq_true rfl) ⟨(Nat.le_of_ble_eq_true rfl), (Nat.le_of_ble_eq_true rfl)⟩ ?_
    exact j_iretR F hR dX4_toldTicket_56 (congrArg Value.int (show M_toldTicket s p0 p1 = M_agentOf s p0 from by rw [M_toldTicket, if_neg h1_0, if_pos h1_1]))
  by_cases h1_2 : p1 = 2
  · refine j_tabin F (off := 56) (tgt := 57) dX4_toldTicket_1 (by rw [h1_2]; decide) (by rw [h1_2]; decide) (by rw [h1_2]; rfl) (by decide) ?_
    refine j_aloadn F dX4_toldTicket_57 rfl ?_
    refine gf_X4_47 F (v := .ref (d 16)) dX4_toldTicket_58 0 rfl rfl ?_
    refine j_iloadn F dX4_toldTicket_61 rfl ?_
    refine j_iald F dX4_toldTicket_62 (f := s 16) 11 rfl ht ?_
    exact j_iretR F hR dX4_toldTicket_63 (congrArg Value.int (show M_toldTicket s p0 p1 = s 16 (ix p0) from by rw [M_toldTicket, if_neg h1_0, if_neg h1_1, if_pos h1_2]))
  by_cases h1_3 : p1 = 3
  · refine j_tabin F (off := 63) (tgt := 64) dX4_toldTicket_1 (by rw [h1_3]; decide) (by rw [h1_3]; decide) (by rw [h1_3]; rfl) (by decide) ?_
    refine j_aloadn F dX4_toldTicket_64 rfl ?_
    refine gf_X4_59 F (v := .ref (d 20)) dX4_toldTicket_65 0 rfl rfl ?_
    refine j_iloadn F dX4_toldTicket_68 rfl ?_
    refine j_iald F dX4_toldTicket_69 (f := s 20) 15 rfl ht ?_
    exact j_iretR F hR dX4_toldTicket_70 (congrArg Value.int (show M_toldTicket s p0 p1 = s 20 (ix p0) from by rw [M_toldTicket, if_neg h1_0, if_neg h1_1, if_neg h1_2, if_pos h1_3]))
  by_cases h1_4 : p1 = 4
  · refine j_tabin F (off := 70) (tgt := 71) dX4_toldTicket_1 (by rw [h1_4]; decide) (by rw [h1_4]; decide) (by rw [h1_4]; rfl) (by decide) ?_
    refine j_aloadn F dX4_toldTicket_71 rfl ?_
    refine gf_X4_62 F (v := .ref (d 21)) dX4_toldTicket_72 0 rfl rfl ?_
    refine j_iloadn F dX4_toldTicket_75 rfl ?_
    refine j_iald F dX4_toldTicket_76 (f := s 21) 16 rfl ht ?_
    exact j_iretR F hR dX4_toldTicket_77 (congrArg Value.int (show M_toldTicket s p0 p1 = s 21 (ix p0) from by rw [M_toldTicket, if_neg h1_0, if_neg h1_1, if_neg h1_2, if_neg h1_3, if_pos h1_4]))
  by_cases h1_5 : p1 = 5
  · refine j_tabin F (off := 77) (tgt := 78) dX4_toldTicket_1 (by rw [h1_5]; decide) (by rw [h1_5]; decide) (by rw [h1_5]; rfl) (by decide) ?_
    refine j_aloadn F dX4_toldTicket_78 rfl ?_
    refine gf_X4_50 F (v := .ref (d 17)) dX4_toldTicket_79 0 rfl rfl ?_
    refine j_iloadn F dX4_toldTicket_82 rfl ?_
    refine j_iald F dX4_toldTicket_83 (f := s 17) 12 rfl ht ?_
    exact j_iretR F hR dX4_toldTicket_84 (congrArg Value.int (show M_toldTicket s p0 p1 = s 17 (ix p0) from by rw [M_toldTicket, if_neg h1_0, if_neg h1_1, if_neg h1_2, if_neg h1_3, if_neg h1_4, if_pos h1_5]))
  by_cases h1_6 : p1 = 6
  · refine j_tabin F (off := 84) (tgt := 85) dX4_toldTicket_1 (by rw [h1_6]; decide) (by rw [h1_6]; decide) (by rw [h1_6]; rfl) (by decide) ?_
    refine j_aloadn F dX4_toldTicket_85 rfl ?_
    refine gf_X4_68 F (v := .ref (d 23)) dX4_toldTicket_86 0 rfl rfl ?_
    refine j_iloadn F dX4_toldTicket_89 rfl ?_
    refine j_iald F dX4_toldTicket_90 (f := s 23) 18 rfl ht ?_
    exact j_iretR F hR dX4_toldTicket_91 (congrArg Value.int (show M_toldTicket s p0 p1 = s 23 (ix p0) from by rw [M_toldTicket, if_neg h1_0, if_neg h1_1, if_neg h1_2, if_neg h1_3, if_neg h1_4, if_neg h1_5, if_pos h1_6]))
  refine j_tabout F (tgt := 92) dX4_toldTicket_1 (tab_out7 h1_0 h1_1 h1_2 h1_3 h1_4 h1_5 h1_6) (by decide) ?_
  refine j_aloadn F dX4_toldTicket_92 rfl ?_
  refine gf_X4_71 F (v := .ref (d 24)) dX4_toldTicket_93 0 rfl rfl ?_
  refine j_iloadn F dX4_toldTicket_96 rfl ?_
  refine j_iald F dX4_toldTicket_97 (f := s 24) 19 rfl ht ?_
  exact j_iretR F hR dX4_toldTicket_98 (congrArg Value.int (show M_toldTicket s p0 p1 = s 24 (ix p0) from by rw [M_toldTicket, if_neg h1_0, if_neg h1_1, if_neg h1_2, if_neg h1_3, if_neg h1_4, if_neg h1_5, if_neg h1_6]))
def M_ticket (s : S2) (p0 : Int32) (p1 : Int32) : Int32 × S2 := if (M_isTicket (u2 s 0 0 0) p0) = true then (if (M_isIn p1 0 7) = true then (M_toldTicket (u2 s 0 0 0) p0 p1, u2 s 0 0 0) else ((M_no (u2 s 0 0 0) 1).1, (M_no (u2 s 0 0 0) 1).2)) else ((M_no (u2 s 0 0 0) 1).1, (M_no (u2 s 0 0 0) 1).2)
set_option maxHeartbeats 4000000 in
set_option maxRecDepth 100000 in
theorem qX4_ticket (l : Launch) (hst : l.stackTraces = false) (D : va_G) (d : Nat → Nat) (s : S2) (p0 : Int32) (p1 : Int32) (hI : MI s) : CM l D yX4_ticket cX4_ticket 3 (some .int) 2 44 0 0 (MW D d s) [.ref (d 0), .int p0, .int p1] (dP (some (.int ((M_ticket s p0 p1).1))) (MW D d (M_ticket s p0 p1).2)) := by
  refine CM_of [some (.ref (d 0)), some (.int p0), some (.int p1)] hst (by decide +kernel) rfl (Nat.le_of_ble_eq_true rfl) (fun k F hl hD hin hR => ?_)
  subst hl hD
  refine j_aloadn F dX4_ticket_0 rfl ?_
  refine j_iconst F (v := 0) dX4_ticket_1 (by decide) ?_
  refine pf_X4_77 F hR.1 dX4_ticket_2 rfl rfl 0 rfl (Nat.le_of_ble_eq_true rfl) (MW (kD k) d (u2 s 0 0 0)) (mp_0 _ _ _ _) ?_
  refine j_aloadn F dX4_ticket_5 rfl ?_
  refine j_iloadn F dX4_ticket_6 rfl ?_
  refine j_rdV F (qX4_isTicket (kl k) hst (kD k) d (u2 s 0 0 0) p0) lk_X4_137 dX4_ticket_7 ⟨(Nat.le_of_ble_eq_true rfl), (Nat.le_of_ble_eq_true rfl)⟩ (fun _ h => h) 0 rfl rfl rfl (Nat.le_of_ble_eq_true rfl) ⟨(Nat.le_of_ble_eq_true rfl), (Nat.le_of_ble_eq_true rfl)⟩ ?_
  refine j_ifbeq F (tgt := 32) dX4_ticket_10 (by decide) (fun h10 => ?_) (fun h10 => ?_)
  · refine j_aloadn F dX4_ticket_32 rfl ?_
    refine j_iconst F (v := 1) dX4_ticket_33 (by decide) ?_
    refine j_dmV F hR.1 (qX4_no (kl k) hst (kD k) d (u2 s 0 0 0) 1) lk_X4_90 dX4_ticket_34 ⟨(Nat.le_of_ble_eq_true rfl), (Nat.le_of_ble_eq_true rfl)⟩ 0 rfl rfl rfl (Nat.le_of_ble_eq_true rfl) ⟨(Nat.le_of_ble_eq_true rfl), (Nat.le_of_ble_eq_true rfl)⟩ rfl ?_
    have hz : M_ticket s p0 p1 = ((M_no (u2 s 0 0 0) 1).1, (M_no (u2 s 0 0 0) 1).2) := by rw [M_ticket, if_neg h10]
    exact j_iret F hR dX4_ticket_37 (Nat.le_of_ble_eq_true rfl) (Nat.le_of_ble_eq_true rfl) ⟨by rw [hz], by rw [hz]⟩
  · refine j_iloadn F dX4_ticket_13 rfl ?_
    refine j_iconst F (v := 0) dX4_ticket_14 (by decide) ?_
    refine j_bipush F (v := 7) dX4_ticket_15 (by decide) ?_
    refine j_rdS F (qX4_isIn (kl k) hst (kD k) p1 0 7) lk_X4_83 dX4_ticket_17 ⟨(Nat.le_of_ble_eq_true rfl), (Nat.le_of_ble_eq_true rfl)⟩ (fun _ h => nomatch h) rfl (Nat.le_of_ble_eq_true rfl) ⟨(Nat.le_of_ble_eq_true rfl), (Nat.le_of_ble_eq_true rfl)⟩ ?_
    refine j_ifbeq F (tgt := 32) dX4_ticket_20 (by decide) (fun h20 => ?_) (fun h20 => ?_)
    · refine j_aloadn F dX4_ticket_32 rfl ?_
      refine j_iconst F (v := 1) dX4_ticket_33 (by decide) ?_
      refine j_dmV F hR.1 (qX4_no (kl k) hst (kD k) d (u2 s 0 0 0) 1) lk_X4_90 dX4_ticket_34 ⟨(Nat.le_of_ble_eq_true rfl), (Nat.le_of_ble_eq_true rfl)⟩ 0 rfl rfl rfl (Nat.le_of_ble_eq_true rfl) ⟨(Nat.le_of_ble_eq_true rfl), (Nat.le_of_ble_eq_true rfl)⟩ rfl ?_
      have hz : M_ticket s p0 p1 = ((M_no (u2 s 0 0 0) 1).1, (M_no (u2 s 0 0 0) 1).2) := by rw [M_ticket, if_pos h10, if_neg h20]
      exact j_iret F hR dX4_ticket_37 (Nat.le_of_ble_eq_true rfl) (Nat.le_of_ble_eq_true rfl) ⟨by rw [hz], by rw [hz]⟩
    · refine j_aloadn F dX4_ticket_23 rfl ?_
      refine j_iloadn F dX4_ticket_24 rfl ?_
      refine j_iloadn F dX4_ticket_25 rfl ?_
      refine j_rdV F (qX4_toldTicket (kl k) hst (kD k) d (u2 s 0 0 0) p0 p1 ((MI_u0 (by decide) hI)) ((M_isTicket_in hI h10))) lk_X4_149 dX4_ticket_26 ⟨(Nat.le_of_ble_eq_true rfl), (Nat.le_of_ble_eq_true rfl)⟩ (fun _ h => h) 0 rfl rfl rfl (Nat.le_of_ble_eq_true rfl) ⟨(Nat.le_of_ble_eq_true rfl), (Nat.le_of_ble_eq_true rfl)⟩ ?_
      refine j_goto F (tgt := 37) dX4_ticket_29 (by decide) ?_
      have hz : M_ticket s p0 p1 = (M_toldTicket (u2 s 0 0 0) p0 p1, u2 s 0 0 0) := by rw [M_ticket, if_pos h10, if_pos h20]
      exact j_iret F hR dX4_ticket_37 (Nat.le_of_ble_eq_true rfl) (Nat.le_of_ble_eq_true rfl) ⟨by rw [hz], by rw [hz]⟩
set_option maxHeartbeats 4000000 in
set_option maxRecDepth 100000 in
theorem qX4_mainOf (l : Launch) (hst : l.stackTraces = false) (D : va_G) (d : Nat → Nat) (s : S2) (p0 : Int32) (hI : MI s) (ht : vp_in p0 20) : CR l D yX4_mainOf cX4_mainOf 3 (some .int) 0 0 (MW D d s) [.ref (d 0), .int p0] (.int (M_mainOf s p0)) := by
  refine CR_of [some (.ref (d 0)), some (.int p0), none] hst (by decide +kernel) rfl (Nat.le_of_ble_eq_true rfl) (fun k F hl hD hR => ?_)
  subst hl hD
  refine j_iloadn F dX4_mainOf_0 rfl ?_
  refine j_istoren F [some (.ref (d 0)), some (.int p0), some (.int p0)] dX4_mainOf_1 rfl rfl rfl ?_
  obtain ⟨rk, hrk⟩ := hI.rank
  refine (show ∀ (m : Nat) (a : Int32), vp_in a 20 → 20 ≤ m + rk (ix a) → M_mainOf s p0 = M_chase s m a → J k (MW (kD k) d s) 0 0 2 [some (.ref (d 0)), some (.int p0), some (.int a)] [] from ?_) 20 p0 ht (by omega) rfl
  intro m
  induction m with
  | zero =>
    intro a ha hm hc
    refine j_aloadn F dX4_mainOf_2 rfl ?_
    refine gf_X4_56 F (v := .ref (d 19)) dX4_mainOf_3 0 rfl rfl ?_
    refine j_iloadn F dX4_mainOf_6 rfl ?_
    refine j_iald F dX4_mainOf_7 (f := s 19) 14 rfl ha ?_
    refine j_iconst F (v := 4) dX4_mainOf_8 (by decide) ?_
    refine j_icne F (tgt := 22) dX4_mainOf_9 (by decide) (fun h9 => ?_) (fun h9 => ?_)
    · refine j_iloadn F dX4_mainOf_22 rfl ?_
      exact j_iretR F hR dX4_mainOf_23 (congrArg Value.int (show M_mainOf s p0 = a from by rw [hc]; exact M_chase_stop h9 _))
    · exact absurd (hrk _ (vp_lt ha) h9) (by omega)
  | succ m ih =>
    intro a ha hm hc
    refine j_aloadn F dX4_mainOf_2 rfl ?_
    refine gf_X4_56 F (v := .ref (d 19)) dX4_mainOf_3 0 rfl rfl ?_
    refine j_iloadn F dX4_mainOf_6 rfl ?_
    refine j_iald F dX4_mainOf_7 (f := s 19) 14 rfl ha ?_
    refine j_iconst F (v := 4) dX4_mainOf_8 (by decide) ?_
    refine j_icne F (tgt := 22) dX4_mainOf_9 (by decide) (fun h9 => ?_) (fun h9 => ?_)
    · refine j_iloadn F dX4_mainOf_22 rfl ?_
      exact j_iretR F hR dX4_mainOf_23 (congrArg Value.int (show M_mainOf s p0 = a from by rw [hc]; exact M_chase_stop h9 _))
    · refine j_aloadn F dX4_mainOf_12 rfl ?_
      refine gf_X4_74 F (v := .ref (d 25)) dX4_mainOf_13 0 rfl rfl ?_
      refine j_iloadn F dX4_mainOf_16 rfl ?_
      refine j_iald F dX4_mainOf_17 (f := s 25) 20 rfl ha ?_
      refine j_istoren F [some (.ref (d 0)), some (.int p0), some (.int (s 25 (ix a)))] dX4_mainOf_18 rfl rfl rfl ?_
      refine j_goto F (tgt := 2) dX4_mainOf_19 (by decide) ?_
      exact ih _ (hrk _ (vp_lt ha) h9).1 (by have := (hrk _ (vp_lt ha) h9).2.1; omega) (by rw [hc, M_chase, if_pos h9])
set_option maxHeartbeats 4000000 in
set_option maxRecDepth 100000 in
theorem qX4_isWithin (l : Launch) (hst : l.stackTraces = false) (D : va_G) (d : Nat → Nat) (s : S2) (p0 : Int32) (p1 : Int32) (hI : MI s) (ht : vp_in p0 20) : CR l D yX4_isWithin cX4_isWithin 4 (some .boolean) 0 0 (MW D d s) [.ref (d 0), .int p0, .int p1] (.int (b1 (M_isWithin s p0 p1))) := by
  refine CR_of [some (.ref (d 0)), some (.int p0), some (.int p1), none] hst (by decide +kernel) rfl (Nat.le_of_ble_eq_true rfl) (fun k F hl hD hR => ?_)
  subst hl hD
  refine j_iloadn F dX4_isWithin_0 rfl ?_
  refine j_istoren F [some (.ref (d 0)), some (.int p0), some (.int p1), some (.int p0)] dX4_isWithin_1 rfl rfl rfl ?_
  obtain ⟨rk, hrk⟩ := hI.rank
  refine (show ∀ (m : Nat) (a : Int32), vp_in a 20 → 20 ≤ m + rk (ix a) → M_isWithin s p0 p1 = M_wit s p1 m a → J k (MW (kD k) d s) 0 0 2 [some (.ref (d 0)), some (.int p0), some (.int p1), some (.int a)] [] from ?_) 20 p0 ht (by omega) rfl
  intro m
  induction m with
  | zero =>
    intro a ha hm hc
    refine j_iloadn F dX4_isWithin_2 rfl ?_
    refine j_iloadn F dX4_isWithin_3 rfl ?_
    refine j_iceq F (tgt := 27) dX4_isWithin_4 (by decide) (fun h4 => ?_) (fun h4 => ?_)
    · refine j_iloadn F dX4_isWithin_27 rfl ?_
      refine j_iloadn F dX4_isWithin_28 rfl ?_
      refine j_icne F (tgt := 36) dX4_isWithin_29 (by decide) (fun h29 => ?_) (fun h29 => ?_)
      · exact absurd h4 h29
      · refine j_iconst F (v := 1) dX4_isWithin_32 (by decide) ?_
        refine j_goto F (tgt := 37) dX4_isWithin_33 (by decide) ?_
        exact j_zretR F (b := true) hR dX4_isWithin_37 rfl (congrArg (fun z => Value.int (b1 z)) (show M_isWithin s p0 p1 = true from by rw [hc, h29]; exact M_wit_eq _))
    · refine j_aloadn F dX4_isWithin_7 rfl ?_
      refine gf_X4_56 F (v := .ref (d 19)) dX4_isWithin_8 0 rfl rfl ?_
      refine j_iloadn F dX4_isWithin_11 rfl ?_
      refine j_iald F dX4_isWithin_12 (f := s 19) 14 rfl ha ?_
      refine j_iconst F (v := 4) dX4_isWithin_13 (by decide) ?_
      refine j_icne F (tgt := 27) dX4_isWithin_14 (by decide) (fun h14 => ?_) (fun h14 => ?_)
      · refine j_iloadn F dX4_isWithin_27 rfl ?_
        refine j_iloadn F dX4_isWithin_28 rfl ?_
        refine j_icne F (tgt := 36) dX4_isWithin_29 (by decide) (fun h29 => ?_) (fun h29 => ?_)
        · refine j_iconst F (v := 0) dX4_isWithin_36 (by decide) ?_
          exact j_zretR F (b := false) hR dX4_isWithin_37 rfl (congrArg (fun z => Value.int (b1 z)) (show M_isWithin s p0 p1 = false from by rw [hc]; exact M_wit_stop h29 h14 _))
        · refine j_iconst F (v := 1) dX4_isWithin_32 (by decide) ?_
          refine j_goto F (tgt := 37) dX4_isWithin_33 (by decide) ?_
          exact j_zretR F (b := true) hR dX4_isWithin_37 rfl (congrArg (fun z => Value.int (b1 z)) (show M_isWithin s p0 p1 = true from by rw [hc, h29]; exact M_wit_eq _))
      · exact absurd (hrk _ (vp_lt ha) h14) (by omega)
  | succ m ih =>
    intro a ha hm hc
    refine j_iloadn F dX4_isWithin_2 rfl ?_
    refine j_iloadn F dX4_isWithin_3 rfl ?_
    refine j_iceq F (tgt := 27) dX4_isWithin_4 (by decide) (fun h4 => ?_) (fun h4 => ?_)
    · refine j_iloadn F dX4_isWithin_27 rfl ?_
      refine j_iloadn F dX4_isWithin_28 rfl ?_
      refine j_icne F (tgt := 36) dX4_isWithin_29 (by decide) (fun h29 => ?_) (fun h29 => ?_)
      · exact absurd h4 h29
      · refine j_iconst F (v := 1) dX4_isWithin_32 (by decide) ?_
        refine j_goto F (tgt := 37) dX4_isWithin_33 (by decide) ?_
        exact j_zretR F (b := true) hR dX4_isWithin_37 rfl (congrArg (fun z => Value.int (b1 z)) (show M_isWithin s p0 p1 = true from by rw [hc, h29]; exact M_wit_eq _))
    · refine j_aloadn F dX4_isWithin_7 rfl ?_
      refine gf_X4_56 F (v := .ref (d 19)) dX4_isWithin_8 0 rfl rfl ?_
      refine j_iloadn F dX4_isWithin_11 rfl ?_
      refine j_iald F dX4_isWithin_12 (f := s 19) 14 rfl ha ?_
      refine j_iconst F (v := 4) dX4_isWithin_13 (by decide) ?_
      refine j_icne F (tgt := 27) dX4_isWithin_14 (by decide) (fun h14 => ?_) (fun h14 => ?_)
      · refine j_iloadn F dX4_isWithin_27 rfl ?_
        refine j_iloadn F dX4_isWithin_28 rfl ?_
        refine j_icne F (tgt := 36) dX4_isWithin_29 (by decide) (fun h29 => ?_) (fun h29 => ?_)
        · refine j_iconst F (v := 0) dX4_isWithin_36 (by decide) ?_
          exact j_zretR F (b := false) hR dX4_isWithin_37 rfl (congrArg (fun z => Value.int (b1 z)) (show M_isWithin s p0 p1 = false from by rw [hc]; exact M_wit_stop h29 h14 _))
        · refine j_iconst F (v := 1) dX4_isWithin_32 (by decide) ?_
          refine j_goto F (tgt := 37) dX4_isWithin_33 (by decide) ?_
          exact j_zretR F (b := true) hR dX4_isWithin_37 rfl (congrArg (fun z => Value.int (b1 z)) (show M_isWithin s p0 p1 = true from by rw [hc, h29]; exact M_wit_eq _))
      · refine j_aloadn F dX4_isWithin_17 rfl ?_
        refine gf_X4_74 F (v := .ref (d 25)) dX4_isWithin_18 0 rfl rfl ?_
        refine j_iloadn F dX4_isWithin_21 rfl ?_
        refine j_iald F dX4_isWithin_22 (f := s 25) 20 rfl ha ?_
        refine j_istoren F [some (.ref (d 0)), some (.int p0), some (.int p1), some (.int (s 25 (ix a)))] dX4_isWithin_23 rfl rfl rfl ?_
        refine j_goto F (tgt := 2) dX4_isWithin_24 (by decide) ?_
        exact ih _ (hrk _ (vp_lt ha) h14).1 (by have := (hrk _ (vp_lt ha) h14).2.1; omega) (by rw [hc, M_wit, if_neg h4, if_pos h14])
def M_custLB (s : S2) (p0 : Int32) (i : Nat) (x : Int32) : Int32 := if (M_isWithin s (nI i) p0) = true then x ||| (1 <<< ((s 18 i) &&& 31)) else x
def M_custL (s : S2) (p0 : Int32) : Nat → Int32
  | 0 => 0
  | n + 1 => M_custLB s p0 n (M_custL s p0 n)
theorem M_custL_s (s : S2) (p0 : Int32) (n : Nat) : M_custL s p0 (n + 1) = M_custLB s p0 n (M_custL s p0 n) := rfl
def M_customersOf (s : S2) (p0 : Int32) : Int32 := M_custL s p0 (ix (s 0 14))
set_option maxHeartbeats 4000000 in
set_option maxRecDepth 100000 in
theorem qX4_customersOf (l : Launch) (hst : l.stackTraces = false) (D : va_G) (d : Nat → Nat) (s : S2) (p0 : Int32) (hI : MI s) : CR l D yX4_customersOf cX4_customersOf 4 (some .int) 1 23 (MW D d s) [.ref (d 0), .int p0] (.int (M_customersOf s p0)) := by
  refine CR_of [some (.ref (d 0)), some (.int p0), none, none] hst (by decide +kernel) rfl (Nat.le_of_ble_eq_true rfl) (fun k F hl hD hR => ?_)
  subst hl hD
  have hNT := MI.nT hI
  have eNT := MI.eT hI
  refine j_iconst F (v := 0) dX4_customersOf_0 (by decide) ?_
  refine j_istoren F [some (.ref (d 0)), some (.int p0), some (.int 0), none] dX4_customersOf_1 rfl rfl rfl ?_
  refine j_iconst F (v := 0) dX4_customersOf_2 (by decide) ?_
  refine j_istoren F [some (.ref (d 0)), some (.int p0), some (.int 0), some (.int 0)] dX4_customersOf_3 rfl rfl rfl ?_
  refine (show ∀ (fuel i : Nat) (x : Int32), (ix (s 0 14)) - i < fuel → i ≤ (ix (s 0 14)) → x = M_custL s p0 i →  J k (MW (kD k) d s) 0 0 4 [some (.ref (d 0)), some (.int p0), some (.int x), some (.int (nI i))] [] from ?_) ((ix (s 0 14)) + 1) 0 0 (by omega) (Nat.zero_le _) rfl 
  intro fu4
  induction fu4 with
  | zero => intro i x hm; exact absurd hm (Nat.not_lt_zero _)
  | succ fu4 ih4 =>
    intro i x hm4 hi4 hc_x 
    refine j_iloadn F dX4_customersOf_4 rfl ?_
    refine j_aloadn F dX4_customersOf_5 rfl ?_
    refine gf_X4_87 F (v := .int (nI (ix (s 0 14)))) dX4_customersOf_6 0 rfl (mfi_14 eNT) ?_
    refine j_icgeN F (x := i) (y := (ix (s 0 14))) (tgt := 38) dX4_customersOf_9 (by decide) ⟨by omega, by omega⟩ (fun h9 => ?_) (fun h9 => ?_)
    · obtain rfl : i = (ix (s 0 14)) := by omega
      subst hc_x
      refine j_iloadn F dX4_customersOf_38 rfl ?_
      exact j_iretR F hR dX4_customersOf_39 (congrArg Value.int (show M_customersOf s p0 = M_custL s p0 (ix (s 0 14)) from rfl))
    · refine j_aloadn F dX4_customersOf_12 rfl ?_
      refine j_iloadn F dX4_customersOf_13 rfl ?_
      refine j_iloadn F dX4_customersOf_14 rfl ?_
      refine j_rdV F (qX4_isWithin (kl k) hst (kD k) d s (nI i) p0 hI ((vp_in_nI (Nat.lt_of_lt_of_le h9 hNT) (by decide)))) lk_X4_152 dX4_customersOf_15 ⟨(Nat.le_of_ble_eq_true rfl), (Nat.le_of_ble_eq_true rfl)⟩ (fun _ h => h) 0 rfl rfl rfl (Nat.le_of_ble_eq_true rfl) ⟨(Nat.le_of_ble_eq_true rfl), (Nat.le_of_ble_eq_true rfl)⟩ ?_
      refine j_ifbeq F (tgt := 32) dX4_customersOf_18 (by decide) (fun h18 => ?_) (fun h18 => ?_)
      · refine j_iincN F [some (.ref (d 0)), some (.int p0), some (.int x), some (.int (nI (i + 1)))] dX4_customersOf_32 rfl rfl rfl rfl ?_
        refine j_goto F (tgt := 4) dX4_customersOf_35 (by decide) ?_
        exact ih4 (i + 1) x (by omega) (by omega) (by rw [M_custL_s, ← hc_x, M_custLB, if_neg h18]) 
      · refine j_iloadn F dX4_customersOf_21 rfl ?_
        refine j_iconst F (v := 1) dX4_customersOf_22 (by decide) ?_
        refine j_aloadn F dX4_customersOf_23 rfl ?_
        refine gf_X4_53 F (v := .ref (d 18)) dX4_customersOf_24 0 rfl rfl ?_
        refine j_iloadn F dX4_customersOf_27 rfl ?_
        refine j_ialdN F dX4_customersOf_28 (f := s 18) 13 rfl ⟨(Nat.lt_of_lt_of_le h9 hNT), by decide⟩ ?_
        refine j_ishl F dX4_customersOf_29 ?_
        refine j_ior F dX4_customersOf_30 ?_
        refine j_istoren F [some (.ref (d 0)), some (.int p0), some (.int (x ||| (1 <<< ((s 18 i) &&& 31)))), some (.int (nI i))] dX4_customersOf_31 rfl rfl rfl ?_
        refine j_iincN F [some (.ref (d 0)), some (.int p0), some (.int (x ||| (1 <<< ((s 18 i) &&& 31)))), some (.int (nI (i + 1)))] dX4_customersOf_32 rfl rfl rfl rfl ?_
        refine j_goto F (tgt := 4) dX4_customersOf_35 (by decide) ?_
        exact ih4 (i + 1) (x ||| (1 <<< ((s 18 i) &&& 31))) (by omega) (by omega) (by rw [M_custL_s, ← hc_x, M_custLB, if_pos h18]) 
def M_main (s : S2) (p0 : Int32) : Int32 × S2 := if (M_isTicket (u2 s 0 0 0) p0) = true then (M_mainOf (u2 s 0 0 0) p0, u2 s 0 0 0) else ((M_no (u2 s 0 0 0) 1).1, (M_no (u2 s 0 0 0) 1).2)
set_option maxHeartbeats 4000000 in
set_option maxRecDepth 100000 in
theorem qX4_main (l : Launch) (hst : l.stackTraces = false) (D : va_G) (d : Nat → Nat) (s : S2) (p0 : Int32) (hI : MI s) : CM l D yX4_main cX4_main 2 (some .int) 2 43 0 0 (MW D d s) [.ref (d 0), .int p0] (dP (some (.int ((M_main s p0).1))) (MW D d (M_main s p0).2)) := by
  refine CM_of [some (.ref (d 0)), some (.int p0)] hst (by decide +kernel) rfl (Nat.le_of_ble_eq_true rfl) (fun k F hl hD hin hR => ?_)
  subst hl hD
  refine j_aloadn F dX4_main_0 rfl ?_
  refine j_iconst F (v := 0) dX4_main_1 (by decide) ?_
  refine pf_X4_77 F hR.1 dX4_main_2 rfl rfl 0 rfl (Nat.le_of_ble_eq_true rfl) (MW (kD k) d (u2 s 0 0 0)) (mp_0 _ _ _ _) ?_
  refine j_aloadn F dX4_main_5 rfl ?_
  refine j_iloadn F dX4_main_6 rfl ?_
  refine j_rdV F (qX4_isTicket (kl k) hst (kD k) d (u2 s 0 0 0) p0) lk_X4_137 dX4_main_7 ⟨(Nat.le_of_ble_eq_true rfl), (Nat.le_of_ble_eq_true rfl)⟩ (fun _ h => h) 0 rfl rfl rfl (Nat.le_of_ble_eq_true rfl) ⟨(Nat.le_of_ble_eq_true rfl), (Nat.le_of_ble_eq_true rfl)⟩ ?_
  refine j_ifbeq F (tgt := 21) dX4_main_10 (by decide) (fun h10 => ?_) (fun h10 => ?_)
  · refine j_aloadn F dX4_main_21 rfl ?_
    refine j_iconst F (v := 1) dX4_main_22 (by decide) ?_
    refine j_dmV F hR.1 (qX4_no (kl k) hst (kD k) d (u2 s 0 0 0) 1) lk_X4_90 dX4_main_23 ⟨(Nat.le_of_ble_eq_true rfl), (Nat.le_of_ble_eq_true rfl)⟩ 0 rfl rfl rfl (Nat.le_of_ble_eq_true rfl) ⟨(Nat.le_of_ble_eq_true rfl), (Nat.le_of_ble_eq_true rfl)⟩ rfl ?_
    have hz : M_main s p0 = ((M_no (u2 s 0 0 0) 1).1, (M_no (u2 s 0 0 0) 1).2) := by rw [M_main, if_neg h10]
    exact j_iret F hR dX4_main_26 (Nat.le_of_ble_eq_true rfl) (Nat.le_of_ble_eq_true rfl) ⟨by rw [hz], by rw [hz]⟩
  · refine j_aloadn F dX4_main_13 rfl ?_
    refine j_iloadn F dX4_main_14 rfl ?_
    refine j_rdV F (qX4_mainOf (kl k) hst (kD k) d (u2 s 0 0 0) p0 ((MI_u0 (by decide) hI)) ((M_isTicket_in hI h10))) lk_X4_155 dX4_main_15 ⟨(Nat.le_of_ble_eq_true rfl), (Nat.le_of_ble_eq_true rfl)⟩ (fun _ h => h) 0 rfl rfl rfl (Nat.le_of_ble_eq_true rfl) ⟨(Nat.le_of_ble_eq_true rfl), (Nat.le_of_ble_eq_true rfl)⟩ ?_
    refine j_goto F (tgt := 26) dX4_main_18 (by decide) ?_
    have hz : M_main s p0 = (M_mainOf (u2 s 0 0 0) p0, u2 s 0 0 0) := by rw [M_main, if_pos h10]
    exact j_iret F hR dX4_main_26 (Nat.le_of_ble_eq_true rfl) (Nat.le_of_ble_eq_true rfl) ⟨by rw [hz], by rw [hz]⟩
def M_customers (s : S2) (p0 : Int32) : Int32 × S2 := if (M_isTicket (u2 s 0 0 0) p0) = true then (M_customersOf (u2 s 0 0 0) p0, u2 s 0 0 0) else ((M_no (u2 s 0 0 0) 1).1, (M_no (u2 s 0 0 0) 1).2)
set_option maxHeartbeats 4000000 in
set_option maxRecDepth 100000 in
theorem qX4_customers (l : Launch) (hst : l.stackTraces = false) (D : va_G) (d : Nat → Nat) (s : S2) (p0 : Int32) (hI : MI s) : CM l D yX4_customers cX4_customers 2 (some .int) 2 46 0 0 (MW D d s) [.ref (d 0), .int p0] (dP (some (.int ((M_customers s p0).1))) (MW D d (M_customers s p0).2)) := by
  refine CM_of [some (.ref (d 0)), some (.int p0)] hst (by decide +kernel) rfl (Nat.le_of_ble_eq_true rfl) (fun k F hl hD hin hR => ?_)
  subst hl hD
  refine j_aloadn F dX4_customers_0 rfl ?_
  refine j_iconst F (v := 0) dX4_customers_1 (by decide) ?_
  refine pf_X4_77 F hR.1 dX4_customers_2 rfl rfl 0 rfl (Nat.le_of_ble_eq_true rfl) (MW (kD k) d (u2 s 0 0 0)) (mp_0 _ _ _ _) ?_
  refine j_aloadn F dX4_customers_5 rfl ?_
  refine j_iloadn F dX4_customers_6 rfl ?_
  refine j_rdV F (qX4_isTicket (kl k) hst (kD k) d (u2 s 0 0 0) p0) lk_X4_137 dX4_customers_7 ⟨(Nat.le_of_ble_eq_true rfl), (Nat.le_of_ble_eq_true rfl)⟩ (fun _ h => h) 0 rfl rfl rfl (Nat.le_of_ble_eq_true rfl) ⟨(Nat.le_of_ble_eq_true rfl), (Nat.le_of_ble_eq_true rfl)⟩ ?_
  refine j_ifbeq F (tgt := 21) dX4_customers_10 (by decide) (fun h10 => ?_) (fun h10 => ?_)
  · refine j_aloadn F dX4_customers_21 rfl ?_
    refine j_iconst F (v := 1) dX4_customers_22 (by decide) ?_
    refine j_dmV F hR.1 (qX4_no (kl k) hst (kD k) d (u2 s 0 0 0) 1) lk_X4_90 dX4_customers_23 ⟨(Nat.le_of_ble_eq_true rfl), (Nat.le_of_ble_eq_true rfl)⟩ 0 rfl rfl rfl (Nat.le_of_ble_eq_true rfl) ⟨(Nat.le_of_ble_eq_true rfl), (Nat.le_of_ble_eq_true rfl)⟩ rfl ?_
    have hz : M_customers s p0 = ((M_no (u2 s 0 0 0) 1).1, (M_no (u2 s 0 0 0) 1).2) := by rw [M_customers, if_neg h10]
    exact j_iret F hR dX4_customers_26 (Nat.le_of_ble_eq_true rfl) (Nat.le_of_ble_eq_true rfl) ⟨by rw [hz], by rw [hz]⟩
  · refine j_aloadn F dX4_customers_13 rfl ?_
    refine j_iloadn F dX4_customers_14 rfl ?_
    refine j_rdV F (qX4_customersOf (kl k) hst (kD k) d (u2 s 0 0 0) p0 ((MI_u0 (by decide) hI))) lk_X4_143 dX4_customers_15 ⟨(Nat.le_of_ble_eq_true rfl), (Nat.le_of_ble_eq_true rfl)⟩ (fun _ h => h) 0 rfl rfl rfl (Nat.le_of_ble_eq_true rfl) ⟨(Nat.le_of_ble_eq_true rfl), (Nat.le_of_ble_eq_true rfl)⟩ ?_
    refine j_goto F (tgt := 26) dX4_customers_18 (by decide) ?_
    have hz : M_customers s p0 = (M_customersOf (u2 s 0 0 0) p0, u2 s 0 0 0) := by rw [M_customers, if_pos h10]
    exact j_iret F hR dX4_customers_26 (Nat.le_of_ble_eq_true rfl) (Nat.le_of_ble_eq_true rfl) ⟨by rw [hz], by rw [hz]⟩
