theorem law_known {p : Program} {s : State} {m : MethodId} {meth : Method} {c : Code} {b L : Nat} {xs : Nat → Int32} (C0 : lw_At p s m meth c b L xs) : ∃ D : va_G, KK D s ∧ ZZ D (fun q : Nat => s.heap.size ≤ q) s s.heap := by
  obtain ⟨hx, hb, hr, hml, hown, hts, hX, hbl, hlocks, hgv⟩ := C0
  have hs := flat_of_before _ hgv
  have hU : ∀ w ∈ Uw, w.before #[Value.ref b] s = true := fun w h => hts w (List.mem_filter.mp h).1
  have hA : ∀ a : Nat, a < s.heap.size → ¬ (fun q : Nat => s.heap.size ≤ q) a := fun a h => Nat.not_le.mpr h
  obtain ⟨c0, i0, k0⟩ := u_known hts inJx4a65c (hU _ uk_Jx4a65c)
  obtain ⟨c1, i1, k1⟩ := u_known hts inX0 (hU _ uk_X0)
  obtain ⟨c2, i2, k2⟩ := u_known hts inX1 (hU _ uk_X1)
  obtain ⟨c3, i3, k3⟩ := u_known hts inX2 (hU _ uk_X2)
  obtain ⟨c4, i4, k4⟩ := u_known hts inX3 (hU _ uk_X3)
  obtain ⟨c5, i5, k5⟩ := u_known hts inX4 (hU _ uk_X4)
  obtain ⟨ca, ka, ma, g1, g2, g3⟩ := Cond.arrayClass_spec (hU _ ua_int)
  obtain ⟨cl, kl9, ml, h1, h2, h3⟩ := Cond.arrayClass_spec (hU _ ua_long)
  have hao : (Cond.arrayOver (.object "java/lang/Object")).before #[Value.ref b] s = true := hts _ (List.mem_of_getElem? (i := 459) (by decide +kernel))
  obtain ⟨mo, co, ko, f1, _, f2, f3, f4⟩ := Cond.arrayOver_spec hao
  obtain ⟨mi, hmi⟩ := va_Mi.of (hs (.isRef (.mirror "[Ljava/lang/Object;")) (by decide +kernel))
  obtain ⟨v, hv, hvr⟩ := Cond.isRef_spec (hs (.isRef (.static "java/util/ArrayList" "DEFAULTCAPACITY_EMPTY_ELEMENTDATA" "[Ljava/lang/Object;")) (by decide +kernel))
  have hlen : (Term.length (.static "java/util/ArrayList" "DEFAULTCAPACITY_EMPTY_ELEMENTDATA" "[Ljava/lang/Object;")).eval #[Value.ref b] s none [] s = some (.int (Int32.ofNat 0)) := by
    have h := hs (.eq (.length (.static "java/util/ArrayList" "DEFAULTCAPACITY_EMPTY_ELEMENTDATA" "[Ljava/lang/Object;")) (.int 0)) (by decide +kernel)
    cases e : (Term.length (.static "java/util/ArrayList" "DEFAULTCAPACITY_EMPTY_ELEMENTDATA" "[Ljava/lang/Object;")).eval #[Value.ref b] s none [] s with
    | none => simp [Cond.before, Cond.holds, Cond.value, e] at h
    | some w =>
      obtain ⟨_, cell, _, _, hv2⟩ := Term.length_spec e
      rw [hv2] at e ⊢
      have q := Cond.eq_ints e (show (Term.int 0).eval #[Value.ref b] s none [] s = some (.int 0) from rfl)
      simp [Cond.before, Cond.holds, q] at h
      rw [h]
      rfl
  obtain ⟨t, ht, hT⟩ := va_Tof (N := 0) (f := fun _ => .null) (A := fun q : Nat => s.heap.size ≤ q) (by decide) (hs (.arrayOf (.static "java/util/ArrayList" "DEFAULTCAPACITY_EMPTY_ELEMENTDATA" "[Ljava/lang/Object;") (.object "java/lang/Object")) (by decide +kernel)) hlen (fun j hj => absurd hj (Nat.not_lt_zero _)) hA
  refine ⟨(fun k => match k with
    | 0 => c0
    | 1 => c1
    | 2 => c2
    | 3 => c3
    | 4 => c4
    | 5 => c5
    | 100 => ca
    | 101 => co
    | _ => cl, fun k => match k with
    | 0 => i0
    | 1 => i1
    | 2 => i2
    | 3 => i3
    | 4 => i4
    | 5 => i5
    | _ => fun j => if j = 0 then t else mi), ⟨⟨?_, ?_⟩, ?_, ?_, ?_, va_AO.of hao, hmi, ?_, ?_, ?_, ?_⟩, ?_, ?_, ?_, hT⟩
  · intro k q hq
    match k, hq with
    | 0, hq => cases hq; exact k0
    | 1, hq => cases hq; exact k1
    | 2, hq => cases hq; exact k2
    | 3, hq => cases hq; exact k3
    | 4, hq => cases hq; exact k4
    | 5, hq => cases hq; exact k5
    | k + 6, hq => simp [vwCl] at hq
  · intro k q hq
    match k, hq with
    | 0, hq => cases hq; exact ⟨fun n z => ⟨fun k h => (by cases h), ka, g2, ma, g3⟩, g1⟩
    | 1, hq => cases hq; exact ⟨fun n z => ⟨fun k h => (by cases h), ko, f2, mo, f3⟩, ko, mo, f2, f3, f1, f4⟩
    | 2, hq => cases hq; exact ⟨fun n z => ⟨fun k h => (by cases h), kl9, h2, ml, h3⟩, h1⟩
    | k + 3, hq => simp [tysD] at hq
  · exact va_Nw.of rfl (hts _ (List.mem_of_getElem? (i := 209) (by decide +kernel)))
  · exact va_Nw.of rfl (hts _ (List.mem_of_getElem? (i := 348) (by decide +kernel)))
  · have h : ∀ q ∈ cas, Cond.castable q.1 q.2 ∈ lw_tbl := by decide +kernel
    exact fun q hq => va_Nw.of rfl (hts _ (h q hq))
  · exact va_Dc.of (hts _ (List.mem_of_getElem? (i := 1003) (by decide +kernel)))
  · have h : ∀ q ∈ ncs, Cond.not (.castable q.1 q.2) ∈ flatC (Jvm.Cond.and given_1 narrow_1) := by decide +kernel
    exact fun q hq => va_Nc.of (hs _ (h q hq))
  · have h : ∀ q ∈ strs, Cond.stringRef RX3 q.1 q.2 ∈ lw_tbl := by decide +kernel
    have h9 : ∀ q ∈ strs, Cond.exactly (.string RX3 q.1) "java/lang/String" ∈ flatC (Jvm.Cond.and given_1 narrow_1) := by decide +kernel
    intro q hq
    obtain ⟨a, _, _, _, ha, _⟩ := Cond.exactly_spec (hs _ (h9 q hq))
    exact ⟨a, vk_R.of (hts _ (h q hq)) ha⟩
  · have h : ∀ x ∈ dcl, Cond.declares x ∈ lw_tbl := by decide +kernel
    exact fun x hx => va_Nw.of rfl (hts _ (h x hx))
  · exact vx_Zqof (hts _ (List.mem_of_getElem? (i := 262) (by decide +kernel))) (hts _ (List.mem_of_getElem? (i := 46) (by decide +kernel))) (hs _ (by decide +kernel)) hA
  · exact vx_Zqof (hts _ (List.mem_of_getElem? (i := 264) (by decide +kernel))) (hts _ (List.mem_of_getElem? (i := 46) (by decide +kernel))) (hs _ (by decide +kernel)) hA
  · exact va_Zof (hts _ (List.mem_of_getElem? (i := 96) (by decide +kernel))) (hts _ (List.mem_of_getElem? (i := 44) (by decide +kernel))) ht hA
theorem Rel0 : Rel 0 0 0 C_v0 C_r0 M_s0 := by
  have z4 : vp_in 0 4 := by unfold vp_in; decide +kernel
  have z20 : vp_in 0 20 := by unfold vp_in; decide +kernel
  have hq : ∀ i, i < 4 → 1 ≤ (C_sol0 i).toInt ∧ (C_sol0 i).toInt ≤ 9999 := by decide +kernel
  exact ⟨⟨⟨0, by decide, rfl⟩, ⟨0, by decide, rfl⟩, fun t _ => z4, fun a _ => Or.inr z20, fun _ => 0, fun t _ e => absurd (show (0 : Int32) = 4 from e) (by decide)⟩, rfl, by show vp_in 0 100000; unfold vp_in; decide +kernel, rfl, rfl, by decide +kernel, rfl, by decide, rfl, by decide, fun i hi => ⟨rfl, rfl, hq i hi⟩, fun a ha => absurd ha (Nat.not_lt_zero _), fun a ha => absurd ha (Nat.not_lt_zero _), fun a ha => absurd ha (Nat.not_lt_zero _), fun t _ _ => ⟨rfl, rfl, rfl, rfl⟩, fun a _ _ => ⟨rfl, rfl⟩⟩
theorem j_newl {k : Kx} {cc : ByteArray} {own : String} {R : Room} {nL : Nat} {ws : va_W} {c n pc : Nat} {lv : List (Option Value)} {st : List Value} (F : Fx k cc own R nL) (hw : kw k = true) {N : Nat} {x : Int32} (hx : x = nI N) (hN : N ≤ 1000) (hd : decode cc pc = .ok (.newarray .long, 2)) (hc1 : c + 1 ≤ R.cells) (hn1 : n + N ≤ R.slots) (K : ∀ q, J k (ws ++ [(q, .inl ((kD k).1 102, N, .inr (.inl fun _ => 0)))]) (c + 1) (n + N) (pc + 2) lv (.ref q :: st)) : J k ws c n pc lv (.int x :: st) := fun H locs ls hP hL => by
  subst hx
  refine va_newa (atype := .long) F.hx F.hb (F.hts ua_long) rfl F.hK.1 hP.1 (hP.2.1 hw) hP.2.2.1 (F.hA hw) (a0 := (N, .inr (.inl fun _ => 0))) (fun _ => rfl) (nI_pos2 hN) (ix_nI (by omega)) (by show N * 8 ≤ _; omega) (by rw [F.hR]; exact hc1) (by rw [F.hR]; exact hn1) hd (fun q cA H1 h0 h1 h2 h3 => ?_)
  have a1 : (ks k).vm.findClass "[J" = some cA := (h0.2 3 _ rfl).2
  have a2 : (ks k).vm.findClass "[J" = some ((kD k).1 102) := (F.hK.1.2 2 _ rfl).2
  have e : cA = (kD k).1 102 := Option.some.inj (a1.symm.trans a2)
  subst e
  exact K q H1 locs ls (hP.put hw h1 h2 h3) hL
set_option maxRecDepth 100000 in
set_option maxHeartbeats 4000000 in
theorem law_start {k : Kx} (F : Fx k code RL room_1 9) (hw : kw k = true) (hst : (kl k).stackTraces = false) {b Ls : Nat} {xs : Nat → Int32} (hX : va_X b Ls xs (ks k) (ks k).heap) (hbl : b < (ks k).heap.size) (hbA : ¬ kA k b) (hLs : Ls ≤ 2560) (hret : ∀ (ws : va_W) (c n : Nat) (lv : List (Option Value)), c ≤ 601024 → n ≤ 7293034 → J k ws c n 1557 lv [.int 1]) : J k [] 0 0 0 [some (.ref b), none, none, none, none, none, none, none, none] [] := by
  refine j_new F hw tyX3 inU_X3 tyX3_ok ul_L_8 uk_X3 ui_X3 (ci := 4) rfl (fs := [.null, .null, .null, .null, .null, .int 0]) (by decide +kernel) dL_law_0 ⟨(Nat.le_of_ble_eq_true rfl), (Nat.le_of_ble_eq_true rfl)⟩ (fun a => ?_)
  refine j_dup F dL_law_3 rfl ?_
  refine j_ws ([(a, .inr (4, [.null, .null, .null, .null, .null, .int 0]))] ++ []) rfl ?_
  refine j_cmI F hw (qX3_init (kl k) hst (kD k) a) lk_L_77 dL_law_4 ⟨(Nat.le_of_ble_eq_true rfl), (Nat.le_of_ble_eq_true rfl)⟩ rfl (Nat.le_of_ble_eq_true rfl) ⟨(Nat.le_of_ble_eq_true rfl), (Nat.le_of_ble_eq_true rfl)⟩ (fun u w1 hp => ?_)
  obtain ⟨rfl, h9, an, so, la, lt, rfl⟩ := hp
  rw [List.append_nil]
  refine j_st [.ref a] rfl ?_
  refine j_astoren F [some (.ref b), some (.ref a), none, none, none, none, none, none, none] dL_law_7 rfl rfl rfl ?_
  refine j_new F hw tyX4 inU_X4 tyX4_ok ul_L_78 uk_X4 ui_X4 (ci := 5) rfl (fs := [.int 0, .int 0, .int 0, .int 0, .null, .null, .int 0, .null, .null, .null, .null, .null, .null, .null, .int 0, .null, .null, .null, .null, .null, .null, .null, .null, .null, .null, .null]) (by decide +kernel) dL_law_8 ⟨(Nat.le_of_ble_eq_true rfl), (Nat.le_of_ble_eq_true rfl)⟩ (fun a2 => ?_)
  refine j_dup F dL_law_11 rfl ?_
  refine j_perm _ List.perm_append_comm ?_
  refine j_cmI F hw (qX4_init (kl k) hst (kD k) a2) lk_L_80 dL_law_12 ⟨(Nat.le_of_ble_eq_true rfl), (Nat.le_of_ble_eq_true rfl)⟩ rfl (Nat.le_of_ble_eq_true rfl) ⟨(Nat.le_of_ble_eq_true rfl), (Nat.le_of_ble_eq_true rfl)⟩ (fun u w1 hp => ?_)
  obtain ⟨rfl, d, hd0, rfl⟩ := hp
  refine j_st [.ref a2] rfl ?_
  refine j_astoren F [some (.ref b), some (.ref a), some (.ref a2), none, none, none, none, none, none] dL_law_15 rfl rfl rfl ?_
  refine j_iconst F (v := 1) dL_law_16 (by decide) ?_
  refine j_newl F hw (N := 1) (by decide) (by decide) dL_law_17 (Nat.le_of_ble_eq_true rfl) (Nat.le_of_ble_eq_true rfl) (fun o => ?_)
  refine j_astoren F [some (.ref b), some (.ref a), some (.ref a2), some (.ref o), none, none, none, none, none] dL_law_19 rfl rfl rfl ?_
  refine j_iconst F (v := 0) dL_law_20 (by decide) ?_
  refine j_istore F [some (.ref b), some (.ref a), some (.ref a2), some (.ref o), some (.int 0), none, none, none, none] dL_law_21 rfl rfl rfl ?_
  refine j_ws (MW (kD k) d M_s0 ++ (CW (kD k) (C_g0 (kD k) a h9 an so la lt) C_v0 C_r0 ++ [lng (kD k) o (fun _ => 0)])) (List.append_assoc _ _ _) ?_
  subst hd0
  exact law_loop F hw hst hX hbl hbA hLs (a0 := a) hret 3000 0 (C_g0 (kD k) a h9 an so la lt) C_v0 C_r0 M_s0 (fun _ => 0) _ _ none none none none (by omega) (by omega) (Nat.le_of_ble_eq_true rfl) (Nat.le_of_ble_eq_true rfl) (C_g0_GI (kD k) a h9 an so la lt) rfl Rel0
theorem whole_start {p : Program} {e : Env} {s : State} {m : MethodId} {below : List Frame} {meth : Method} {c : Code} (l : Launch) (hflags : l.flags = flags0) {b L : Nat} {xs : Nat → Int32} (hL : L ≤ 2560) (C0 : lw_At p s m meth c b L xs) : W p l e room_1 s m #[Value.ref b] below meth c s.heap [] 0 0 (lw_Z below #[Value.ref b] s) (entryFrame m ([Value.ref b] : List Value).toArray 9) := by
  obtain ⟨hx, hb, hr, hml, hown, hts, hX, hbl, hlocks, hgv⟩ := id C0
  obtain ⟨D, hKK, hZZ⟩ := law_known C0
  have hst : l.stackTraces = false := by
    unfold Launch.stackTraces
    rw [hflags]
    decide +kernel
  have hU : ∀ w ∈ Uw, w.before #[Value.ref b] s = true := fun w h => hts w (List.mem_filter.mp h).1
  have F : Fx (mkK p l e room_1 s m #[Value.ref b] below meth c (lw_Z below #[Value.ref b] s) D (fun q : Nat => s.heap.size ≤ q) true 9) code RL room_1 9 :=
    ⟨hx, hb, hml, rfl, rfl, hown, hU, hKK, fun q h _ => h, fun _ => hZZ, hst, hlocks⟩
  obtain ⟨ls, e1, e2⟩ := entry_eqL (m := m) (as := [Value.ref b]) (n := 9) (lv := [some (.ref b), none, none, none, none, none, none, none, none]) rfl (Nat.le_of_ble_eq_true rfl)
  rw [e1]
  refine law_start F rfl hst hX hbl (Nat.not_le.mpr hbl) hL (fun ws c1 n1 lv h1 h2 H locs ls1 hP hL1 => ?_) s.heap [] ls ⟨fun i q hq => (by simp at hq), fun _ => ⟨fun i j p q hp => (by simp at hp), fun i q hq => (by simp at hq)⟩, va_S.rf, fun h => (by cases h)⟩ e2
  exact W.widen h1 h2 (va_forget (fun q hq => hP.2.2.1.2.2 q hq) (lw_ret (d0 := s.drawn) (Drawn.sameBut.refl s.drawn lw_cs) hx hb hr hlocks dL_law_1557))
