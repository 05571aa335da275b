theorem law_known {p : Program} {s : State} {m : MethodId} {meth : Method} {c : Code} {b L : Nat} {xs : Nat → Int32} (C0 : lw_At p s m meth c b L xs) : ∃ D : va_G, KK D s ∧ ZZ D (fun q : Nat => s.heap.size ≤ q) s s.heap := by
  obtain ⟨hx, hb, hr, hml, hown, hts, hX, hbl, hlocks, hgv⟩ := C0
  have hs := flat_of_before _ hgv
  have hU : ∀ w ∈ Uw, w.before #[Value.ref b] s = true := fun w h => hts w (List.mem_filter.mp h).1
  have hA : ∀ a : Nat, a < s.heap.size → ¬ (fun q : Nat => s.heap.size ≤ q) a := fun a h => Nat.not_le.mpr h
  obtain ⟨c0, i0, k0⟩ := u_known hts inJx4a65c (hU _ uk_Jx4a65c)
  obtain ⟨c1, i1, k1⟩ := u_known hts inX0 (hU _ uk_X0)
  obtain ⟨c2, i2, k2⟩ := u_known hts inX1 (hU _ uk_X1)
  obtain ⟨c3, i3, k3⟩ := u_known hts inX2 (hU _ uk_X2)
  obtain ⟨c4, i4, k4⟩ := u_known hts inX3 (hU _ uk_X3)
  obtain ⟨ca, ka, ma, g1, g2, g3⟩ := Cond.arrayClass_spec (hU _ ua_int)
  have hao : (Cond.arrayOver (.object "java/lang/Object")).before #[Value.ref b] s = true := hts _ (List.mem_of_getElem? (i := 491) (by decide +kernel))
  obtain ⟨mo, co, ko, f1, _, f2, f3, f4⟩ := Cond.arrayOver_spec hao
  obtain ⟨mi, hmi⟩ := va_Mi.of (hs (.isRef (.mirror "[Ljava/lang/Object;")) (by decide +kernel))
  obtain ⟨v, hv, hvr⟩ := Cond.isRef_spec (hs (.isRef (.static "java/util/ArrayList" "DEFAULTCAPACITY_EMPTY_ELEMENTDATA" "[Ljava/lang/Object;")) (by decide +kernel))
  have hlen : (Term.length (.static "java/util/ArrayList" "DEFAULTCAPACITY_EMPTY_ELEMENTDATA" "[Ljava/lang/Object;")).eval #[Value.ref b] s none [] s = some (.int (Int32.ofNat 0)) := by
    have h := hs (.eq (.length (.static "java/util/ArrayList" "DEFAULTCAPACITY_EMPTY_ELEMENTDATA" "[Ljava/lang/Object;")) (.int 0)) (by decide +kernel)
    cases e : (Term.length (.static "java/util/ArrayList" "DEFAULTCAPACITY_EMPTY_ELEMENTDATA" "[Ljava/lang/Object;")).eval #[Value.ref b] s none [] s with
    | none => simp [Cond.before, Cond.holds, Cond.value, e] at h
    | some w =>
      obtain ⟨_, cell, _, _, hv2⟩ := Term.length_spec e
      rw [hv2] at e ⊢
      have q := Cond.eq_ints e (show (Term.int 0).eval #[Value.ref b] s none [] s = some (.int 0) from rfl)
      simp [Cond.before, Cond.holds, q] at h
      rw [h]
      rfl
  obtain ⟨t, ht, hT⟩ := va_Tof (N := 0) (f := fun _ => .null) (A := fun q : Nat => s.heap.size ≤ q) (by decide) (hs (.arrayOf (.static "java/util/ArrayList" "DEFAULTCAPACITY_EMPTY_ELEMENTDATA" "[Ljava/lang/Object;") (.object "java/lang/Object")) (by decide +kernel)) hlen (fun j hj => absurd hj (Nat.not_lt_zero _)) hA
  refine ⟨(fun k => match k with
    | 0 => c0
    | 1 => c1
    | 2 => c2
    | 3 => c3
    | 4 => c4
    | 100 => ca
    | _ => co, fun k => match k with
    | 0 => i0
    | 1 => i1
    | 2 => i2
    | 3 => i3
    | 4 => i4
    | _ => fun j => if j = 0 then t else mi), ⟨⟨?_, ?_⟩, ?_, ?_, ?_, va_AO.of hao, hmi, ?_, ?_, ?_, ?_⟩, ?_, ?_, ?_, hT⟩
  · intro k q hq
    match k, hq with
    | 0, hq => cases hq; exact k0
    | 1, hq => cases hq; exact k1
    | 2, hq => cases hq; exact k2
    | 3, hq => cases hq; exact k3
    | 4, hq => cases hq; exact k4
    | k + 5, hq => simp [vwCl] at hq
  · intro k q hq
    match k, hq with
    | 0, hq => cases hq; exact ⟨fun n z => ⟨fun k h => (by cases h), ka, g2, ma, g3⟩, g1⟩
    | 1, hq => cases hq; exact ⟨fun n z => ⟨fun k h => (by cases h), ko, f2, mo, f3⟩, ko, mo, f2, f3, f1, f4⟩
    | k + 2, hq => simp [tysD] at hq
  · exact va_Nw.of rfl (hts _ (List.mem_of_getElem? (i := 255) (by decide +kernel)))
  · exact va_Nw.of rfl (hts _ (List.mem_of_getElem? (i := 191) (by decide +kernel)))
  · have h : ∀ q ∈ cas, Cond.castable q.1 q.2 ∈ lw_tbl := by decide +kernel
    exact fun q hq => va_Nw.of rfl (hts _ (h q hq))
  · exact va_Dc.of (hts _ (List.mem_of_getElem? (i := 579) (by decide +kernel)))
  · have h : ∀ q ∈ ncs, Cond.not (.castable q.1 q.2) ∈ flatC (Jvm.Cond.and given_1 narrow_1) := by decide +kernel
    exact fun q hq => va_Nc.of (hs _ (h q hq))
  · have h : ∀ q ∈ strs, Cond.stringRef RX3 q.1 q.2 ∈ lw_tbl := by decide +kernel
    have h9 : ∀ q ∈ strs, Cond.exactly (.string RX3 q.1) "java/lang/String" ∈ flatC (Jvm.Cond.and given_1 narrow_1) := by decide +kernel
    intro q hq
    obtain ⟨a, _, _, _, ha, _⟩ := Cond.exactly_spec (hs _ (h9 q hq))
    exact ⟨a, vk_R.of (hts _ (h q hq)) ha⟩
  · have h : ∀ x ∈ dcl, Cond.declares x ∈ lw_tbl := by decide +kernel
    exact fun x hx => va_Nw.of rfl (hts _ (h x hx))
  · exact vx_Zqof (hts _ (List.mem_of_getElem? (i := 142) (by decide +kernel))) (hts _ (List.mem_of_getElem? (i := 23) (by decide +kernel))) (hs _ (by decide +kernel)) hA
  · exact vx_Zqof (hts _ (List.mem_of_getElem? (i := 144) (by decide +kernel))) (hts _ (List.mem_of_getElem? (i := 23) (by decide +kernel))) (hs _ (by decide +kernel)) hA
  · exact va_Zof (hts _ (List.mem_of_getElem? (i := 73) (by decide +kernel))) (hts _ (List.mem_of_getElem? (i := 22) (by decide +kernel))) ht hA
set_option maxRecDepth 100000 in
set_option maxHeartbeats 4000000 in
theorem law_start {k : Kx} (F : Fx k code RL room_1 16) (hw : kw k = true) (hst : (kl k).stackTraces = false) {b Ls : Nat} {xs : Nat → Int32} (hX : va_X b Ls xs (ks k) (ks k).heap) (hbl : b < (ks k).heap.size) (hbA : ¬ kA k b) (hL : Ls ≤ 260) (hret : ∀ (ws : va_W) (c n : Nat) (lv : List (Option Value)), c ≤ 600104 → n ≤ 7301314 → J k ws c n 562 lv [.int 1]) : J k [] 0 0 0 [some (.ref b), none, none, none, none, none, none, none, none, none, none, none, none, none, none, none] [] := by
  refine j_new F hw tyX3 inU_X3 tyX3_ok ul_L_20 uk_X3 ui_X3 (ci := 4) rfl (fs := [.null, .null, .null, .null, .null, .int 0]) (by decide +kernel) dL_law_0 ⟨(Nat.le_of_ble_eq_true rfl), (Nat.le_of_ble_eq_true rfl)⟩ (fun a => ?_)
  refine j_dup F dL_law_3 rfl ?_
  refine j_ws ([(a, .inr (4, [.null, .null, .null, .null, .null, .int 0]))] ++ []) rfl ?_
  refine j_cmI F hw (qX3_init (kl k) hst (kD k) a) lk_L_53 dL_law_4 ⟨(Nat.le_of_ble_eq_true rfl), (Nat.le_of_ble_eq_true rfl)⟩ rfl (Nat.le_of_ble_eq_true rfl) ⟨(Nat.le_of_ble_eq_true rfl), (Nat.le_of_ble_eq_true rfl)⟩ (fun u w1 hp => ?_)
  obtain ⟨rfl, h9, an, so, la, lt, rfl⟩ := hp
  refine j_st [.ref a] rfl ?_
  refine j_astoren F [some (.ref b), some (.ref a), none, none, none, none, none, none, none, none, none, none, none, none, none, none] dL_law_7 rfl rfl rfl ?_
  refine j_aloadn F dL_law_8 rfl ?_
  refine j_aloadn F dL_law_9 rfl ?_
  refine j_iconst F (v := 0) dL_law_10 (by decide) ?_
  refine j_bipush F (v := 14) dL_law_11 (by decide) ?_
  refine j_cmX F hw hX hbl hbA (qL_build (kl k) hst (kD k) (C_g0 (kD k) a h9 an so la lt) C_v0 C_r0 b Ls xs hL (C_g0_GI (kD k) a h9 an so la lt) (C_g0_CI (kD k) a h9 an so la lt) rfl rfl rfl rfl (fun q _ => rfl)) lk_L_54 dL_law_13 ⟨(Nat.le_of_ble_eq_true rfl), (Nat.le_of_ble_eq_true rfl)⟩ rfl (Nat.le_of_ble_eq_true rfl) ⟨(Nat.le_of_ble_eq_true rfl), (Nat.le_of_ble_eq_true rfl)⟩ (fun u w1 hp => ?_)
  obtain ⟨dd, g, G', v', r', o, c, rfl, rfl, e00, hG, hC, hB, n1, n2, n3, n4, g3, g4, z0, z1, z2, hoc, hc⟩ := hp
  refine j_ws (ain (kD k) dd 350 g :: CW (kD k) G' v' r') (List.append_nil _) ?_
  refine j_st [.ref dd] rfl ?_
  refine j_astoren F [some (.ref b), some (.ref a), some (.ref dd), none, none, none, none, none, none, none, none, none, none, none, none, none] dL_law_16 rfl rfl rfl ?_
  refine j_aloadn F dL_law_17 rfl ?_
  refine j_ifnonnull F (tgt := 23) dL_law_18 (by decide) ?_
  refine j_iconst F (v := 0) dL_law_23 (by decide) ?_
  refine j_istoren F [some (.ref b), some (.ref a), some (.ref dd), some (.int 0), none, none, none, none, none, none, none, none, none, none, none, none] dL_law_24 rfl rfl rfl ?_
  refine j_iconst F (v := 0) dL_law_25 (by decide) ?_
  refine j_istore F [some (.ref b), some (.ref a), some (.ref dd), some (.int 0), some (.int 0), none, none, none, none, none, none, none, none, none, none, none] dL_law_26 rfl rfl rfl ?_
  have e0 : a = G'.1 0 0 := e00.symm
  rw [e0]
  exact law_M F hw hst hX hbl hbA hL hG n2 n3 n4 g3 g4 hoc hc hret 31 0 0 _ _ 0 v' v' r' none none none none none none none none none none none (by decide) (by decide) (by decide) (Nat.le_of_ble_eq_true rfl) (Nat.le_of_ble_eq_true rfl) (hB.iv.mono (by omega) (by omega) (by omega)) hC hB.gk z0 z1 z2
theorem whole_start {p : Program} {e : Env} {s : State} {m : MethodId} {below : List Frame} {meth : Method} {c : Code} (l : Launch) (hflags : l.flags = flags0) {b L : Nat} {xs : Nat → Int32} (hL : L ≤ 260) (C0 : lw_At p s m meth c b L xs) : W p l e room_1 s m #[Value.ref b] below meth c s.heap [] 0 0 (lw_Z below #[Value.ref b] s) (entryFrame m ([Value.ref b] : List Value).toArray 16) := by
  obtain ⟨hx, hb, hr, hml, hown, hts, hX, hbl, hlocks, hgv⟩ := id C0
  obtain ⟨D, hKK, hZZ⟩ := law_known C0
  have hst : l.stackTraces = false := by
    unfold Launch.stackTraces
    rw [hflags]
    decide +kernel
  have hU : ∀ w ∈ Uw, w.before #[Value.ref b] s = true := fun w h => hts w (List.mem_filter.mp h).1
  have F : Fx (mkK p l e room_1 s m #[Value.ref b] below meth c (lw_Z below #[Value.ref b] s) D (fun q : Nat => s.heap.size ≤ q) true 16) code RL room_1 16 :=
    ⟨hx, hb, hml, rfl, rfl, hown, hU, hKK, fun q h _ => h, fun _ => hZZ, hst, hlocks⟩
  obtain ⟨ls, e1, e2⟩ := entry_eqL (m := m) (as := [Value.ref b]) (n := 16) (lv := [some (.ref b), none, none, none, none, none, none, none, none, none, none, none, none, none, none, none]) rfl (Nat.le_of_ble_eq_true rfl)
  rw [e1]
  refine law_start F rfl hst hX hbl (Nat.not_le.mpr hbl) hL (fun ws c1 n1 lv h1 h2 H locs ls1 hP hL1 => ?_) s.heap [] ls ⟨fun i q hq => (by simp at hq), fun _ => ⟨fun i j p q hp => (by simp at hp), fun i q hq => (by simp at hq)⟩, va_S.rf, fun h => (by cases h)⟩ e2
  exact W.widen h1 h2 (va_forget (fun q hq => hP.2.2.1.2.2 q hq) (lw_ret hx hb hr hlocks dL_law_562))
