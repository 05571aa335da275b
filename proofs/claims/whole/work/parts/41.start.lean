theorem law_known {p : Program} {s : State} {m : MethodId} {meth : Method} {c : Code} {b L : Nat} {xs : Nat → Int32} (C0 : lw_At p s m meth c b L xs) : ∃ D : va_G, KK D s ∧ ZZ D (fun q : Nat => s.heap.size ≤ q) s s.heap := by
  obtain ⟨hx, hb, hr, hml, hown, hts, hX, hbl, hlocks, hgv⟩ := C0
  have hs := flat_of_before _ hgv
  have hU : ∀ w ∈ Uw, w.before #[Value.ref b] s = true := fun w h => hts w (List.mem_filter.mp h).1
  have hA : ∀ a : Nat, a < s.heap.size → ¬ (fun q : Nat => s.heap.size ≤ q) a := fun a h => Nat.not_le.mpr h
  obtain ⟨c0, i0, k0⟩ := u_known hts inJx4a65c (hU _ uk_Jx4a65c)
  obtain ⟨c1, i1, k1⟩ := u_known hts inX0 (hU _ uk_X0)
  obtain ⟨c2, i2, k2⟩ := u_known hts inX1 (hU _ uk_X1)
  obtain ⟨c3, i3, k3⟩ := u_known hts inX2 (hU _ uk_X2)
  obtain ⟨c4, i4, k4⟩ := u_known hts inX3 (hU _ uk_X3)
  obtain ⟨c5, i5, k5⟩ := u_known hts inX4 (hU _ uk_X4)
  obtain ⟨ca, ka, ma, g1, g2, g3⟩ := Cond.arrayClass_spec (hU _ ua_int)
  obtain ⟨cl, kl9, ml, h1, h2, h3⟩ := Cond.arrayClass_spec (hU _ ua_long)
  have hao : (Cond.arrayOver (.object "java/lang/Object")).before #[Value.ref b] s = true := hts _ (List.mem_of_getElem? (i := 459) (by decide +kernel))
  obtain ⟨mo, co, ko, f1, _, f2, f3, f4⟩ := Cond.arrayOver_spec hao
  obtain ⟨mi, hmi⟩ := va_Mi.of (hs (.isRef (.mirror "[Ljava/lang/Object;")) (by decide +kernel))
  obtain ⟨v, hv, hvr⟩ := Cond.isRef_spec (hs (.isRef (.static "java/util/ArrayList" "DEFAULTCAPACITY_EMPTY_ELEMENTDATA" "[Ljava/lang/Object;")) (by decide +kernel))
  have hlen : (Term.length (.static "java/util/ArrayList" "DEFAULTCAPACITY_EMPTY_ELEMENTDATA" "[Ljava/lang/Object;")).eval #[Value.ref b] s none [] s = some (.int (Int32.ofNat 0)) := by
    have h := hs (.eq (.length (.static "java/util/ArrayList" "DEFAULTCAPACITY_EMPTY_ELEMENTDATA" "[Ljava/lang/Object;")) (.int 0)) (by decide +kernel)
    sorry
  obtain ⟨t, ht, hT⟩ := va_Tof (N := 0) (f := fun _ => .null) (A := fun q : Nat => s.heap.size ≤ q) (by decide) (hs (.arrayOf (.static "java/util/ArrayList" "DEFAULTCAPACITY_EMPTY_ELEMENTDATA" "[Ljava/lang/Object;") (.object "java/lang/Object")) (by decide +kernel)) hlen (fun j hj => absurd hj (Nat.not_lt_zero _)) hA
  refine ⟨(fun k => match k with
    | 0 => c0
    | 1 => c1
    | 2 => c2
    | 3 => c3
    | 4 => c4
    | 5 => c5
    | 100 => ca
    | 101 => co
    | _ => cl, fun k => match k with
    | 0 => i0
    | 1 => i1
    | 2 => i2
    | 3 => i3
    | 4 => i4
    | 5 => i5
    | _ => fun j => if j = 0 then t else mi), ⟨⟨?_, ?_⟩, ?_, ?_, ?_, va_AO.of hao, hmi, ?_, ?_, ?_, ?_⟩, ?_, ?_, ?_, hT⟩
  · intro k q hq
    match k, hq with
    | 0, hq => cases hq; exact k0
    | 1, hq => cases hq; exact k1
    | 2, hq => cases hq; exact k2
    | 3, hq => cases hq; exact k3
    | 4, hq => cases hq; exact k4
    | 5, hq => cases hq; exact k5
    | k + 6, hq => simp [vwCl] at hq
  · intro k q hq
    match k, hq with
    | 0, hq => cases hq; exact ⟨fun n z => ⟨fun k h => (by cases h), ka, g2, ma, g3⟩, g1⟩
    | 1, hq => cases hq; exact ⟨fun n z => ⟨fun k h => (by cases h), ko, f2, mo, f3⟩, ko, mo, f2, f3, f1, f4⟩
    | 2, hq => cases hq; exact ⟨fun n z => ⟨fun k h => (by cases h), kl9, h2, ml, h3⟩, h1⟩
    | k + 3, hq => simp [tysD] at hq
  · exact va_Nw.of rfl (hts _ (List.mem_of_getElem? (i := 209) (by decide +kernel)))
  · exact va_Nw.of rfl (hts _ (List.mem_of_getElem? (i := 348) (by decide +kernel)))
  · have h : ∀ q ∈ cas, Cond.castable q.1 q.2 ∈ lw_tbl := by decide +kernel
    exact fun q hq => va_Nw.of rfl (hts _ (h q hq))
  · exact va_Dc.of (hts _ (List.mem_of_getElem? (i := 1003) (by decide +kernel)))
  · have h : ∀ q ∈ ncs, Cond.not (.castable q.1 q.2) ∈ flat (Jvm.Cond.and given_1 narrow_1) := by decide +kernel
    exact fun q hq => va_Nc.of (hs _ (h q hq))
  · have h : ∀ q ∈ strs, Cond.stringRef RX3 q.1 q.2 ∈ lw_tbl := by decide +kernel
    have h9 : ∀ q ∈ strs, Cond.exactly (.string RX3 q.1) "java/lang/String" ∈ flat (Jvm.Cond.and given_1 narrow_1) := by decide +kernel
    intro q hq
    obtain ⟨a, _, _, _, ha, _⟩ := Cond.exactly_spec (hs _ (h9 q hq))
    exact ⟨a, vk_R.of (hts _ (h q hq)) ha⟩
  · have h : ∀ x ∈ dcl, Cond.declares x ∈ lw_tbl := by decide +kernel
    exact fun x hx => va_Nw.of rfl (hts _ (h x hx))
  · exact vx_Zqof (hts _ (List.mem_of_getElem? (i := 262) (by decide +kernel))) (hts _ (List.mem_of_getElem? (i := 46) (by decide +kernel))) (hs _ (by decide +kernel)) hA
  · exact vx_Zqof (hts _ (List.mem_of_getElem? (i := 264) (by decide +kernel))) (hts _ (List.mem_of_getElem? (i := 46) (by decide +kernel))) (hs _ (by decide +kernel)) hA
  · exact va_Zof (hts _ (List.mem_of_getElem? (i := 96) (by decide +kernel))) (hts _ (List.mem_of_getElem? (i := 44) (by decide +kernel))) ht hA
theorem Rel0 : Rel 0 0 0 C_v0 C_r0 M_s0 := by
  have z4 : vp_in 0 4 := by unfold vp_in; decide +kernel
  have z20 : vp_in 0 20 := by unfold vp_in; decide +kernel
  have hq : ∀ i, i < 4 → 1 ≤ (C_sol0 i).toInt ∧ (C_sol0 i).toInt ≤ 9999 := by decide +kernel
  exact ⟨⟨⟨0, by decide, rfl⟩, ⟨0, by decide, rfl⟩, fun t _ => z4, fun a _ => Or.inr z20, fun _ => 0, fun t _ e => absurd (show (0 : Int32) = 4 from e) (by decide)⟩, rfl, by show vp_in 0 100000; unfold vp_in; decide +kernel, rfl, rfl, by decide +kernel, rfl, by decide, rfl, by decide, fun i hi => ⟨rfl, rfl, hq i hi⟩, fun a ha => absurd ha (Nat.not_lt_zero _), fun a ha => absurd ha (Nat.not_lt_zero _), fun a ha => absurd ha (Nat.not_lt_zero _), fun t _ _ => ⟨rfl, rfl, rfl, rfl⟩, fun a _ _ => ⟨rfl, rfl⟩⟩
