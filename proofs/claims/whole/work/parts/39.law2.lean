/-! the cases that refuse nothing; the loop -/
set_option maxRecDepth 100000 in
set_option maxHeartbeats 4000000 in
theorem case_2 {k : Kx} (F : Fx k code RL room_1 9) (hw : kw k = true) (hst : (kl k).stackTraces = false) {b o i Ls c n N : Nat} {xs : Nat → Int32} (hX : va_X b Ls xs (ks k) (ks k).heap) (hbl : b < (ks k).heap.size) (hbA : ¬ kA k b) (hi : i + 5 ≤ Ls) (hLs : Ls ≤ 2560) (hc : c ≤ 600000) (hn : n ≤ 7000000) (hN : N ≤ 1000) {G : CG} {v : S2} {r : R2} {s : S2} {d : Nat → Nat} {f : Nat → Int64} {x5 x6 x7 x8 : Option Value} (hG : GI (kD k) G) (hr : Rel N (nA G) (nT G) v r s) (K : LEnd k G d o b i N c n) : J k ((CW (kD k) G v r ++ [lng (kD k) o f]) ++ MW (kD k) d s) c n 307 [some (.ref b), some (.ref (G.1 0 0)), some (.ref (d 0)), some (.ref o), some (.int (nI i)), x5, x6, x7, x8] [] := by
  refine j_aloadn F dL_law_307 rfl ?_
  refine j_rdV F (qX3_now (kl k) hst (kD k) G v r) lk_L_95 dL_law_308 ⟨(Nat.le_of_ble_eq_true rfl), (Nat.le_of_ble_eq_true rfl)⟩ (fun q hq => List.mem_append_left _ (List.mem_append_left _ hq)) 0 rfl rfl rfl (Nat.le_of_ble_eq_true rfl) ⟨by show c ≤ 601024; omega, by show n ≤ 7293034; omega⟩ ?_
  refine j_aloadn F dL_law_311 rfl ?_
  refine j_perm (MW (kD k) d s ++ (CW (kD k) G v r ++ [lng (kD k) o f])) List.perm_append_comm ?_
  refine j_cmV F hw (qX4_now (kl k) hst (kD k) d s) lk_L_98 dL_law_312 ⟨(Nat.le_of_ble_eq_true rfl), (Nat.le_of_ble_eq_true rfl)⟩ 0 rfl rfl rfl (Nat.le_of_ble_eq_true rfl) ⟨by show c + 0 ≤ 601024; omega, by show n + 0 ≤ 7293034; omega⟩ (fun u w1 hp => ?_)
  obtain ⟨rfl, rfl⟩ := hp
  refine j_iceq F (tgt := 1550) dL_law_315 (by decide) (fun _ => ?_) (fun z => absurd (show C_now (nA G) (nT G) v r = (M_now s).1 from hr.min.symm) z)
  exact K G _ _ _ _ _ _ _ _ _ _ hG (fun _ => rfl) (hr.thr 0).mono (by omega) (by omega)
set_option maxRecDepth 100000 in
set_option maxHeartbeats 4000000 in
theorem case_14 {k : Kx} (F : Fx k code RL room_1 9) (hw : kw k = true) (hst : (kl k).stackTraces = false) {b o i Ls c n N : Nat} {xs : Nat → Int32} (hX : va_X b Ls xs (ks k) (ks k).heap) (hbl : b < (ks k).heap.size) (hbA : ¬ kA k b) (hi : i + 5 ≤ Ls) (hLs : Ls ≤ 2560) (hc : c ≤ 600000) (hn : n ≤ 7000000) (hN : N ≤ 1000) {G : CG} {v : S2} {r : R2} {s : S2} {d : Nat → Nat} {f : Nat → Int64} {x5 x6 x7 x8 : Option Value} (hG : GI (kD k) G) (hr : Rel N (nA G) (nT G) v r s) (K : LEnd k G d o b i N c n) : J k ((CW (kD k) G v r ++ [lng (kD k) o f]) ++ MW (kD k) d s) c n 1080 [some (.ref b), some (.ref (G.1 0 0)), some (.ref (d 0)), some (.ref o), some (.int (nI i)), x5, x6, x7, x8] [] := by
  refine j_aloadn F dL_law_1080 rfl ?_
  refine j_rdV F (qX3_ticketCount (kl k) hst (kD k) G v r) lk_L_134 dL_law_1081 ⟨(Nat.le_of_ble_eq_true rfl), (Nat.le_of_ble_eq_true rfl)⟩ (fun q hq => List.mem_append_left _ (List.mem_append_left _ hq)) 0 rfl rfl rfl (Nat.le_of_ble_eq_true rfl) ⟨by show c ≤ 601024; omega, by show n ≤ 7293034; omega⟩ ?_
  refine j_aloadn F dL_law_1084 rfl ?_
  refine j_perm (MW (kD k) d s ++ (CW (kD k) G v r ++ [lng (kD k) o f])) List.perm_append_comm ?_
  refine j_cmV F hw (qX4_ticketCount (kl k) hst (kD k) d s) lk_L_137 dL_law_1085 ⟨(Nat.le_of_ble_eq_true rfl), (Nat.le_of_ble_eq_true rfl)⟩ 0 rfl rfl rfl (Nat.le_of_ble_eq_true rfl) ⟨by show c + 0 ≤ 601024; omega, by show n + 0 ≤ 7293034; omega⟩ (fun u w1 hp => ?_)
  obtain ⟨rfl, rfl⟩ := hp
  refine j_iceq F (tgt := 1550) dL_law_1088 (by decide) (fun _ => ?_) (fun z => absurd (show C_ticketCount (nA G) (nT G) v r = (M_ticketCount s).1 from hr.cT.symm) z)
  exact K G _ _ _ _ _ _ _ _ _ _ hG (fun _ => rfl) (hr.thr 0).mono (by omega) (by omega)
set_option maxRecDepth 100000 in
set_option maxHeartbeats 4000000 in
theorem case_22 {k : Kx} (F : Fx k code RL room_1 9) (hw : kw k = true) (hst : (kl k).stackTraces = false) {b o i Ls c n N : Nat} {xs : Nat → Int32} (hX : va_X b Ls xs (ks k) (ks k).heap) (hbl : b < (ks k).heap.size) (hbA : ¬ kA k b) (hi : i + 5 ≤ Ls) (hLs : Ls ≤ 2560) (hc : c ≤ 600000) (hn : n ≤ 7000000) (hN : N ≤ 1000) {G : CG} {v : S2} {r : R2} {s : S2} {d : Nat → Nat} {f : Nat → Int64} {x5 x6 x7 x8 : Option Value} (hG : GI (kD k) G) (hr : Rel N (nA G) (nT G) v r s) (K : LEnd k G d o b i N c n) : J k ((CW (kD k) G v r ++ [lng (kD k) o f]) ++ MW (kD k) d s) c n 1482 [some (.ref b), some (.ref (G.1 0 0)), some (.ref (d 0)), some (.ref o), some (.int (nI i)), x5, x6, x7, x8] [] := by
  refine j_aloadn F dL_law_1482 rfl ?_
  refine j_rdV F (qX3_lacking (kl k) hst (kD k) G v r hG) lk_L_161 dL_law_1483 ⟨(Nat.le_of_ble_eq_true rfl), (Nat.le_of_ble_eq_true rfl)⟩ (fun q hq => List.mem_append_left _ (List.mem_append_left _ hq)) 0 rfl rfl rfl (Nat.le_of_ble_eq_true rfl) ⟨by show c ≤ 601024; omega, by show n ≤ 7293034; omega⟩ ?_
  refine j_aloadn F dL_law_1486 rfl ?_
  refine j_perm (MW (kD k) d s ++ (CW (kD k) G v r ++ [lng (kD k) o f])) List.perm_append_comm ?_
  refine j_cmV F hw (qX4_lacking (kl k) hst (kD k) d s hr.mi) lk_L_164 dL_law_1487 ⟨(Nat.le_of_ble_eq_true rfl), (Nat.le_of_ble_eq_true rfl)⟩ 0 rfl rfl rfl (Nat.le_of_ble_eq_true rfl) ⟨by show c + 0 ≤ 601024; omega, by show n + 0 ≤ 7293034; omega⟩ (fun u w1 hp => ?_)
  obtain ⟨rfl, rfl⟩ := hp
  refine j_iceq F (tgt := 1550) dL_law_1490 (by decide) (fun _ => ?_) (fun z => absurd (show C_lacking (nA G) (nT G) v r = (M_lacking s).1 from AG_lacking hr) z)
  exact K G _ _ _ _ _ _ _ _ _ _ hG (fun _ => rfl) (hr.thr 0).mono (by omega) (by omega)
set_option maxRecDepth 100000 in
set_option maxHeartbeats 4000000 in
theorem case_24 {k : Kx} (F : Fx k code RL room_1 9) (hw : kw k = true) (hst : (kl k).stackTraces = false) {b o i Ls c n N : Nat} {xs : Nat → Int32} (hX : va_X b Ls xs (ks k) (ks k).heap) (hbl : b < (ks k).heap.size) (hbA : ¬ kA k b) (hi : i + 5 ≤ Ls) (hLs : Ls ≤ 2560) (hc : c ≤ 600000) (hn : n ≤ 7000000) (hN : N ≤ 1000) {G : CG} {v : S2} {r : R2} {s : S2} {d : Nat → Nat} {f : Nat → Int64} {x5 x6 x7 x8 : Option Value} (hG : GI (kD k) G) (hr : Rel N (nA G) (nT G) v r s) (K : LEnd k G d o b i N c n) : J k ((CW (kD k) G v r ++ [lng (kD k) o f]) ++ MW (kD k) d s) c n 1536 [some (.ref b), some (.ref (G.1 0 0)), some (.ref (d 0)), some (.ref o), some (.int (nI i)), x5, x6, x7, x8] [] := by
  refine j_aloadn F dL_law_1536 rfl ?_
  refine j_rdV F (qX3_digest (kl k) hst (kD k) G v r hG hr.ci) lk_L_170 dL_law_1537 ⟨(Nat.le_of_ble_eq_true rfl), (Nat.le_of_ble_eq_true rfl)⟩ (fun q hq => List.mem_append_left _ (List.mem_append_left _ hq)) 0 rfl rfl rfl (Nat.le_of_ble_eq_true rfl) ⟨by show c ≤ 601024; omega, by show n ≤ 7293034; omega⟩ ?_
  refine j_aloadn F dL_law_1540 rfl ?_
  refine j_perm (MW (kD k) d s ++ (CW (kD k) G v r ++ [lng (kD k) o f])) List.perm_append_comm ?_
  refine j_cmV F hw (qX4_digest (kl k) hst (kD k) d s hr.mi) lk_L_174 dL_law_1541 ⟨(Nat.le_of_ble_eq_true rfl), (Nat.le_of_ble_eq_true rfl)⟩ 0 rfl rfl rfl (Nat.le_of_ble_eq_true rfl) ⟨by show c + 0 ≤ 601024; omega, by show n + 0 ≤ 7293034; omega⟩ (fun u w1 hp => ?_)
  obtain ⟨rfl, rfl⟩ := hp
  rw [show C_digest (nA G) (nT G) v r = (M_digest s).1 from AG_digest hr]
  refine j_lcmp F dL_law_1544 ?_
  refine j_ifeq F (tgt := 1550) dL_law_1545 (by decide) (fun _ => ?_) (fun z => absurd (lcmp_self _) z)
  exact K G _ _ _ _ _ _ _ _ _ _ hG (fun _ => rfl) (hr.thr 0).mono (by omega) (by omega)
set_option maxRecDepth 100000 in
set_option maxHeartbeats 4000000 in
theorem case_21 {k : Kx} (F : Fx k code RL room_1 9) (hw : kw k = true) (hst : (kl k).stackTraces = false) {b o i Ls c n N : Nat} {xs : Nat → Int32} (hX : va_X b Ls xs (ks k) (ks k).heap) (hbl : b < (ks k).heap.size) (hbA : ¬ kA k b) (hi : i + 5 ≤ Ls) (hLs : Ls ≤ 2560) (hc : c ≤ 600000) (hn : n ≤ 7000000) (hN : N ≤ 1000) {G : CG} {v : S2} {r : R2} {s : S2} {d : Nat → Nat} {f : Nat → Int64} {x5 x6 x7 x8 : Option Value} (hG : GI (kD k) G) (hr : Rel N (nA G) (nT G) v r s) (K : LEnd k G d o b i N c n) : J k ((CW (kD k) G v r ++ [lng (kD k) o f]) ++ MW (kD k) d s) c n 1441 [some (.ref b), some (.ref (G.1 0 0)), some (.ref (d 0)), some (.ref o), some (.int (nI i)), x5, x6, x7, x8] [] := by
  refine j_aloadn F dL_law_1441 rfl ?_
  refine j_aloadn F dL_law_1442 rfl ?_
  refine j_iload F dL_law_1443 rfl ?_
  refine j_iconst F (v := 1) dL_law_1445 (by decide) ?_
  refine j_iaddN F (a := i) (b := 1) dL_law_1446 ?_
  refine j_sld F hX hbl hbA dL_law_1447 (show i + 1 < Ls by omega) (by omega) ?_
  refine j_ifeq F (tgt := 1455) dL_law_1448 (by decide) (fun z0 => ?_) (fun z0 => ?_)
  · refine j_iconst F (v := 0) dL_law_1455 (by decide) ?_
    refine j_rdV F (qX3_broken (kl k) hst (kD k) G v r false hG hr.ci) lk_L_156 dL_law_1456 ⟨(Nat.le_of_ble_eq_true rfl), (Nat.le_of_ble_eq_true rfl)⟩ (fun q hq => List.mem_append_left _ (List.mem_append_left _ hq)) 0 rfl rfl rfl (Nat.le_of_ble_eq_true rfl) ⟨by show c ≤ 601024; omega, by show n ≤ 7293034; omega⟩ ?_
    refine j_aloadn F dL_law_1459 rfl ?_
    refine j_aloadn F dL_law_1460 rfl ?_
    refine j_iload F dL_law_1461 rfl ?_
    refine j_iconst F (v := 1) dL_law_1463 (by decide) ?_
    refine j_iaddN F (a := i) (b := 1) dL_law_1464 ?_
    refine j_sld F hX hbl hbA dL_law_1465 (show i + 1 < Ls by omega) (by omega) ?_
    refine j_ifeq F (tgt := 1473) dL_law_1466 (by decide) (fun _ => ?_) (fun q => absurd z0 q)
    refine j_iconst F (v := 0) dL_law_1473 (by decide) ?_
    refine j_perm (MW (kD k) d s ++ (CW (kD k) G v r ++ [lng (kD k) o f])) List.perm_append_comm ?_
    refine j_cmV F hw (qX4_broken (kl k) hst (kD k) d s false hr.mi) lk_L_160 dL_law_1474 ⟨(Nat.le_of_ble_eq_true rfl), (Nat.le_of_ble_eq_true rfl)⟩ 0 rfl rfl rfl (Nat.le_of_ble_eq_true rfl) ⟨by show c + 0 ≤ 601024; omega, by show n + 0 ≤ 7293034; omega⟩ (fun u w1 hp => ?_)
    obtain ⟨rfl, rfl⟩ := hp
    refine j_iceq F (tgt := 1550) dL_law_1477 (by decide) (fun _ => ?_) (fun z => absurd (AG_broken hr false) z)
    exact K G _ _ _ _ _ _ _ _ _ _ hG (fun _ => rfl) (hr.thr 0).mono (by omega) (by omega)
  · refine j_iconst F (v := 1) dL_law_1451 (by decide) ?_
    refine j_goto F (tgt := 1456) dL_law_1452 (by decide) ?_
    refine j_rdV F (qX3_broken (kl k) hst (kD k) G v r true hG hr.ci) lk_L_156 dL_law_1456 ⟨(Nat.le_of_ble_eq_true rfl), (Nat.le_of_ble_eq_true rfl)⟩ (fun q hq => List.mem_append_left _ (List.mem_append_left _ hq)) 0 rfl rfl rfl (Nat.le_of_ble_eq_true rfl) ⟨by show c ≤ 601024; omega, by show n ≤ 7293034; omega⟩ ?_
    refine j_aloadn F dL_law_1459 rfl ?_
    refine j_aloadn F dL_law_1460 rfl ?_
    refine j_iload F dL_law_1461 rfl ?_
    refine j_iconst F (v := 1) dL_law_1463 (by decide) ?_
    refine j_iaddN F (a := i) (b := 1) dL_law_1464 ?_
    refine j_sld F hX hbl hbA dL_law_1465 (show i + 1 < Ls by omega) (by omega) ?_
    refine j_ifeq F (tgt := 1473) dL_law_1466 (by decide) (fun q => absurd q z0) (fun _ => ?_)
    refine j_iconst F (v := 1) dL_law_1469 (by decide) ?_
    refine j_goto F (tgt := 1474) dL_law_1470 (by decide) ?_
    refine j_perm (MW (kD k) d s ++ (CW (kD k) G v r ++ [lng (kD k) o f])) List.perm_append_comm ?_
    refine j_cmV F hw (qX4_broken (kl k) hst (kD k) d s true hr.mi) lk_L_160 dL_law_1474 ⟨(Nat.le_of_ble_eq_true rfl), (Nat.le_of_ble_eq_true rfl)⟩ 0 rfl rfl rfl (Nat.le_of_ble_eq_true rfl) ⟨by show c + 0 ≤ 601024; omega, by show n + 0 ≤ 7293034; omega⟩ (fun u w1 hp => ?_)
    obtain ⟨rfl, rfl⟩ := hp
    refine j_iceq F (tgt := 1550) dL_law_1477 (by decide) (fun _ => ?_) (fun z => absurd (AG_broken hr true) z)
    exact K G _ _ _ _ _ _ _ _ _ _ hG (fun _ => rfl) (hr.thr 0).mono (by omega) (by omega)
set_option maxRecDepth 100000 in
set_option maxHeartbeats 4000000 in
theorem case_23 {k : Kx} (F : Fx k code RL room_1 9) (hw : kw k = true) (hst : (kl k).stackTraces = false) {b o i Ls c n N : Nat} {xs : Nat → Int32} (hX : va_X b Ls xs (ks k) (ks k).heap) (hbl : b < (ks k).heap.size) (hbA : ¬ kA k b) (hi : i + 5 ≤ Ls) (hLs : Ls ≤ 2560) (hc : c ≤ 600000) (hn : n ≤ 7000000) (hN : N ≤ 1000) {G : CG} {v : S2} {r : R2} {s : S2} {d : Nat → Nat} {f : Nat → Int64} {x5 x6 x7 x8 : Option Value} (hG : GI (kD k) G) (hr : Rel N (nA G) (nT G) v r s) (K : LEnd k G d o b i N c n) : J k ((CW (kD k) G v r ++ [lng (kD k) o f]) ++ MW (kD k) d s) c n 1495 [some (.ref b), some (.ref (G.1 0 0)), some (.ref (d 0)), some (.ref o), some (.int (nI i)), x5, x6, x7, x8] [] := by
  have hsu : Rel (N + 1) (nA G) (nT G) v r (M_success s).2 := by
    unfold M_success
    split <;> exact (hr.thr 0).mono
  refine j_aloadn F dL_law_1495 rfl ?_
  refine j_rdV F (qX3_success (kl k) hst (kD k) G v r hG hr.ci) lk_L_165 dL_law_1496 ⟨(Nat.le_of_ble_eq_true rfl), (Nat.le_of_ble_eq_true rfl)⟩ (fun q hq => List.mem_append_left _ (List.mem_append_left _ hq)) 0 rfl rfl rfl (Nat.le_of_ble_eq_true rfl) ⟨by show c ≤ 601024; omega, by show n ≤ 7293034; omega⟩ ?_
  rw [show C_success (nA G) (nT G) v r = (M_success s).1 from AG_success hr]
  refine j_dstore F [some (.ref b), some (.ref (G.1 0 0)), some (.ref (d 0)), some (.ref o), some (.int (nI i)), some (.double (M_success s).1), none, x7, x8] dL_law_1499 rfl rfl rfl ?_
  refine j_aloadn F dL_law_1501 rfl ?_
  refine j_perm (MW (kD k) d s ++ (CW (kD k) G v r ++ [lng (kD k) o f])) List.perm_append_comm ?_
  refine j_cmV F hw (qX4_success (kl k) hst (kD k) d s hr.mi) lk_L_169 dL_law_1502 ⟨(Nat.le_of_ble_eq_true rfl), (Nat.le_of_ble_eq_true rfl)⟩ 0 rfl rfl rfl (Nat.le_of_ble_eq_true rfl) ⟨by show c + 0 ≤ 601024; omega, by show n + 0 ≤ 7293034; omega⟩ (fun u w1 hp => ?_)
  obtain ⟨rfl, rfl⟩ := hp
  refine j_dstore F [some (.ref b), some (.ref (G.1 0 0)), some (.ref (d 0)), some (.ref o), some (.int (nI i)), some (.double (M_success s).1), none, some (.double (M_success s).1), none] dL_law_1505 rfl rfl rfl ?_
  refine j_dload F dL_law_1507 rfl ?_
  refine j_dload F dL_law_1509 rfl ?_
  refine j_dcmp F dL_law_1511 ?_
  refine j_ifeq F (tgt := 1533) dL_law_1512 (by decide) (fun _ => ?_) (fun z => ?_)
  · refine j_goto F (tgt := 1550) dL_law_1533 (by decide) ?_
    exact K G _ _ _ _ _ _ _ _ _ _ hG (fun _ => rfl) hsu (by omega) (by omega)
  refine j_dload F dL_law_1515 rfl ?_
  refine j_dload F dL_law_1517 rfl ?_
  refine j_dcmp F dL_law_1519 ?_
  refine j_ifeq F (tgt := 1531) dL_law_1520 (by decide) (fun q => absurd q z) (fun _ => ?_)
  refine j_dload F dL_law_1523 rfl ?_
  refine j_dload F dL_law_1525 rfl ?_
  refine j_dcmp F dL_law_1527 ?_
  refine j_ifne F (tgt := 1533) dL_law_1528 (by decide) (fun _ => ?_) (fun q => absurd q z)
  refine j_goto F (tgt := 1550) dL_law_1533 (by decide) ?_
  exact K G _ _ _ _ _ _ _ _ _ _ hG (fun _ => rfl) hsu (by omega) (by omega)
theorem tab25 (x : Int32) (h0 : ¬ x = 0) (h1 : ¬ x = 1) (h2 : ¬ x = 2) (h3 : ¬ x = 3) (h4 : ¬ x = 4) (h5 : ¬ x = 5) (h6 : ¬ x = 6) (h7 : ¬ x = 7) (h8 : ¬ x = 8) (h9 : ¬ x = 9) (h10 : ¬ x = 10) (h11 : ¬ x = 11) (h12 : ¬ x = 12) (h13 : ¬ x = 13) (h14 : ¬ x = 14) (h15 : ¬ x = 15) (h16 : ¬ x = 16) (h17 : ¬ x = 17) (h18 : ¬ x = 18) (h19 : ¬ x = 19) (h20 : ¬ x = 20) (h21 : ¬ x = 21) (h22 : ¬ x = 22) (h23 : ¬ x = 23) (h24 : ¬ x = 24) : x.toInt < 0 ∨ 24 < x.toInt := by
  by_cases h : vp_in x 25
  · exfalso
    have e := in_nI h
    have hl := vp_lt h
    have : ∀ n, n < 25 → nI n = 0 ∨ nI n = 1 ∨ nI n = 2 ∨ nI n = 3 ∨ nI n = 4 ∨ nI n = 5 ∨ nI n = 6 ∨ nI n = 7 ∨ nI n = 8 ∨ nI n = 9 ∨ nI n = 10 ∨ nI n = 11 ∨ nI n = 12 ∨ nI n = 13 ∨ nI n = 14 ∨ nI n = 15 ∨ nI n = 16 ∨ nI n = 17 ∨ nI n = 18 ∨ nI n = 19 ∨ nI n = 20 ∨ nI n = 21 ∨ nI n = 22 ∨ nI n = 23 ∨ nI n = 24 := by decide +kernel
    have q := this _ hl
    rw [← e] at q
    rcases q with q | q | q | q | q | q | q | q | q | q | q | q | q | q | q | q | q | q | q | q | q | q | q | q | q
    · exact h0 q
    · exact h1 q
    · exact h2 q
    · exact h3 q
    · exact h4 q
    · exact h5 q
    · exact h6 q
    · exact h7 q
    · exact h8 q
    · exact h9 q
    · exact h10 q
    · exact h11 q
    · exact h12 q
    · exact h13 q
    · exact h14 q
    · exact h15 q
    · exact h16 q
    · exact h17 q
    · exact h18 q
    · exact h19 q
    · exact h20 q
    · exact h21 q
    · exact h22 q
    · exact h23 q
    · exact h24 q
  · rw [vp_in_iff] at h
    omega
set_option maxRecDepth 100000 in
set_option maxHeartbeats 4000000 in
theorem law_loop {k : Kx} (F : Fx k code RL room_1 9) (hw : kw k = true) (hst : (kl k).stackTraces = false) {b o Ls : Nat} {xs : Nat → Int32} (hX : va_X b Ls xs (ks k) (ks k).heap) (hbl : b < (ks k).heap.size) (hbA : ¬ kA k b) (hLs : Ls ≤ 2560) {d : Nat → Nat} {a0 : Nat} (hret : ∀ (ws : va_W) (c n : Nat) (lv : List (Option Value)), c ≤ 601024 → n ≤ 7293034 → J k ws c n 1557 lv [.int 1]) : ∀ (fu N : Nat) (G : CG) (v : S2) (r : R2) (s : S2) (f : Nat → Int64) (c n : Nat) (x5 x6 x7 x8 : Option Value), Ls - 5 * N < fu → 5 * N ≤ Ls + 5 → c ≤ 100 + 4 * N → n ≤ 1000 + 60 * N → GI (kD k) G → G.1 0 0 = a0 → Rel N (nA G) (nT G) v r s → J k (MW (kD k) d s ++ (CW (kD k) G v r ++ [lng (kD k) o f])) c n 23 [some (.ref b), some (.ref a0), some (.ref (d 0)), some (.ref o), some (.int (nI (5 * N))), x5, x6, x7, x8] []
  | 0, N, G, v, r, s, f, c, n, x5, x6, x7, x8, h1, h2, h3, h4, hG, ha, hr => absurd h1 (Nat.not_lt_zero _)
  | fu + 1, N, G, v, r, s, f, c, n, x5, x6, x7, x8, h1, h2, h3, h4, hG, ha, hr => by
    subst ha
    refine j_iload F dL_law_23 rfl ?_
    refine j_aloadn F dL_law_25 rfl ?_
    refine j_slen F hX hbl hbA dL_law_26 ?_
    refine j_iconst F (v := 5) dL_law_27 (by decide) ?_
    refine j_isub F dL_law_28 ?_
    have e5 : (nI Ls - 5).toInt = (Ls : Int) - 5 := by
      rw [Int32.toInt_sub, nI_toInt (by omega), show (5 : Int32).toInt = 5 from by decide]
      exact Int.bmod_eq_of_le (by omega) (by omega)
    refine j_icgt F (tgt := 1556) dL_law_29 (by decide) (fun _ => ?_) (fun hle => ?_)
    · refine j_iconst F (v := 1) dL_law_1556 (by decide) ?_
      exact hret _ _ _ _ (by omega) (by omega)
    rw [Int32.lt_iff_toInt_lt, e5, nI_toInt (by omega)] at hle
    have hi : 5 * N + 5 ≤ Ls := by omega
    have hN : N ≤ 1000 := by omega
    have K : LEnd k G d o b (5 * N) N c n := by
      intro G' v' r' s' f' c' n' y5 y6 y7 y8 hG' hg0 hr' hc' hn'
      refine j_iinc F [some (.ref b), some (.ref (G.1 0 0)), some (.ref (d 0)), some (.ref o), some (.int (nI (5 * (N + 1)))), y5, y6, y7, y8] dL_law_1550 rfl (v := nI (5 * (N + 1))) (nI_add (5 * N) 5) rfl rfl rfl ?_
      refine j_goto F (tgt := 23) dL_law_1553 (by decide) ?_
      exact law_loop F hw hst hX hbl hbA hLs hret fu (N + 1) G' v' r' s' f' c' n' y5 y6 y7 y8 (by omega) (by omega) (by omega) (by omega) hG' (hg0 0) hr'
    refine j_aloadn F dL_law_32 rfl ?_
    refine j_iload F dL_law_33 rfl ?_
    refine j_sld F hX hbl hbA dL_law_35 (show 5 * N < Ls by omega) (by omega) ?_
    refine j_bipush F (v := 31) dL_law_36 (by decide) ?_
    refine j_iand F dL_law_38 ?_
    by_cases e0 : xs (5 * N) &&& 31 = 0
    · refine j_tabin F (off := 113) (tgt := 152) dL_law_39 (by rw [e0]; decide) (by rw [e0]; decide) (by rw [e0]; rfl) (by decide) ?_
      refine j_perm _ List.perm_append_comm ?_
      exact case_0 F hw hst hX hbl hbA hi hLs (by omega) (by omega) hN hG hr K
    by_cases e1 : xs (5 * N) &&& 31 = 1
    · refine j_tabin F (off := 188) (tgt := 227) dL_law_39 (by rw [e1]; decide) (by rw [e1]; decide) (by rw [e1]; rfl) (by decide) ?_
      refine j_perm _ List.perm_append_comm ?_
      exact case_1 F hw hst hX hbl hbA hi hLs (by omega) (by omega) hN hG hr K
    by_cases e2 : xs (5 * N) &&& 31 = 2
    · refine j_tabin F (off := 268) (tgt := 307) dL_law_39 (by rw [e2]; decide) (by rw [e2]; decide) (by rw [e2]; rfl) (by decide) ?_
      refine j_perm _ List.perm_append_comm ?_
      exact case_2 F hw hst hX hbl hbA hi hLs (by omega) (by omega) hN hG hr K
    by_cases e3 : xs (5 * N) &&& 31 = 3
    · refine j_tabin F (off := 281) (tgt := 320) dL_law_39 (by rw [e3]; decide) (by rw [e3]; decide) (by rw [e3]; rfl) (by decide) ?_
      refine j_perm _ List.perm_append_comm ?_
      exact case_3 F hw hst hX hbl hbA hi hLs (by omega) (by omega) hN hG hr K
    by_cases e4 : xs (5 * N) &&& 31 = 4
    · refine j_tabin F (off := 349) (tgt := 388) dL_law_39 (by rw [e4]; decide) (by rw [e4]; decide) (by rw [e4]; rfl) (by decide) ?_
      refine j_perm _ List.perm_append_comm ?_
      exact case_4 F hw hst hX hbl hbA hi hLs (by omega) (by omega) hN hG hr K
    by_cases e5 : xs (5 * N) &&& 31 = 5
    · refine j_tabin F (off := 441) (tgt := 480) dL_law_39 (by rw [e5]; decide) (by rw [e5]; decide) (by rw [e5]; rfl) (by decide) ?_
      refine j_perm _ List.perm_append_comm ?_
      exact case_5 F hw hst hX hbl hbA hi hLs (by omega) (by omega) hN hG hr K
    by_cases e6 : xs (5 * N) &&& 31 = 6
    · refine j_tabin F (off := 509) (tgt := 548) dL_law_39 (by rw [e6]; decide) (by rw [e6]; decide) (by rw [e6]; rfl) (by decide) ?_
      refine j_perm _ List.perm_append_comm ?_
      exact case_6 F hw hst hX hbl hbA hi hLs (by omega) (by omega) hN hG hr K
    by_cases e7 : xs (5 * N) &&& 31 = 7
    · refine j_tabin F (off := 577) (tgt := 616) dL_law_39 (by rw [e7]; decide) (by rw [e7]; decide) (by rw [e7]; rfl) (by decide) ?_
      refine j_perm _ List.perm_append_comm ?_
      exact case_7 F hw hst hX hbl hbA hi hLs (by omega) (by omega) hN hG hr K
    by_cases e8 : xs (5 * N) &&& 31 = 8
    · refine j_tabin F (off := 633) (tgt := 672) dL_law_39 (by rw [e8]; decide) (by rw [e8]; decide) (by rw [e8]; rfl) (by decide) ?_
      refine j_perm _ List.perm_append_comm ?_
      exact case_8 F hw hst hX hbl hbA hi hLs (by omega) (by omega) hN hG hr K
    by_cases e9 : xs (5 * N) &&& 31 = 9
    · refine j_tabin F (off := 725) (tgt := 764) dL_law_39 (by rw [e9]; decide) (by rw [e9]; decide) (by rw [e9]; rfl) (by decide) ?_
      refine j_perm _ List.perm_append_comm ?_
      exact case_9 F hw hst hX hbl hbA hi hLs (by omega) (by omega) hN hG hr K
    by_cases e10 : xs (5 * N) &&& 31 = 10
    · refine j_tabin F (off := 793) (tgt := 832) dL_law_39 (by rw [e10]; decide) (by rw [e10]; decide) (by rw [e10]; rfl) (by decide) ?_
      refine j_perm _ List.perm_append_comm ?_
      exact case_10 F hw hst hX hbl hbA hi hLs (by omega) (by omega) hN hG hr K
    by_cases e11 : xs (5 * N) &&& 31 = 11
    · refine j_tabin F (off := 849) (tgt := 888) dL_law_39 (by rw [e11]; decide) (by rw [e11]; decide) (by rw [e11]; rfl) (by decide) ?_
      refine j_perm _ List.perm_append_comm ?_
      exact case_11 F hw hst hX hbl hbA hi hLs (by omega) (by omega) hN hG hr K
    by_cases e12 : xs (5 * N) &&& 31 = 12
    · refine j_tabin F (off := 905) (tgt := 944) dL_law_39 (by rw [e12]; decide) (by rw [e12]; decide) (by rw [e12]; rfl) (by decide) ?_
      refine j_perm _ List.perm_append_comm ?_
      exact case_12 F hw hst hX hbl hbA hi hLs (by omega) (by omega) hN hG hr K
    by_cases e13 : xs (5 * N) &&& 31 = 13
    · refine j_tabin F (off := 973) (tgt := 1012) dL_law_39 (by rw [e13]; decide) (by rw [e13]; decide) (by rw [e13]; rfl) (by decide) ?_
      refine j_perm _ List.perm_append_comm ?_
      exact case_13 F hw hst hX hbl hbA hi hLs (by omega) (by omega) hN hG hr K
    by_cases e14 : xs (5 * N) &&& 31 = 14
    · refine j_tabin F (off := 1041) (tgt := 1080) dL_law_39 (by rw [e14]; decide) (by rw [e14]; decide) (by rw [e14]; rfl) (by decide) ?_
      refine j_perm _ List.perm_append_comm ?_
      exact case_14 F hw hst hX hbl hbA hi hLs (by omega) (by omega) hN hG hr K
    by_cases e15 : xs (5 * N) &&& 31 = 15
    · refine j_tabin F (off := 1054) (tgt := 1093) dL_law_39 (by rw [e15]; decide) (by rw [e15]; decide) (by rw [e15]; rfl) (by decide) ?_
      refine j_perm _ List.perm_append_comm ?_
      exact case_15 F hw hst hX hbl hbA hi hLs (by omega) (by omega) hN hG hr K
    by_cases e16 : xs (5 * N) &&& 31 = 16
    · refine j_tabin F (off := 1122) (tgt := 1161) dL_law_39 (by rw [e16]; decide) (by rw [e16]; decide) (by rw [e16]; rfl) (by decide) ?_
      refine j_perm _ List.perm_append_comm ?_
      exact case_16 F hw hst hX hbl hbA hi hLs (by omega) (by omega) hN hG hr K
    by_cases e17 : xs (5 * N) &&& 31 = 17
    · refine j_tabin F (off := 1178) (tgt := 1217) dL_law_39 (by rw [e17]; decide) (by rw [e17]; decide) (by rw [e17]; rfl) (by decide) ?_
      refine j_perm _ List.perm_append_comm ?_
      exact case_17 F hw hst hX hbl hbA hi hLs (by omega) (by omega) hN hG hr K
    by_cases e18 : xs (5 * N) &&& 31 = 18
    · refine j_tabin F (off := 1234) (tgt := 1273) dL_law_39 (by rw [e18]; decide) (by rw [e18]; decide) (by rw [e18]; rfl) (by decide) ?_
      refine j_perm _ List.perm_append_comm ?_
      exact case_18 F hw hst hX hbl hbA hi hLs (by omega) (by omega) hN hG hr K
    by_cases e19 : xs (5 * N) &&& 31 = 19
    · refine j_tabin F (off := 1290) (tgt := 1329) dL_law_39 (by rw [e19]; decide) (by rw [e19]; decide) (by rw [e19]; rfl) (by decide) ?_
      refine j_perm _ List.perm_append_comm ?_
      exact case_19 F hw hst hX hbl hbA hi hLs (by omega) (by omega) hN hG hr K
    by_cases e20 : xs (5 * N) &&& 31 = 20
    · refine j_tabin F (off := 1346) (tgt := 1385) dL_law_39 (by rw [e20]; decide) (by rw [e20]; decide) (by rw [e20]; rfl) (by decide) ?_
      refine j_perm _ List.perm_append_comm ?_
      exact case_20 F hw hst hX hbl hbA hi hLs (by omega) (by omega) hN hG hr K
    by_cases e21 : xs (5 * N) &&& 31 = 21
    · refine j_tabin F (off := 1402) (tgt := 1441) dL_law_39 (by rw [e21]; decide) (by rw [e21]; decide) (by rw [e21]; rfl) (by decide) ?_
      refine j_perm _ List.perm_append_comm ?_
      exact case_21 F hw hst hX hbl hbA hi hLs (by omega) (by omega) hN hG hr K
    by_cases e22 : xs (5 * N) &&& 31 = 22
    · refine j_tabin F (off := 1443) (tgt := 1482) dL_law_39 (by rw [e22]; decide) (by rw [e22]; decide) (by rw [e22]; rfl) (by decide) ?_
      refine j_perm _ List.perm_append_comm ?_
      exact case_22 F hw hst hX hbl hbA hi hLs (by omega) (by omega) hN hG hr K
    by_cases e23 : xs (5 * N) &&& 31 = 23
    · refine j_tabin F (off := 1456) (tgt := 1495) dL_law_39 (by rw [e23]; decide) (by rw [e23]; decide) (by rw [e23]; rfl) (by decide) ?_
      refine j_perm _ List.perm_append_comm ?_
      exact case_23 F hw hst hX hbl hbA hi hLs (by omega) (by omega) hN hG hr K
    by_cases e24 : xs (5 * N) &&& 31 = 24
    · refine j_tabin F (off := 1497) (tgt := 1536) dL_law_39 (by rw [e24]; decide) (by rw [e24]; decide) (by rw [e24]; rfl) (by decide) ?_
      refine j_perm _ List.perm_append_comm ?_
      exact case_24 F hw hst hX hbl hbA hi hLs (by omega) (by omega) hN hG hr K
    refine j_tabout F (tgt := 1550) dL_law_39 (tab25 _ e0 e1 e2 e3 e4 e5 e6 e7 e8 e9 e10 e11 e12 e13 e14 e15 e16 e17 e18 e19 e20 e21 e22 e23 e24) (by decide) ?_
    exact K G v r s f c n x5 x6 x7 x8 hG (fun _ => rfl) hr.mono (by omega) (by omega)
