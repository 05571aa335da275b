/-! NEW AGENTS AND TICKETS -/
theorem j_nodup {k : Kx} {ws : va_W} {c n pc : Nat} {lv : List (Option Value)} {st : List Value} (hw : kw k = true) (K : (ws.map (·.1)).Nodup → J k ws c n pc lv st) : J k ws c n pc lv st := fun H locs ls hP hL => K (va_D.iff.mp (hP.2.1 hw)).1 H locs ls hP hL
theorem permO {α : Type} (x a b c d e : List α) : ((a ++ (b ++ (c ++ (d ++ e)))) ++ x).Perm ((e ++ (c ++ x)) ++ (a ++ (b ++ d))) := by
  classical
  exact List.perm_iff_count.mpr fun y => by simp only [List.count_append]; omega
theorem permO2 {α : Type} (a b cx d e : List α) : ((e ++ cx) ++ (a ++ (b ++ d))).Perm (a ++ (b ++ (cx ++ (d ++ e)))) := by
  classical
  exact List.perm_iff_count.mpr fun y => by simp only [List.count_append]; omega
theorem permA {α : Type} (x a b c d e : List α) : ((a ++ (b ++ (c ++ (d ++ e)))) ++ x).Perm ((d ++ (b ++ x)) ++ (a ++ (c ++ e))) := by
  classical
  exact List.perm_iff_count.mpr fun y => by simp only [List.count_append]; omega
theorem permA2 {α : Type} (a bx c d e : List α) : ((d ++ bx) ++ (a ++ (c ++ e))).Perm (a ++ (bx ++ (c ++ (d ++ e)))) := by
  classical
  exact List.perm_iff_count.mpr fun y => by simp only [List.count_append]; omega
def C_nT (v : S2) (t : Nat) (p0 p1 p2 p3 : Int32) : S2 := fun j => match j with
  | 20 => upd (v 20) t (nI t)
  | 21 => upd (v 21) t p0
  | 22 => upd (v 22) t p1
  | 23 => upd (v 23) t p2
  | 24 => upd (v 24) t 0
  | 25 => upd (v 25) t 0
  | 26 => upd (v 26) t 0
  | 27 => upd (v 27) t (-1)
  | 28 => upd (v 28) t 0
  | 29 => upd (v 29) t 0
  | 30 => upd (v 30) t 0
  | 31 => upd (v 31) t (1 <<< (p3 &&& 31))
  | j => v j
def C_rT (r : R2) (t : Nat) : R2 := fun j => match j with
  | 32 => va_up (r 32) t none
  | 33 => va_up (r 33) t none
  | 34 => va_up (r 34) t none
  | j => r j
def C_nA (v : S2) (a : Nat) (p0 p1 p2 p3 : Int32) : S2 := fun j => match j with
  | 10 => upd (v 10) a (nI a)
  | 11 => upd (v 11) a p1
  | 12 => upd (v 12) a p2
  | 13 => upd (v 13) a p3
  | 14 => upd (v 14) a p0
  | 16 => upd (v 16) a 0
  | 17 => upd (v 17) a 0
  | j => v j
def C_rA (r : R2) (a : Nat) : R2 := fun j => match j with
  | 15 => va_up (r 15) a none
  | j => r j
def Gx (D : va_G) (G G' : CG) (da dt : Nat) : Prop := (∀ i, G'.1 0 i = G.1 0 i) ∧ nA G' = nA G + da ∧ nT G' = nT G + dt ∧ GI D G'
theorem map_cg {f g : Nat → Nat} {o : Option Nat} (h : ∀ a, o = some a → f a = g a) : o.map f = o.map g := by
  cases o with
  | none => rfl
  | some a => exact congrArg some (h a rfl)
def gT (G : CG) (b E' : Nat) (m : Int32) (cap' : Nat) (f' : Nat → Option Nat) : CG := (fun j => match j with
  | 2 => fun i => if i = nT G then b else G.1 2 i
  | j => G.1 j, nA G, nT G + 1, lA G, (E', m, cap', f'))
def gA (G : CG) (b E' : Nat) (m : Int32) (cap' : Nat) (f' : Nat → Option Nat) : CG := (fun j => match j with
  | 1 => fun i => if i = nA G then b else G.1 1 i
  | j => G.1 j, nA G + 1, nT G, (E', m, cap', f'), lT G)
theorem gT_old {G : CG} {b E' : Nat} {m : Int32} {cap' : Nat} {f' : Nat → Option Nat} {i : Nat} (h : i < nT G) : aT (gT G b E' m cap' f') i = aT G i := if_neg (by omega)
theorem gT_new {G : CG} {b E' : Nat} {m : Int32} {cap' : Nat} {f' : Nat → Option Nat} : aT (gT G b E' m cap' f') (nT G) = b := if_pos rfl
theorem gA_old {G : CG} {b E' : Nat} {m : Int32} {cap' : Nat} {f' : Nat → Option Nat} {i : Nat} (h : i < nA G) : aA (gA G b E' m cap' f') i = aA G i := if_neg (by omega)
theorem gA_new {G : CG} {b E' : Nat} {m : Int32} {cap' : Nat} {f' : Nat → Option Nat} : aA (gA G b E' m cap' f') (nA G) = b := if_pos rfl
theorem rng_cg {α : Type} {f g : Nat → α} {n : Nat} (h : ∀ i, i < n → f i = g i) : (List.range n).map f = (List.range n).map g :=
  List.map_congr_left fun i hi => h i (List.mem_range.mp hi)
theorem gT_world {D : va_G} {G : CG} {v : S2} {r : R2} {b E' : Nat} {m : Int32} {cap' : Nat} {f' : Nat → Option Nat} {p0 p1 p2 p3 : Int32} (hC : CI G v r) (hcap : 10 ≤ cap') : CW D (gT G b E' m cap' f') (C_nT v (nT G) p0 p1 p2 p3) (C_rT r (nT G)) = fixC D G v ++ (ags G v r (nA G) ++ ((tks G v r (nT G) ++ [(b, .inr (3, [.int (nI (nT G)), .int p0, .int p1, .int p2, .int 0, .int 0, .int 0, .int (-1), .int 0, .int 0, .int 0, .int (1 <<< (p3 &&& 31)), .null, .null, .null]))]) ++ (LW D (G.1 0 4) (lA G) (nA G) ++ [lsC (G.1 0 5) E' m (nT G + 1), elC D E' cap' f']))) := by
  have e1 : ags (gT G b E' m cap' f') (C_nT v (nT G) p0 p1 p2 p3) (C_rT r (nT G)) (nA G) = ags G v r (nA G) := rng_cg fun i hi => by
    show (aA G i, Sum.inr (1, _)) = (aA G i, Sum.inr (1, _))
    congr 3
    show AF _ _ _ i = AF G v r i
    unfold AF
    rw [show ((C_rT r (nT G)) 15 i).map (aT (gT G b E' m cap' f')) = (r 15 i).map (aT G) from map_cg fun a ha => gT_old (hC.held hi a ha)]
    rfl
  have e2 : tks (gT G b E' m cap' f') (C_nT v (nT G) p0 p1 p2 p3) (C_rT r (nT G)) (nT G + 1) = tks G v r (nT G) ++ [(b, .inr (3, [.int (nI (nT G)), .int p0, .int p1, .int p2, .int 0, .int 0, .int 0, .int (-1), .int 0, .int 0, .int 0, .int (1 <<< (p3 &&& 31)), .null, .null, .null]))] := by
    unfold tks
    rw [List.range_succ, List.map_append]
    congr 1
    · refine rng_cg fun i hi => ?_
      have hne : i ≠ nT G := Nat.ne_of_lt hi
      rw [gT_old hi]
      congr 3
      show TF _ _ _ i = TF G v r i
      unfold TF
      rw [show ((C_rT r (nT G)) 34 i).map (aT (gT G b E' m cap' f')) = (r 34 i).map (aT G) from by
        rw [show (C_rT r (nT G)) 34 i = r 34 i from up_ne hne]
        exact map_cg fun a ha => gT_old (hC.into hi a ha)]
      rw [show (C_rT r (nT G)) 33 i = r 33 i from up_ne hne, show (C_rT r (nT G)) 32 i = r 32 i from up_ne hne]
      simp only [C_nT, upd_ne hne]
      rfl
    · show [(aT (gT G b E' m cap' f') (nT G), _)] = _
      rw [gT_new]
      congr 4
      show TF _ _ _ (nT G) = _
      unfold TF
      rw [show (C_rT r (nT G)) 34 (nT G) = none from up_self, show (C_rT r (nT G)) 33 (nT G) = none from up_self, show (C_rT r (nT G)) 32 (nT G) = none from up_self]
      simp only [C_nT, upd_self]
      rfl
  show fixC D G v ++ (ags _ _ _ (nA G) ++ (tks _ _ _ (nT G + 1) ++ (LW D (G.1 0 4) (lA G) (nA G) ++ LW D (G.1 0 5) (E', m, cap', f') (nT G + 1)))) = _
  rw [e1, e2, LW_two (ls := (E', m, cap', f')) (by show cap' ≠ 0; omega)]
theorem gA_world {D : va_G} {G : CG} {v : S2} {r : R2} {b E' : Nat} {m : Int32} {cap' : Nat} {f' : Nat → Option Nat} {p0 p1 p2 p3 : Int32} (hC : CI G v r) (hcap : 10 ≤ cap') : CW D (gA G b E' m cap' f') (C_nA v (nA G) p0 p1 p2 p3) (C_rA r (nA G)) = fixC D G v ++ ((ags G v r (nA G) ++ [(b, .inr (1, [.int (nI (nA G)), .int p1, .int p2, .int p3, .int p0, .null, .int 0, .int 0]))]) ++ (tks G v r (nT G) ++ ([lsC (G.1 0 4) E' m (nA G + 1), elC D E' cap' f'] ++ LW D (G.1 0 5) (lT G) (nT G)))) := by
  have e1 : tks (gA G b E' m cap' f') (C_nA v (nA G) p0 p1 p2 p3) (C_rA r (nA G)) (nT G) = tks G v r (nT G) := rng_cg fun i hi => by
    show (aT G i, Sum.inr (3, _)) = (aT G i, Sum.inr (3, _))
    congr 3
    show TF _ _ _ i = TF G v r i
    unfold TF
    rw [show ((C_rA r (nA G)) 32 i).map (aA (gA G b E' m cap' f')) = (r 32 i).map (aA G) from map_cg fun a ha => gA_old (hC.holder hi a ha), show ((C_rA r (nA G)) 33 i).map (aA (gA G b E' m cap' f')) = (r 33 i).map (aA G) from map_cg fun a ha => gA_old (hC.latest hi a ha)]
    rfl
  have e2 : ags (gA G b E' m cap' f') (C_nA v (nA G) p0 p1 p2 p3) (C_rA r (nA G)) (nA G + 1) = ags G v r (nA G) ++ [(b, .inr (1, [.int (nI (nA G)), .int p1, .int p2, .int p3, .int p0, .null, .int 0, .int 0]))] := by
    unfold ags
    rw [List.range_succ, List.map_append]
    congr 1
    · refine rng_cg fun i hi => ?_
      have hne : i ≠ nA G := Nat.ne_of_lt hi
      rw [gA_old hi]
      congr 3
      show AF _ _ _ i = AF G v r i
      unfold AF
      rw [show (C_rA r (nA G)) 15 i = r 15 i from up_ne hne]
      simp only [C_nA, upd_ne hne]
      rfl
    · show [(aA (gA G b E' m cap' f') (nA G), _)] = _
      rw [gA_new]
      congr 4
      show AF _ _ _ (nA G) = _
      unfold AF
      rw [show (C_rA r (nA G)) 15 (nA G) = none from up_self]
      simp only [C_nA, upd_self]
      rfl
  show fixC D G v ++ (ags _ _ _ (nA G + 1) ++ (tks _ _ _ (nT G) ++ (LW D (G.1 0 4) (E', m, cap', f') (nA G + 1) ++ LW D (G.1 0 5) (lT G) (nT G)))) = _
  rw [e1, e2, LW_two (ls := (E', m, cap', f')) (by show cap' ≠ 0; omega)]
theorem nodup_app {D : va_G} {G : CG} {v : S2} {r : R2} {x : Nat × va_E} (h : ((CW D G v r ++ [x]).map (·.1)).Nodup) {i : Nat} (hi : i < nA G) : aA G i ≠ x.1 := fun e => by
  rw [List.map_append, List.nodup_append] at h
  exact h.2.2 (aA G i) (List.mem_map.mpr ⟨_, List.mem_of_getElem? (cg_A hi), rfl⟩) x.1 (List.mem_singleton.mpr rfl) e
theorem openTail {k : Kx} (F : Fx k cX3_open RX3 (rm4 7 2 45 201) 6) (hst : (kl k).stackTraces = false) {P : Option Value → va_W → Prop} (hR : RW k (some .int) 2 45 P) {G : CG} {v : S2} {r : R2} {p0 p1 p2 p3 : Int32} (hG : GI (kD k) G) (hC : CI G v r) (hn : nT G < 20) (hP : ∀ G', Gx (kD k) G G' 0 1 → P (some (.int (nI (nT G)))) (CW (kD k) G' (C_nT v (nT G) p0 p1 p2 p3) (C_rT r (nT G)))) : J k (CW (kD k) G v r) 0 0 73 [some (.ref (G.1 0 0)), some (.int p0), some (.int p1), some (.int p2), some (.int p3), none] [] := by
  obtain ⟨gA6, gT20, glA, glT, ginj, gzA, gzT⟩ := hG
  obtain ⟨hl1, hl2, hl3, hl4⟩ := glT
  refine j_new F hR.1 tyX2 inU_X2 tyX2_ok ul_X3_112 uk_X2 ui_X2 (ci := 3) rfl (fs := [.int 0, .int 0, .int 0, .int 0, .int 0, .int 0, .int 0, .int 0, .int 0, .int 0, .int 0, .int 0, .null, .null, .null]) (by decide +kernel) dX3_open_73 ⟨(Nat.le_of_ble_eq_true rfl), (Nat.le_of_ble_eq_true rfl)⟩ (fun b => ?_)
  obtain ⟨q, hq⟩ := cg_LT (D := kD k) (G := G) (v := v) (r := r)
  refine j_dup F dX3_open_76 rfl ?_
  refine j_aloadn F dX3_open_77 rfl ?_
  refine gf_X3_30 F (v := .ref (G.1 0 5)) dX3_open_78 0 rfl rfl ?_
  refine j_rdV F (qJ_size (kl k) hst (kD k) (G.1 0 5) (lT G).1 (lT G).2.1 (nT G)) lk_X3_77 dX3_open_81 ⟨(Nat.le_of_ble_eq_true rfl), (Nat.le_of_ble_eq_true rfl)⟩ (fun z h => List.mem_append_left _ (cm_LT z (LW_hd z h))) q (by rw [List.getElem?_append_left (List.getElem?_eq_some_iff.mp hq).1]; exact hq) rfl rfl (Nat.le_of_ble_eq_true rfl) ⟨(Nat.le_of_ble_eq_true rfl), (Nat.le_of_ble_eq_true rfl)⟩ ?_
  refine j_iloadn F dX3_open_84 rfl ?_
  refine j_iloadn F dX3_open_85 rfl ?_
  refine j_iloadn F dX3_open_86 rfl ?_
  refine j_iload F dX3_open_87 rfl ?_
  refine j_perm ([(b, .inr (3, [.int 0, .int 0, .int 0, .int 0, .int 0, .int 0, .int 0, .int 0, .int 0, .int 0, .int 0, .int 0, .null, .null, .null]))] ++ CW (kD k) G v r) List.perm_append_comm ?_
  refine j_cmI F hR.1 (qX2_init (kl k) hst (kD k) b (nI (nT G)) p0 p1 p2 p3) lk_X3_141 dX3_open_89 ⟨(Nat.le_of_ble_eq_true rfl), (Nat.le_of_ble_eq_true rfl)⟩ rfl (Nat.le_of_ble_eq_true rfl) ⟨(Nat.le_of_ble_eq_true rfl), (Nat.le_of_ble_eq_true rfl)⟩ (fun u w1 hp => ?_)
  obtain ⟨rfl, rfl⟩ := hp
  refine j_st [.ref b] rfl ?_
  refine j_astore F [some (.ref (G.1 0 0)), some (.int p0), some (.int p1), some (.int p2), some (.int p3), some (.ref b)] dX3_open_92 rfl rfl rfl ?_
  refine j_aloadn F dX3_open_94 rfl ?_
  refine j_perm (CW (kD k) G v r ++ [obC b 3 [.int (nI (nT G)), .int p0, .int p1, .int p2, .int 0, .int 0, .int 0, .int (-1), .int 0, .int 0, .int 0, .int (1 <<< (p3 &&& 31)), .null, .null, .null]]) List.perm_append_comm ?_
  refine gf_X3_30 F (v := .ref (G.1 0 5)) dX3_open_95 0 rfl rfl ?_
  refine j_aload F dX3_open_98 rfl ?_
  refine j_perm _ (permO _ _ _ _ _ _) ?_
  refine j_cmV F hR.1 (qJ_add (kl k) hst (kD k) (G.1 0 5) (lT G).1 (nT G) (lT G).2.2.1 b (lT G).2.1 (lT G).2.2.2 (tks G v r (nT G) ++ [obC b 3 [.int (nI (nT G)), .int p0, .int p1, .int p2, .int 0, .int 0, .int 0, .int (-1), .int 0, .int 0, .int 0, .int (1 <<< (p3 &&& 31)), .null, .null, .null]]) ⟨by omega, hl1, hl2, hl4⟩ gzT (ci := 3) (C := RX2) (by decide) rfl (fun i hi y hy => ?_) (List.mem_append_right _ (List.mem_singleton.mpr rfl))) lk_X3_91 dX3_open_100 ⟨(Nat.le_of_ble_eq_true rfl), (Nat.le_of_ble_eq_true rfl)⟩ 0 rfl rfl rfl (Nat.le_of_ble_eq_true rfl) ⟨(Nat.le_of_ble_eq_true rfl), (Nat.le_of_ble_eq_true rfl)⟩ (fun u w1 hp => ?_)
  · rw [hl3 i hi] at hy
    cases hy
    exact ⟨_, List.mem_append_left _ (List.mem_of_getElem? (rng_get hi))⟩
  obtain ⟨rfl, E', cap', f', rfl, a1, a2, a3, a4, a5⟩ := hp
  refine j_perm (CW (kD k) (gT G b E' ((lT G).2.1 + 1) cap' f') (C_nT v (nT G) p0 p1 p2 p3) (C_rT r (nT G))) (by rw [gT_world hC a3]; exact permO2 _ _ _ _ [_, _]) ?_
  refine j_pop F dX3_open_103 rfl ?_
  refine j_aload F dX3_open_104 rfl ?_
  have hx : nT G < nT (gT G b E' ((lT G).2.1 + 1) cap' f') := Nat.lt_succ_self _
  refine gf_X3_142 F (v := .int (nI (nT G))) dX3_open_106 _ (by rw [cg_T hx, gT_new]) (by show some (Value.int (upd (v 20) (nT G) (nI (nT G)) (nT G))) = _; rw [upd_self]) ?_
  refine j_iret F hR dX3_open_109 (Nat.le_of_ble_eq_true rfl) (Nat.le_of_ble_eq_true rfl) (hP _ ⟨fun _ => rfl, rfl, rfl, gA6, by show nT G + 1 ≤ 20; omega, glA, ⟨a1, a2, fun i hi => ?_, Or.inr a3⟩, ginj, gzA, fun e => absurd e (by show cap' ≠ 0; omega)⟩)
  show f' i = some (aT (gT G b E' ((lT G).2.1 + 1) cap' f') i)
  rcases Nat.lt_succ_iff_lt_or_eq.mp hi with h | h
  · rw [gT_old h, a4 i h]
    exact hl3 i h
  · rw [h, gT_new, a5]
theorem addTail {k : Kx} (F : Fx k cX3_addAgent RX3 (rm4 7 2 45 201) 6) (hst : (kl k).stackTraces = false) {P : Option Value → va_W → Prop} (hR : RW k (some .int) 2 45 P) {G : CG} {v : S2} {r : R2} {p0 p1 p2 p3 : Int32} (hG : GI (kD k) G) (hC : CI G v r) (hn : nA G < 6) (hP : ∀ G', Gx (kD k) G G' 1 0 → P (some (.int (nI (nA G)))) (CW (kD k) G' (C_nA v (nA G) p0 p1 p2 p3) (C_rA r (nA G)))) : J k (CW (kD k) G v r) 0 0 59 [some (.ref (G.1 0 0)), some (.int p0), some (.int p1), some (.int p2), some (.int p3), none] [] := by
  obtain ⟨gA6, gT20, glA, glT, ginj, gzA, gzT⟩ := hG
  obtain ⟨hl1, hl2, hl3, hl4⟩ := glA
  refine j_new F hR.1 tyX0 inU_X0 tyX0_ok ul_X3_86 uk_X0 ui_X0 (ci := 1) rfl (fs := [.int 0, .int 0, .int 0, .int 0, .int 0, .null, .int 0, .int 0]) (by decide +kernel) dX3_addAgent_59 ⟨(Nat.le_of_ble_eq_true rfl), (Nat.le_of_ble_eq_true rfl)⟩ (fun b => ?_)
  refine j_nodup hR.1 (fun hnd => ?_)
  have hq := cg_LA (D := kD k) (G := G) (v := v) (r := r)
  refine j_dup F dX3_addAgent_62 rfl ?_
  refine j_aloadn F dX3_addAgent_63 rfl ?_
  refine gf_X3_26 F (v := .ref (G.1 0 4)) dX3_addAgent_64 0 rfl rfl ?_
  refine j_rdV F (qJ_size (kl k) hst (kD k) (G.1 0 4) (lA G).1 (lA G).2.1 (nA G)) lk_X3_77 dX3_addAgent_67 ⟨(Nat.le_of_ble_eq_true rfl), (Nat.le_of_ble_eq_true rfl)⟩ (fun z h => List.mem_append_left _ (cm_LA z (LW_hd z h))) _ (by rw [List.getElem?_append_left (List.getElem?_eq_some_iff.mp hq).1]; exact hq) rfl rfl (Nat.le_of_ble_eq_true rfl) ⟨(Nat.le_of_ble_eq_true rfl), (Nat.le_of_ble_eq_true rfl)⟩ ?_
  refine j_iloadn F dX3_addAgent_70 rfl ?_
  refine j_iloadn F dX3_addAgent_71 rfl ?_
  refine j_iloadn F dX3_addAgent_72 rfl ?_
  refine j_iload F dX3_addAgent_73 rfl ?_
  refine j_perm ([(b, .inr (1, [.int 0, .int 0, .int 0, .int 0, .int 0, .null, .int 0, .int 0]))] ++ CW (kD k) G v r) List.perm_append_comm ?_
  refine j_cmI F hR.1 (qX0_init (kl k) hst (kD k) b (nI (nA G)) p0 p1 p2 p3) lk_X3_88 dX3_addAgent_75 ⟨(Nat.le_of_ble_eq_true rfl), (Nat.le_of_ble_eq_true rfl)⟩ rfl (Nat.le_of_ble_eq_true rfl) ⟨(Nat.le_of_ble_eq_true rfl), (Nat.le_of_ble_eq_true rfl)⟩ (fun u w1 hp => ?_)
  obtain ⟨rfl, rfl⟩ := hp
  refine j_st [.ref b] rfl ?_
  refine j_astore F [some (.ref (G.1 0 0)), some (.int p0), some (.int p1), some (.int p2), some (.int p3), some (.ref b)] dX3_addAgent_78 rfl rfl rfl ?_
  refine j_aloadn F dX3_addAgent_80 rfl ?_
  refine j_perm (CW (kD k) G v r ++ [obC b 1 [.int (nI (nA G)), .int p1, .int p2, .int p3, .int p0, .null, .int 0, .int 0]]) List.perm_append_comm ?_
  refine gf_X3_26 F (v := .ref (G.1 0 4)) dX3_addAgent_81 0 rfl rfl ?_
  refine j_aload F dX3_addAgent_84 rfl ?_
  refine j_perm _ (permA _ _ _ _ _ _) ?_
  refine j_cmV F hR.1 (qJ_add (kl k) hst (kD k) (G.1 0 4) (lA G).1 (nA G) (lA G).2.2.1 b (lA G).2.1 (lA G).2.2.2 (ags G v r (nA G) ++ [obC b 1 [.int (nI (nA G)), .int p1, .int p2, .int p3, .int p0, .null, .int 0, .int 0]]) ⟨by omega, hl1, hl2, hl4⟩ gzA (ci := 1) (C := RX0) (by decide) rfl (fun i hi y hy => ?_) (List.mem_append_right _ (List.mem_singleton.mpr rfl))) lk_X3_91 dX3_addAgent_86 ⟨(Nat.le_of_ble_eq_true rfl), (Nat.le_of_ble_eq_true rfl)⟩ 0 rfl rfl rfl (Nat.le_of_ble_eq_true rfl) ⟨(Nat.le_of_ble_eq_true rfl), (Nat.le_of_ble_eq_true rfl)⟩ (fun u w1 hp => ?_)
  · rw [hl3 i hi] at hy
    cases hy
    exact ⟨_, List.mem_append_left _ (List.mem_of_getElem? (rng_get hi))⟩
  obtain ⟨rfl, E', cap', f', rfl, a1, a2, a3, a4, a5⟩ := hp
  refine j_perm (CW (kD k) (gA G b E' ((lA G).2.1 + 1) cap' f') (C_nA v (nA G) p0 p1 p2 p3) (C_rA r (nA G))) (by rw [gA_world hC a3]; exact permA2 _ _ _ [_, _] _) ?_
  refine j_pop F dX3_addAgent_89 rfl ?_
  refine j_aload F dX3_addAgent_90 rfl ?_
  have hx : nA G < nA (gA G b E' ((lA G).2.1 + 1) cap' f') := Nat.lt_succ_self _
  refine gf_X3_95 F (v := .int (nI (nA G))) dX3_addAgent_92 _ (by rw [cg_A hx, gA_new]) (by show some (Value.int (upd (v 10) (nA G) (nI (nA G)) (nA G))) = _; rw [upd_self]) ?_
  refine j_iret F hR dX3_addAgent_95 (Nat.le_of_ble_eq_true rfl) (Nat.le_of_ble_eq_true rfl) (hP _ ⟨fun _ => rfl, rfl, rfl, by show nA G + 1 ≤ 6; omega, gT20, ⟨a1, a2, fun i hi => ?_, Or.inr a3⟩, glT, fun i j hi hj e => ?_, fun e => absurd e (by show cap' ≠ 0; omega), gzT⟩)
  · show f' i = some (aA (gA G b E' ((lA G).2.1 + 1) cap' f') i)
    rcases Nat.lt_succ_iff_lt_or_eq.mp hi with h | h
    · rw [gA_old h, a4 i h]
      exact hl3 i h
    · rw [h, gA_new, a5]
  · rcases Nat.lt_succ_iff_lt_or_eq.mp hi with h | h <;> rcases Nat.lt_succ_iff_lt_or_eq.mp hj with h2 | h2
    · rw [gA_old h, gA_old h2] at e
      exact ginj i j h h2 e
    · rw [gA_old h, h2, gA_new] at e
      exact absurd e (nodup_app hnd h)
    · rw [gA_old h2, h, gA_new] at e
      exact absurd e.symm (nodup_app hnd h2)
    · rw [h, h2]
def C_addAgent (na nt : Nat) (v : S2) (r : R2) (p0 : Int32) (p1 : Int32) (p2 : Int32) (p3 : Int32) : Nat × Int32 × S2 × R2 := if (C_isSetOfSkills p0) = true then (if p1 < 1 then (1, 0, v, r) else if 127 < p1 then (1, 0, v, r) else if (C_isSpanOfDay p2 p3) = true then (if (nI na) < 6 then (0, nI na, C_nA v na p0 p1 p2 p3, C_rA r na) else (3, 0, v, r)) else (1, 0, v, r)) else (1, 0, v, r)
set_option maxHeartbeats 4000000 in
set_option maxRecDepth 100000 in
theorem qX3_addAgent (l : Launch) (hst : l.stackTraces = false) (D : va_G) (G : CG) (v : S2) (r : R2) (p0 : Int32) (p1 : Int32) (p2 : Int32) (p3 : Int32) (hG : GI D G) (hC : CI G v r) : CX l D yX3_addAgent cX3_addAgent 6 (some .int) 7 201 2 45 (CW D G v r) [.ref (G.1 0 0), .int p0, .int p1, .int p2, .int p3] (fun u w => (C_addAgent (nA G) (nT G) v r p0 p1 p2 p3).1 = 0 ∧ ∃ G', Gx D G G' 1 0 ∧ u = some (.int (C_addAgent (nA G) (nT G) v r p0 p1 p2 p3).2.1) ∧ w = CW D G' (C_addAgent (nA G) (nT G) v r p0 p1 p2 p3).2.2.1 (C_addAgent (nA G) (nT G) v r p0 p1 p2 p3).2.2.2) (fun E => (C_addAgent (nA G) (nT G) v r p0 p1 p2 p3).1 ≠ 0 ∧ E = xE (C_addAgent (nA G) (nT G) v r p0 p1 p2 p3).1) := by
  refine CX_of [some (.ref (G.1 0 0)), some (.int p0), some (.int p1), some (.int p2), some (.int p3), none] hst (by decide +kernel) rfl (Nat.le_of_ble_eq_true rfl) (fun k F hl hD hR hX hNT => ?_)
  subst hl hD
  refine j_iloadn F dX3_addAgent_0 rfl ?_
  refine j_rdS F (qX3_isSetOfSkills (kl k) hst (kD k) p0) lk_X3_72 dX3_addAgent_1 ⟨(Nat.le_of_ble_eq_true rfl), (Nat.le_of_ble_eq_true rfl)⟩ (fun _ h => nomatch h) rfl (Nat.le_of_ble_eq_true rfl) ⟨(Nat.le_of_ble_eq_true rfl), (Nat.le_of_ble_eq_true rfl)⟩ ?_
  refine j_ifbeq F (tgt := 27) dX3_addAgent_4 (by decide) (fun h4 => ?_) (fun h4 => ?_)
  · have hz : C_addAgent (nA G) (nT G) v r p0 p1 p2 p3 = (1, 0, v, r) := by rw [C_addAgent, if_neg h4]
    exact j_throw F hX hNT lt_eA (text := "no such agent can be added") (by decide +kernel) ⟨by rw [hz]; exact (Nat.succ_ne_zero _), by rw [hz]; rfl⟩ dX3_addAgent_27 dX3_addAgent_30 dX3_addAgent_31 dX3_addAgent_33 dX3_addAgent_36 ⟨(Nat.le_of_ble_eq_true rfl), (Nat.le_of_ble_eq_true rfl), (Nat.le_of_ble_eq_true rfl), (Nat.le_of_ble_eq_true rfl)⟩ (Nat.le_of_ble_eq_true rfl) (Nat.le_of_ble_eq_true rfl)
  · refine j_iloadn F dX3_addAgent_7 rfl ?_
    refine j_iconst F (v := 1) dX3_addAgent_8 (by decide) ?_
    refine j_iclt F (tgt := 27) dX3_addAgent_9 (by decide) (fun h9 => ?_) (fun h9 => ?_)
    · have hz : C_addAgent (nA G) (nT G) v r p0 p1 p2 p3 = (1, 0, v, r) := by rw [C_addAgent, if_pos h4, if_pos h9]
      exact j_throw F hX hNT lt_eA (text := "no such agent can be added") (by decide +kernel) ⟨by rw [hz]; exact (Nat.succ_ne_zero _), by rw [hz]; rfl⟩ dX3_addAgent_27 dX3_addAgent_30 dX3_addAgent_31 dX3_addAgent_33 dX3_addAgent_36 ⟨(Nat.le_of_ble_eq_true rfl), (Nat.le_of_ble_eq_true rfl), (Nat.le_of_ble_eq_true rfl), (Nat.le_of_ble_eq_true rfl)⟩ (Nat.le_of_ble_eq_true rfl) (Nat.le_of_ble_eq_true rfl)
    · refine j_iloadn F dX3_addAgent_12 rfl ?_
      refine j_bipush F (v := 127) dX3_addAgent_13 (by decide) ?_
      refine j_icgt F (tgt := 27) dX3_addAgent_15 (by decide) (fun h15 => ?_) (fun h15 => ?_)
      · have hz : C_addAgent (nA G) (nT G) v r p0 p1 p2 p3 = (1, 0, v, r) := by rw [C_addAgent, if_pos h4, if_neg h9, if_pos h15]
        exact j_throw F hX hNT lt_eA (text := "no such agent can be added") (by decide +kernel) ⟨by rw [hz]; exact (Nat.succ_ne_zero _), by rw [hz]; rfl⟩ dX3_addAgent_27 dX3_addAgent_30 dX3_addAgent_31 dX3_addAgent_33 dX3_addAgent_36 ⟨(Nat.le_of_ble_eq_true rfl), (Nat.le_of_ble_eq_true rfl), (Nat.le_of_ble_eq_true rfl), (Nat.le_of_ble_eq_true rfl)⟩ (Nat.le_of_ble_eq_true rfl) (Nat.le_of_ble_eq_true rfl)
      · refine j_iloadn F dX3_addAgent_18 rfl ?_
        refine j_iload F dX3_addAgent_19 rfl ?_
        refine j_rdS F (qX3_isSpanOfDay (kl k) hst (kD k) p2 p3) lk_X3_37 dX3_addAgent_21 ⟨(Nat.le_of_ble_eq_true rfl), (Nat.le_of_ble_eq_true rfl)⟩ (fun _ h => nomatch h) rfl (Nat.le_of_ble_eq_true rfl) ⟨(Nat.le_of_ble_eq_true rfl), (Nat.le_of_ble_eq_true rfl)⟩ ?_
        refine j_ifbne F (tgt := 37) dX3_addAgent_24 (by decide) (fun h24 => ?_) (fun h24 => ?_)
        · refine j_aloadn F dX3_addAgent_37 rfl ?_
          refine gf_X3_26 F (v := .ref (G.1 0 4)) dX3_addAgent_38 0 rfl rfl ?_
          refine j_sizeA F lk_X3_77 dX3_addAgent_41 ⟨(Nat.le_of_ble_eq_true rfl), (Nat.le_of_ble_eq_true rfl)⟩ (Nat.le_of_ble_eq_true rfl) ⟨(Nat.le_of_ble_eq_true rfl), (Nat.le_of_ble_eq_true rfl)⟩ hst ?_
          refine j_bipush F (v := 6) dX3_addAgent_44 (by decide) ?_
          refine j_iclt F (tgt := 59) dX3_addAgent_46 (by decide) (fun h46 => ?_) (fun h46 => ?_)
          · have hz : C_addAgent (nA G) (nT G) v r p0 p1 p2 p3 = (0, nI (nA G), C_nA v (nA G) p0 p1 p2 p3, C_rA r (nA G)) := by rw [C_addAgent, if_pos h4, if_neg h9, if_neg h15, if_pos h24, if_pos h46]
            exact addTail F hst hR hG hC ((nI_ltI (by have := hG.nA; omega) (b := 6) (by decide)).mp h46) (fun G' hx => ⟨by rw [hz], G', hx, by rw [hz], by rw [hz]⟩)
          · have hz : C_addAgent (nA G) (nT G) v r p0 p1 p2 p3 = (3, 0, v, r) := by rw [C_addAgent, if_pos h4, if_neg h9, if_neg h15, if_pos h24, if_neg h46]
            exact j_throw F hX hNT lt_eS (text := "there are as many agents as there may be") (by decide +kernel) ⟨by rw [hz]; exact (Nat.succ_ne_zero _), by rw [hz]; rfl⟩ dX3_addAgent_49 dX3_addAgent_52 dX3_addAgent_53 dX3_addAgent_55 dX3_addAgent_58 ⟨(Nat.le_of_ble_eq_true rfl), (Nat.le_of_ble_eq_true rfl), (Nat.le_of_ble_eq_true rfl), (Nat.le_of_ble_eq_true rfl)⟩ (Nat.le_of_ble_eq_true rfl) (Nat.le_of_ble_eq_true rfl)
        · have hz : C_addAgent (nA G) (nT G) v r p0 p1 p2 p3 = (1, 0, v, r) := by rw [C_addAgent, if_pos h4, if_neg h9, if_neg h15, if_neg h24]
          exact j_throw F hX hNT lt_eA (text := "no such agent can be added") (by decide +kernel) ⟨by rw [hz]; exact (Nat.succ_ne_zero _), by rw [hz]; rfl⟩ dX3_addAgent_27 dX3_addAgent_30 dX3_addAgent_31 dX3_addAgent_33 dX3_addAgent_36 ⟨(Nat.le_of_ble_eq_true rfl), (Nat.le_of_ble_eq_true rfl), (Nat.le_of_ble_eq_true rfl), (Nat.le_of_ble_eq_true rfl)⟩ (Nat.le_of_ble_eq_true rfl) (Nat.le_of_ble_eq_true rfl)
def C_open (na nt : Nat) (v : S2) (r : R2) (p0 : Int32) (p1 : Int32) (p2 : Int32) (p3 : Int32) : Nat × Int32 × S2 × R2 := if p0 < 0 then (1, 0, v, r) else if 8 ≤ p0 then (1, 0, v, r) else if (C_isPriority p1) = true then (if p2 < 1 then (1, 0, v, r) else if 600 < p2 then (1, 0, v, r) else if p3 < 0 then (1, 0, v, r) else if p3 < 10 then (if (nI nt) < 20 then (0, nI nt, C_nT v nt p0 p1 p2 p3, C_rT r nt) else (3, 0, v, r)) else (1, 0, v, r)) else (1, 0, v, r)
set_option maxHeartbeats 4000000 in
set_option maxRecDepth 100000 in
theorem qX3_open (l : Launch) (hst : l.stackTraces = false) (D : va_G) (G : CG) (v : S2) (r : R2) (p0 : Int32) (p1 : Int32) (p2 : Int32) (p3 : Int32) (hG : GI D G) (hC : CI G v r) : CX l D yX3_open cX3_open 6 (some .int) 7 201 2 45 (CW D G v r) [.ref (G.1 0 0), .int p0, .int p1, .int p2, .int p3] (fun u w => (C_open (nA G) (nT G) v r p0 p1 p2 p3).1 = 0 ∧ ∃ G', Gx D G G' 0 1 ∧ u = some (.int (C_open (nA G) (nT G) v r p0 p1 p2 p3).2.1) ∧ w = CW D G' (C_open (nA G) (nT G) v r p0 p1 p2 p3).2.2.1 (C_open (nA G) (nT G) v r p0 p1 p2 p3).2.2.2) (fun E => (C_open (nA G) (nT G) v r p0 p1 p2 p3).1 ≠ 0 ∧ E = xE (C_open (nA G) (nT G) v r p0 p1 p2 p3).1) := by
  refine CX_of [some (.ref (G.1 0 0)), some (.int p0), some (.int p1), some (.int p2), some (.int p3), none] hst (by decide +kernel) rfl (Nat.le_of_ble_eq_true rfl) (fun k F hl hD hR hX hNT => ?_)
  subst hl hD
  refine j_iloadn F dX3_open_0 rfl ?_
  refine j_iflt F (tgt := 41) dX3_open_1 (by decide) (fun h1 => ?_) (fun h1 => ?_)
  · have hz : C_open (nA G) (nT G) v r p0 p1 p2 p3 = (1, 0, v, r) := by rw [C_open, if_pos h1]
    exact j_throw F hX hNT lt_eA (text := "no such ticket can be opened") (by decide +kernel) ⟨by rw [hz]; exact (Nat.succ_ne_zero _), by rw [hz]; rfl⟩ dX3_open_41 dX3_open_44 dX3_open_45 dX3_open_47 dX3_open_50 ⟨(Nat.le_of_ble_eq_true rfl), (Nat.le_of_ble_eq_true rfl), (Nat.le_of_ble_eq_true rfl), (Nat.le_of_ble_eq_true rfl)⟩ (Nat.le_of_ble_eq_true rfl) (Nat.le_of_ble_eq_true rfl)
  · refine j_iloadn F dX3_open_4 rfl ?_
    refine j_bipush F (v := 8) dX3_open_5 (by decide) ?_
    refine j_icge F (tgt := 41) dX3_open_7 (by decide) (fun h7 => ?_) (fun h7 => ?_)
    · have hz : C_open (nA G) (nT G) v r p0 p1 p2 p3 = (1, 0, v, r) := by rw [C_open, if_neg h1, if_pos h7]
      exact j_throw F hX hNT lt_eA (text := "no such ticket can be opened") (by decide +kernel) ⟨by rw [hz]; exact (Nat.succ_ne_zero _), by rw [hz]; rfl⟩ dX3_open_41 dX3_open_44 dX3_open_45 dX3_open_47 dX3_open_50 ⟨(Nat.le_of_ble_eq_true rfl), (Nat.le_of_ble_eq_true rfl), (Nat.le_of_ble_eq_true rfl), (Nat.le_of_ble_eq_true rfl)⟩ (Nat.le_of_ble_eq_true rfl) (Nat.le_of_ble_eq_true rfl)
    · refine j_iloadn F dX3_open_10 rfl ?_
      refine j_rdS F (qX3_isPriority (kl k) hst (kD k) p1) lk_X3_54 dX3_open_11 ⟨(Nat.le_of_ble_eq_true rfl), (Nat.le_of_ble_eq_true rfl)⟩ (fun _ h => nomatch h) rfl (Nat.le_of_ble_eq_true rfl) ⟨(Nat.le_of_ble_eq_true rfl), (Nat.le_of_ble_eq_true rfl)⟩ ?_
      refine j_ifbeq F (tgt := 41) dX3_open_14 (by decide) (fun h14 => ?_) (fun h14 => ?_)
      · have hz : C_open (nA G) (nT G) v r p0 p1 p2 p3 = (1, 0, v, r) := by rw [C_open, if_neg h1, if_neg h7, if_neg h14]
        exact j_throw F hX hNT lt_eA (text := "no such ticket can be opened") (by decide +kernel) ⟨by rw [hz]; exact (Nat.succ_ne_zero _), by rw [hz]; rfl⟩ dX3_open_41 dX3_open_44 dX3_open_45 dX3_open_47 dX3_open_50 ⟨(Nat.le_of_ble_eq_true rfl), (Nat.le_of_ble_eq_true rfl), (Nat.le_of_ble_eq_true rfl), (Nat.le_of_ble_eq_true rfl)⟩ (Nat.le_of_ble_eq_true rfl) (Nat.le_of_ble_eq_true rfl)
      · refine j_iloadn F dX3_open_17 rfl ?_
        refine j_iconst F (v := 1) dX3_open_18 (by decide) ?_
        refine j_iclt F (tgt := 41) dX3_open_19 (by decide) (fun h19 => ?_) (fun h19 => ?_)
        · have hz : C_open (nA G) (nT G) v r p0 p1 p2 p3 = (1, 0, v, r) := by rw [C_open, if_neg h1, if_neg h7, if_pos h14, if_pos h19]
          exact j_throw F hX hNT lt_eA (text := "no such ticket can be opened") (by decide +kernel) ⟨by rw [hz]; exact (Nat.succ_ne_zero _), by rw [hz]; rfl⟩ dX3_open_41 dX3_open_44 dX3_open_45 dX3_open_47 dX3_open_50 ⟨(Nat.le_of_ble_eq_true rfl), (Nat.le_of_ble_eq_true rfl), (Nat.le_of_ble_eq_true rfl), (Nat.le_of_ble_eq_true rfl)⟩ (Nat.le_of_ble_eq_true rfl) (Nat.le_of_ble_eq_true rfl)
        · refine j_iloadn F dX3_open_22 rfl ?_
          refine j_sipush F (v := 600) dX3_open_23 (by decide) ?_
          refine j_icgt F (tgt := 41) dX3_open_26 (by decide) (fun h26 => ?_) (fun h26 => ?_)
          · have hz : C_open (nA G) (nT G) v r p0 p1 p2 p3 = (1, 0, v, r) := by rw [C_open, if_neg h1, if_neg h7, if_pos h14, if_neg h19, if_pos h26]
            exact j_throw F hX hNT lt_eA (text := "no such ticket can be opened") (by decide +kernel) ⟨by rw [hz]; exact (Nat.succ_ne_zero _), by rw [hz]; rfl⟩ dX3_open_41 dX3_open_44 dX3_open_45 dX3_open_47 dX3_open_50 ⟨(Nat.le_of_ble_eq_true rfl), (Nat.le_of_ble_eq_true rfl), (Nat.le_of_ble_eq_true rfl), (Nat.le_of_ble_eq_true rfl)⟩ (Nat.le_of_ble_eq_true rfl) (Nat.le_of_ble_eq_true rfl)
          · refine j_iload F dX3_open_29 rfl ?_
            refine j_iflt F (tgt := 41) dX3_open_31 (by decide) (fun h31 => ?_) (fun h31 => ?_)
            · have hz : C_open (nA G) (nT G) v r p0 p1 p2 p3 = (1, 0, v, r) := by rw [C_open, if_neg h1, if_neg h7, if_pos h14, if_neg h19, if_neg h26, if_pos h31]
              exact j_throw F hX hNT lt_eA (text := "no such ticket can be opened") (by decide +kernel) ⟨by rw [hz]; exact (Nat.succ_ne_zero _), by rw [hz]; rfl⟩ dX3_open_41 dX3_open_44 dX3_open_45 dX3_open_47 dX3_open_50 ⟨(Nat.le_of_ble_eq_true rfl), (Nat.le_of_ble_eq_true rfl), (Nat.le_of_ble_eq_true rfl), (Nat.le_of_ble_eq_true rfl)⟩ (Nat.le_of_ble_eq_true rfl) (Nat.le_of_ble_eq_true rfl)
            · refine j_iload F dX3_open_34 rfl ?_
              refine j_bipush F (v := 10) dX3_open_36 (by decide) ?_
              refine j_iclt F (tgt := 51) dX3_open_38 (by decide) (fun h38 => ?_) (fun h38 => ?_)
              · refine j_aloadn F dX3_open_51 rfl ?_
                refine gf_X3_30 F (v := .ref (G.1 0 5)) dX3_open_52 0 rfl rfl ?_
                refine j_sizeT F lk_X3_77 dX3_open_55 ⟨(Nat.le_of_ble_eq_true rfl), (Nat.le_of_ble_eq_true rfl)⟩ (Nat.le_of_ble_eq_true rfl) ⟨(Nat.le_of_ble_eq_true rfl), (Nat.le_of_ble_eq_true rfl)⟩ hst ?_
                refine j_bipush F (v := 20) dX3_open_58 (by decide) ?_
                refine j_iclt F (tgt := 73) dX3_open_60 (by decide) (fun h60 => ?_) (fun h60 => ?_)
                · have hz : C_open (nA G) (nT G) v r p0 p1 p2 p3 = (0, nI (nT G), C_nT v (nT G) p0 p1 p2 p3, C_rT r (nT G)) := by rw [C_open, if_neg h1, if_neg h7, if_pos h14, if_neg h19, if_neg h26, if_neg h31, if_pos h38, if_pos h60]
                  exact openTail F hst hR hG hC ((nI_ltI (by have := hG.nT; omega) (b := 20) (by decide)).mp h60) (fun G' hx => ⟨by rw [hz], G', hx, by rw [hz], by rw [hz]⟩)
                · have hz : C_open (nA G) (nT G) v r p0 p1 p2 p3 = (3, 0, v, r) := by rw [C_open, if_neg h1, if_neg h7, if_pos h14, if_neg h19, if_neg h26, if_neg h31, if_pos h38, if_neg h60]
                  exact j_throw F hX hNT lt_eS (text := "there are as many tickets as there may be") (by decide +kernel) ⟨by rw [hz]; exact (Nat.succ_ne_zero _), by rw [hz]; rfl⟩ dX3_open_63 dX3_open_66 dX3_open_67 dX3_open_69 dX3_open_72 ⟨(Nat.le_of_ble_eq_true rfl), (Nat.le_of_ble_eq_true rfl), (Nat.le_of_ble_eq_true rfl), (Nat.le_of_ble_eq_true rfl)⟩ (Nat.le_of_ble_eq_true rfl) (Nat.le_of_ble_eq_true rfl)
              · have hz : C_open (nA G) (nT G) v r p0 p1 p2 p3 = (1, 0, v, r) := by rw [C_open, if_neg h1, if_neg h7, if_pos h14, if_neg h19, if_neg h26, if_neg h31, if_neg h38]
                exact j_throw F hX hNT lt_eA (text := "no such ticket can be opened") (by decide +kernel) ⟨by rw [hz]; exact (Nat.succ_ne_zero _), by rw [hz]; rfl⟩ dX3_open_41 dX3_open_44 dX3_open_45 dX3_open_47 dX3_open_50 ⟨(Nat.le_of_ble_eq_true rfl), (Nat.le_of_ble_eq_true rfl), (Nat.le_of_ble_eq_true rfl), (Nat.le_of_ble_eq_true rfl)⟩ (Nat.le_of_ble_eq_true rfl) (Nat.le_of_ble_eq_true rfl)
