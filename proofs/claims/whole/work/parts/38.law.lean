/-! THE LAW'S BODY, case by case -/
section LSCRIPT
variable {k : Kx} {cc : ByteArray} {own : String} {R : Room} {nL : Nat} {ws : va_W} {c n pc : Nat} {lv : List (Option Value)} {st : List Value}
theorem j_sld (F : Fx k cc own R nL) {b Ls i : Nat} {xs : Nat → Int32} (hX : va_X b Ls xs (ks k) (ks k).heap) (hbl : b < (ks k).heap.size) (hbA : ¬ kA k b) (hd : decode cc pc = .ok (.iaload, 1)) (hi : i < Ls) (hL : Ls < 2 ^ 31) (K : J k ws c n (pc + 1) lv (.int (xs i) :: st)) : J k ws c n pc lv (.int (nI i) :: .ref b :: st) := fun H locs ls hP hL2 =>
  va_sld F.hx F.hb hX hbl hbA hP.2.2.1 (vp_in_nI hi hL) hd (by rw [nI_clamp (Nat.lt_trans hi hL)]; exact K H locs ls hP hL2)
theorem j_slen (F : Fx k cc own R nL) {b Ls : Nat} {xs : Nat → Int32} (hX : va_X b Ls xs (ks k) (ks k).heap) (hbl : b < (ks k).heap.size) (hbA : ¬ kA k b) (hd : decode cc pc = .ok (.arraylength, 1)) (K : J k ws c n (pc + 1) lv (.int (nI Ls) :: st)) : J k ws c n pc lv (.ref b :: st) := fun H locs ls hP hL2 =>
  va_slen F.hx F.hb hX hbl hbA hP.2.2.1 hd (K H locs ls hP hL2)
end LSCRIPT
def LEnd (k : Kx) (G : CG) (d : Nat → Nat) (o b i N c n : Nat) : Prop := ∀ (G' : CG) (v' : S2) (r' : R2) (s' : S2) (f' : Nat → Int64) (c' n' : Nat) (x5 x6 x7 x8 : Option Value), GI (kD k) G' → (∀ j, G'.1 0 j = G.1 0 j) → Rel (N + 1) (nA G') (nT G') v' r' s' → c' ≤ c + 4 → n' ≤ n + 60 → J k (MW (kD k) d s' ++ (CW (kD k) G' v' r' ++ [lng (kD k) o f'])) c' n' 1550 [some (.ref b), some (.ref (G.1 0 0)), some (.ref (d 0)), some (.ref o), some (.int (nI i)), x5, x6, x7, x8] []
theorem Rel.ci {N : Nat} {G : CG} {v : S2} {r : R2} {s : S2} (h : Rel N (nA G) (nT G) v r s) : CI G v r := ⟨fun t ht => (h.tk t ht).priob, fun i hi t e => ((h.ag i hi).heldb t e).1, fun t ht a e => ((h.tk t ht).holdb a e).1, fun t ht a e => (h.tk t ht).latb a e, fun t ht u e => by
  by_cases h4 : v 24 t = 4
  · obtain ⟨w, hw, e2, _⟩ := (h.tk t ht).mrg h4
    rw [e] at e2; cases e2; exact hw
  · rw [(h.tk t ht).nmrg h4] at e; cases e⟩
theorem Rel.min1 {N na nt : Nat} {v : S2} {r : R2} {s : S2} (h : Rel N na nt v r s) : vp_in (v 0 0) 100001 := by
  have := vp_in_iff.mp h.minb
  exact vp_in_iff.mpr ⟨this.1, by omega⟩
theorem Rel.min2 {N na nt : Nat} {v : S2} {r : R2} {s : S2} (h : Rel N na nt v r s) : ∃ n, n ≤ 99999 ∧ s 0 1 = nI n := ⟨ix (v 0 0), by have := vp_lt h.minb; omega, by rw [h.min]; exact in_nI h.minb⟩
theorem KC.uniq {h : List Nat} {x : Nat} {a b : Int32} (hn : ∀ i, i < h.length → ∀ j, j < h.length → h[i]? = h[j]? → i = j) (ha : KC h x a) (hb : KC h x b) : a = b := by
  rcases ha with ⟨e, rfl⟩ | ⟨e, j, hj, rfl⟩
  · rcases hb with ⟨_, rfl⟩ | ⟨e2, _⟩
    · rfl
    · exact absurd e e2
  · rcases hb with ⟨e2, _⟩ | ⟨_, j2, hj2, rfl⟩
    · exact absurd e2 e
    · rw [hn j (List.getElem?_eq_some_iff.mp hj).1 j2 (List.getElem?_eq_some_iff.mp hj2).1 (hj.trans hj2.symm)]
theorem KC.zero {h : List Nat} {x : Nat} {a : Int32} (ha : KC h x a) (h0 : a = 0) (hl : h.length ≤ 100 := by decide) : x = 0 := by
  rcases ha with ⟨e, _⟩ | ⟨_, j, hj, rfl⟩
  · exact e
  · exact absurd h0 (nI_ne0 (by omega) (by have := (List.getElem?_eq_some_iff.mp hj).1; omega))
theorem wrap_eq {α : Type} {D : va_G} {G : CG} {v : S2} {r : R2} {o : Nat} {f : Nat → Int64} {w : va_W} {c : Nat × α × S2 × R2} (hk : c.1 ≠ 0 → c.2.2 = (v, r)) (hw : (c.1 = 0 ∧ w = CW D G c.2.2.1 c.2.2.2 ++ [lng D o f]) ∨ (c.1 ≠ 0 ∧ w = CW D G v r ++ [lng D o f])) : CW D G c.2.2.1 c.2.2.2 ++ [lng D o f] = w := by
  rcases hw with ⟨_, e⟩ | ⟨h, e⟩
  · exact e.symm
  · rw [e, hk h]
theorem agn_world {D : va_G} {G : CG} {v : S2} {r : R2} {o : Nat} {f : Nat → Int64} {w : va_W} {c : Nat × Int32 × S2 × R2} {m : Int32 × S2} {hl : List Nat} {N da dt : Nat} (hG : GI D G) (hA : AGN hl N (nA G) (nT G) (nA G + da) (nT G + dt) v r c m) (hw : (c.1 = 0 ∧ ∃ G', Gx D G G' da dt ∧ w = CW D G' c.2.2.1 c.2.2.2 ++ [lng D o f]) ∨ (c.1 ≠ 0 ∧ w = CW D G v r ++ [lng D o f])) : ∃ (G' : CG) (v' : S2) (r' : R2), (∀ j, G'.1 0 j = G.1 0 j) ∧ GI D G' ∧ CW D G' v' r' ++ [lng D o f] = w ∧ Rel (N + 1) (nA G') (nT G') v' r' m.2 := by
  rcases hw with ⟨h0, G', ⟨g1, g2, g3, g4⟩, e⟩ | ⟨h0, e⟩
  · exact ⟨G', _, _, g1, g4, e.symm, by rw [g2, g3]; exact (hA.2.1 h0).2⟩
  · exact ⟨G, v, r, fun _ => rfl, hG, e.symm, hA.2.2 h0⟩
theorem lng_at {w : va_W} {D : va_G} {G : CG} {v : S2} {r : R2} {o : Nat} {f : Nat → Int64} : ∃ q : Nat, (w ++ (CW D G v r ++ [lng D o f]))[q]? = some (lng D o f) := List.getElem?_of_mem (List.mem_append_right _ (List.mem_append_right _ (List.mem_singleton.mpr rfl)))
theorem lcmp_self (x : Int64) : lg_cmp x x = 0 := by
  unfold lg_cmp
  simp [Int64.lt_irrefl]
theorem keep_setHours (na nt : Nat) (v : S2) (r : R2) (p0 p1 : Int32) : (C_setHours na nt v r p0 p1).1 ≠ 0 → (C_setHours na nt v r p0 p1).2.2 = (v, r) := by
  unfold C_setHours
  repeat' split
  all_goals first | exact fun h => absurd rfl h | exact fun _ => rfl
theorem keep_setTargets (na nt : Nat) (v : S2) (r : R2) (p0 p1 p2 : Int32) : (C_setTargets na nt v r p0 p1 p2).1 ≠ 0 → (C_setTargets na nt v r p0 p1 p2).2.2 = (v, r) := by
  unfold C_setTargets
  repeat' split
  all_goals first | exact fun h => absurd rfl h | exact fun _ => rfl
theorem keep_service (na nt : Nat) (v : S2) (r : R2) (p0 p1 : Int32) : (C_service na nt v r p0 p1).1 ≠ 0 → (C_service na nt v r p0 p1).2.2 = (v, r) := by
  unfold C_service
  repeat' split
  all_goals first | exact fun h => absurd rfl h | exact fun _ => rfl
theorem keep_setSkills (na nt : Nat) (v : S2) (r : R2) (p0 p1 : Int32) : (C_setSkills na nt v r p0 p1).1 ≠ 0 → (C_setSkills na nt v r p0 p1).2.2 = (v, r) := by
  unfold C_setSkills
  repeat' split
  all_goals first | exact fun h => absurd rfl h | exact fun _ => rfl
theorem keep_agent (na nt : Nat) (v : S2) (r : R2) (p0 p1 : Int32) : (C_agent na nt v r p0 p1).1 ≠ 0 → (C_agent na nt v r p0 p1).2.2 = (v, r) := by
  unfold C_agent
  repeat' split
  all_goals first | exact fun h => absurd rfl h | exact fun _ => rfl
theorem keep_next (na nt : Nat) (v : S2) (r : R2) (p0 : Int32) : (C_next na nt v r p0).1 ≠ 0 → (C_next na nt v r p0).2.2 = (v, r) := by
  unfold C_next
  repeat' split
  all_goals first | exact fun h => absurd rfl h | exact fun _ => rfl
theorem keep_setPriority (na nt : Nat) (v : S2) (r : R2) (p0 p1 : Int32) : (C_setPriority na nt v r p0 p1).1 ≠ 0 → (C_setPriority na nt v r p0 p1).2.2 = (v, r) := by
  unfold C_setPriority
  repeat' split
  all_goals first | exact fun h => absurd rfl h | exact fun _ => rfl
theorem keep_pause (na nt : Nat) (v : S2) (r : R2) (p0 : Int32) : (C_pause na nt v r p0).1 ≠ 0 → (C_pause na nt v r p0).2.2 = (v, r) := by
  unfold C_pause
  repeat' split
  all_goals first | exact fun h => absurd rfl h | exact fun _ => rfl
theorem keep_resume (na nt : Nat) (v : S2) (r : R2) (p0 : Int32) : (C_resume na nt v r p0).1 ≠ 0 → (C_resume na nt v r p0).2.2 = (v, r) := by
  unfold C_resume
  repeat' split
  all_goals first | exact fun h => absurd rfl h | exact fun _ => rfl
theorem keep_merge (na nt : Nat) (v : S2) (r : R2) (p0 p1 : Int32) : (C_merge na nt v r p0 p1).1 ≠ 0 → (C_merge na nt v r p0 p1).2.2 = (v, r) := by
  unfold C_merge
  repeat' split
  all_goals first | exact fun h => absurd rfl h | exact fun _ => rfl
theorem keep_reopen (na nt : Nat) (v : S2) (r : R2) (p0 p1 : Int32) : (C_reopen na nt v r p0 p1).1 ≠ 0 → (C_reopen na nt v r p0 p1).2.2 = (v, r) := by
  unfold C_reopen
  repeat' split
  all_goals first | exact fun h => absurd rfl h | exact fun _ => rfl
theorem keep_ticket (na nt : Nat) (v : S2) (r : R2) (p0 p1 : Int32) : (C_ticket na nt v r p0 p1).1 ≠ 0 → (C_ticket na nt v r p0 p1).2.2 = (v, r) := by
  unfold C_ticket
  repeat' split
  all_goals first | exact fun h => absurd rfl h | exact fun _ => rfl
theorem keep_main (na nt : Nat) (v : S2) (r : R2) (p0 : Int32) : (C_main na nt v r p0).1 ≠ 0 → (C_main na nt v r p0).2.2 = (v, r) := by
  unfold C_main
  repeat' split
  all_goals first | exact fun h => absurd rfl h | exact fun _ => rfl
theorem keep_customers (na nt : Nat) (v : S2) (r : R2) (p0 : Int32) : (C_customers na nt v r p0).1 ≠ 0 → (C_customers na nt v r p0).2.2 = (v, r) := by
  unfold C_customers
  repeat' split
  all_goals first | exact fun h => absurd rfl h | exact fun _ => rfl
theorem keep_due (na nt : Nat) (v : S2) (r : R2) (p0 : Int32) : (C_due na nt v r p0).1 ≠ 0 → (C_due na nt v r p0).2.2 = (v, r) := by
  unfold C_due
  repeat' split
  all_goals first | exact fun h => absurd rfl h | exact fun _ => rfl
theorem keep_pass (na nt : Nat) (v : S2) (r : R2) (p0 : Int32) : (C_pass na nt v r p0).1 ≠ 0 → (C_pass na nt v r p0).2.2 = (v, r) := by
  unfold C_pass
  repeat' split
  all_goals first | exact fun h => absurd rfl h | exact fun _ => rfl
theorem keep_all (na nt : Nat) (v : S2) (r : R2) (p0 : Int32) : (C_all na nt v r p0).1 ≠ 0 → (C_all na nt v r p0).2.2 = (v, r) := by
  unfold C_all
  repeat' split
  all_goals first | exact fun h => absurd rfl h | exact fun _ => rfl
set_option maxRecDepth 100000 in
set_option maxHeartbeats 4000000 in
theorem case_0 {k : Kx} (F : Fx k code RL room_1 9) (hw : kw k = true) (hst : (kl k).stackTraces = false) {b o i Ls c n N : Nat} {xs : Nat → Int32} (hX : va_X b Ls xs (ks k) (ks k).heap) (hbl : b < (ks k).heap.size) (hbA : ¬ kA k b) (hi : i + 5 ≤ Ls) (hLs : Ls ≤ 2560) (hc : c ≤ 600000) (hn : n ≤ 7000000) (hN : N ≤ 1000) {G : CG} {v : S2} {r : R2} {s : S2} {d : Nat → Nat} {f : Nat → Int64} {x5 x6 x7 x8 : Option Value} (hG : GI (kD k) G) (hr : Rel N (nA G) (nT G) v r s) (K : LEnd k G d o b i N c n) : J k ((CW (kD k) G v r ++ [lng (kD k) o f]) ++ MW (kD k) d s) c n 152 [some (.ref b), some (.ref (G.1 0 0)), some (.ref (d 0)), some (.ref o), some (.int (nI i)), x5, x6, x7, x8] [] := by
  refine j_aloadn F dL_law_152 rfl ?_
  refine j_aloadn F dL_law_153 rfl ?_
  refine j_iload F dL_law_154 rfl ?_
  refine j_iconst F (v := 1) dL_law_156 (by decide) ?_
  refine j_iaddN F (a := i) (b := 1) dL_law_157 ?_
  refine j_sld F hX hbl hbA dL_law_158 (show i + 1 < Ls by omega) (by omega) ?_
  refine j_aloadn F dL_law_159 rfl ?_
  refine j_iload F dL_law_160 rfl ?_
  refine j_iconst F (v := 2) dL_law_162 (by decide) ?_
  refine j_iaddN F (a := i) (b := 2) dL_law_163 ?_
  refine j_sld F hX hbl hbA dL_law_164 (show i + 2 < Ls by omega) (by omega) ?_
  refine j_aloadn F dL_law_165 rfl ?_
  refine j_cxhS F hw (qL_setHours (kl k) hst (kD k) G v r o f (xs (i + 1)) (xs (i + 2))) lh_L_81 dL_law_166 ⟨(Nat.le_of_ble_eq_true rfl), (Nat.le_of_ble_eq_true rfl)⟩ rfl (Nat.le_of_ble_eq_true rfl) ⟨by show c + 1 ≤ 601024; omega, by show n + 6 ≤ 7293034; omega⟩ (fun u w1 hp => ?_)
  obtain ⟨kk, f', rfl, hkc, hval, hw1⟩ := hp
  have hA := AG_setHours hr (xs (i + 1)) (xs (i + 2))
  obtain rfl := wrap_eq (keep_setHours _ _ _ _ (xs (i + 1)) (xs (i + 2))) hw1
  refine j_istore F [some (.ref b), some (.ref (G.1 0 0)), some (.ref (d 0)), some (.ref o), some (.int (nI i)), some (.int kk), x6, x7, x8] dL_law_169 rfl rfl rfl ?_
  refine j_aloadn F dL_law_171 rfl ?_
  refine j_aloadn F dL_law_172 rfl ?_
  refine j_iload F dL_law_173 rfl ?_
  refine j_iconst F (v := 1) dL_law_175 (by decide) ?_
  refine j_iaddN F (a := i) (b := 1) dL_law_176 ?_
  refine j_sld F hX hbl hbA dL_law_177 (show i + 1 < Ls by omega) (by omega) ?_
  refine j_aloadn F dL_law_178 rfl ?_
  refine j_iload F dL_law_179 rfl ?_
  refine j_iconst F (v := 2) dL_law_181 (by decide) ?_
  refine j_iaddN F (a := i) (b := 2) dL_law_182 ?_
  refine j_sld F hX hbl hbA dL_law_183 (show i + 2 < Ls by omega) (by omega) ?_
  refine j_perm (MW (kD k) d s ++ (CW (kD k) G (C_setHours (nA G) (nT G) v r (xs (i + 1)) (xs (i + 2))).2.2.1 (C_setHours (nA G) (nT G) v r (xs (i + 1)) (xs (i + 2))).2.2.2 ++ [lng (kD k) o f'])) List.perm_append_comm ?_
  refine j_cmV F hw (qX4_setHours (kl k) hst (kD k) d s (xs (i + 1)) (xs (i + 2))) lk_L_86 dL_law_184 ⟨(Nat.le_of_ble_eq_true rfl), (Nat.le_of_ble_eq_true rfl)⟩ 0 rfl rfl rfl (Nat.le_of_ble_eq_true rfl) ⟨by show c + 1 + 0 ≤ 601024; omega, by show n + 6 + 0 ≤ 7293034; omega⟩ (fun u w1 hp => ?_)
  obtain ⟨rfl, rfl⟩ := hp
  refine j_istore F [some (.ref b), some (.ref (G.1 0 0)), some (.ref (d 0)), some (.ref o), some (.int (nI i)), some (.int kk), some (.int (b1 (M_setHours s (xs (i + 1)) (xs (i + 2))).1)), x7, x8] dL_law_187 rfl rfl rfl ?_
  refine j_aloadn F dL_law_189 rfl ?_
  refine j_rdV F (qX4_thrown (kl k) hst (kD k) d (M_setHours s (xs (i + 1)) (xs (i + 2))).2) lk_L_87 dL_law_190 ⟨(Nat.le_of_ble_eq_true rfl), (Nat.le_of_ble_eq_true rfl)⟩ (fun q hq => List.mem_append_left _ hq) 0 rfl rfl rfl (Nat.le_of_ble_eq_true rfl) ⟨by show c + 1 + 0 ≤ 601024; omega, by show n + 6 + 0 ≤ 7293034; omega⟩ ?_
  have hkk : M_thrown (M_setHours s (xs (i + 1)) (xs (i + 2))).2 = kk := KC.uniq (by decide) hA.1 hkc
  refine j_iload F dL_law_193 rfl ?_
  refine j_iceq F (tgt := 200) dL_law_195 (by decide) (fun _ => ?_) (fun z => absurd hkk z)
  refine j_iload F dL_law_200 rfl ?_
  refine j_ifne F (tgt := 224) dL_law_202 (by decide) (fun _ => ?_) (fun hk0 => ?_)
  · refine j_goto F (tgt := 1550) dL_law_224 (by decide) ?_
    exact K G _ _ _ _ _ _ _ _ _ _ hG (fun _ => rfl) hA.2.2 (by omega) (by omega)
  have hc0 := KC.zero hkc hk0
  refine j_aloadn F dL_law_205 rfl ?_
  refine j_iconst F (v := 0) dL_law_206 (by decide) ?_
  obtain ⟨q, hq⟩ := lng_at (w := MW (kD k) d (M_setHours s (xs (i + 1)) (xs (i + 2))).2) (D := kD k) (G := G) (v := (C_setHours (nA G) (nT G) v r (xs (i + 1)) (xs (i + 2))).2.2.1) (r := (C_setHours (nA G) (nT G) v r (xs (i + 1)) (xs (i + 2))).2.2.2) (o := o) (f := f')
  refine j_lald F dL_law_207 q hq (by unfold vp_in; decide +kernel) ?_
  rw [show f' (0 : Int32).toNatClampNeg = f' 0 from rfl, hval hc0]
  refine j_iload F dL_law_208 rfl ?_
  rw [show (C_setHours (nA G) (nT G) v r (xs (i + 1)) (xs (i + 2))).2.1 = (M_setHours s (xs (i + 1)) (xs (i + 2))).1 from hA.2.1 hc0]
  refine j_ifbeq F (tgt := 217) dL_law_210 (by decide) (fun hb => ?_) (fun hb => ?_)
  · rw [if_neg hb]; refine j_lconst F (v := 0) dL_law_217 (by decide) ?_
    refine j_lcmp F dL_law_218 ?_
    refine j_ifeq F (tgt := 224) dL_law_219 (by decide) (fun _ => ?_) (fun z => absurd (lcmp_self _) z)
    refine j_goto F (tgt := 1550) dL_law_224 (by decide) ?_
    exact K G _ _ _ _ _ _ _ _ _ _ hG (fun _ => rfl) hA.2.2 (by omega) (by omega)
  · rw [if_pos hb]; refine j_lconst F (v := 1) dL_law_213 (by decide) ?_
    refine j_goto F (tgt := 218) dL_law_214 (by decide) ?_
    refine j_lcmp F dL_law_218 ?_
    refine j_ifeq F (tgt := 224) dL_law_219 (by decide) (fun _ => ?_) (fun z => absurd (lcmp_self _) z)
    refine j_goto F (tgt := 1550) dL_law_224 (by decide) ?_
    exact K G _ _ _ _ _ _ _ _ _ _ hG (fun _ => rfl) hA.2.2 (by omega) (by omega)
set_option maxRecDepth 100000 in
set_option maxHeartbeats 4000000 in
theorem case_5 {k : Kx} (F : Fx k code RL room_1 9) (hw : kw k = true) (hst : (kl k).stackTraces = false) {b o i Ls c n N : Nat} {xs : Nat → Int32} (hX : va_X b Ls xs (ks k) (ks k).heap) (hbl : b < (ks k).heap.size) (hbA : ¬ kA k b) (hi : i + 5 ≤ Ls) (hLs : Ls ≤ 2560) (hc : c ≤ 600000) (hn : n ≤ 7000000) (hN : N ≤ 1000) {G : CG} {v : S2} {r : R2} {s : S2} {d : Nat → Nat} {f : Nat → Int64} {x5 x6 x7 x8 : Option Value} (hG : GI (kD k) G) (hr : Rel N (nA G) (nT G) v r s) (K : LEnd k G d o b i N c n) : J k ((CW (kD k) G v r ++ [lng (kD k) o f]) ++ MW (kD k) d s) c n 480 [some (.ref b), some (.ref (G.1 0 0)), some (.ref (d 0)), some (.ref o), some (.int (nI i)), x5, x6, x7, x8] [] := by
  refine j_aloadn F dL_law_480 rfl ?_
  refine j_aloadn F dL_law_481 rfl ?_
  refine j_iload F dL_law_482 rfl ?_
  refine j_iconst F (v := 1) dL_law_484 (by decide) ?_
  refine j_iaddN F (a := i) (b := 1) dL_law_485 ?_
  refine j_sld F hX hbl hbA dL_law_486 (show i + 1 < Ls by omega) (by omega) ?_
  refine j_aloadn F dL_law_487 rfl ?_
  refine j_iload F dL_law_488 rfl ?_
  refine j_iconst F (v := 2) dL_law_490 (by decide) ?_
  refine j_iaddN F (a := i) (b := 2) dL_law_491 ?_
  refine j_sld F hX hbl hbA dL_law_492 (show i + 2 < Ls by omega) (by omega) ?_
  refine j_aloadn F dL_law_493 rfl ?_
  refine j_cxhS F hw (qL_setSkills (kl k) hst (kD k) G v r o f (xs (i + 1)) (xs (i + 2)) hG hr.ci) lh_L_106 dL_law_494 ⟨(Nat.le_of_ble_eq_true rfl), (Nat.le_of_ble_eq_true rfl)⟩ rfl (Nat.le_of_ble_eq_true rfl) ⟨by show c + 2 ≤ 601024; omega, by show n + 12 ≤ 7293034; omega⟩ (fun u w1 hp => ?_)
  obtain ⟨kk, f', rfl, hkc, hval, hw1⟩ := hp
  have hA := AG_setSkills hr (xs (i + 1)) (xs (i + 2))
  obtain rfl := wrap_eq (keep_setSkills _ _ _ _ (xs (i + 1)) (xs (i + 2))) hw1
  refine j_istore F [some (.ref b), some (.ref (G.1 0 0)), some (.ref (d 0)), some (.ref o), some (.int (nI i)), some (.int kk), x6, x7, x8] dL_law_497 rfl rfl rfl ?_
  refine j_aloadn F dL_law_499 rfl ?_
  refine j_aloadn F dL_law_500 rfl ?_
  refine j_iload F dL_law_501 rfl ?_
  refine j_iconst F (v := 1) dL_law_503 (by decide) ?_
  refine j_iaddN F (a := i) (b := 1) dL_law_504 ?_
  refine j_sld F hX hbl hbA dL_law_505 (show i + 1 < Ls by omega) (by omega) ?_
  refine j_aloadn F dL_law_506 rfl ?_
  refine j_iload F dL_law_507 rfl ?_
  refine j_iconst F (v := 2) dL_law_509 (by decide) ?_
  refine j_iaddN F (a := i) (b := 2) dL_law_510 ?_
  refine j_sld F hX hbl hbA dL_law_511 (show i + 2 < Ls by omega) (by omega) ?_
  refine j_perm (MW (kD k) d s ++ (CW (kD k) G (C_setSkills (nA G) (nT G) v r (xs (i + 1)) (xs (i + 2))).2.2.1 (C_setSkills (nA G) (nT G) v r (xs (i + 1)) (xs (i + 2))).2.2.2 ++ [lng (kD k) o f'])) List.perm_append_comm ?_
  refine j_cmV F hw (qX4_setSkills (kl k) hst (kD k) d s (xs (i + 1)) (xs (i + 2)) hr.mi) lk_L_108 dL_law_512 ⟨(Nat.le_of_ble_eq_true rfl), (Nat.le_of_ble_eq_true rfl)⟩ 0 rfl rfl rfl (Nat.le_of_ble_eq_true rfl) ⟨by show c + 2 + 0 ≤ 601024; omega, by show n + 12 + 0 ≤ 7293034; omega⟩ (fun u w1 hp => ?_)
  obtain ⟨rfl, rfl⟩ := hp
  refine j_istore F [some (.ref b), some (.ref (G.1 0 0)), some (.ref (d 0)), some (.ref o), some (.int (nI i)), some (.int kk), some (.int ((M_setSkills s (xs (i + 1)) (xs (i + 2))).1)), x7, x8] dL_law_515 rfl rfl rfl ?_
  refine j_aloadn F dL_law_517 rfl ?_
  refine j_rdV F (qX4_thrown (kl k) hst (kD k) d (M_setSkills s (xs (i + 1)) (xs (i + 2))).2) lk_L_87 dL_law_518 ⟨(Nat.le_of_ble_eq_true rfl), (Nat.le_of_ble_eq_true rfl)⟩ (fun q hq => List.mem_append_left _ hq) 0 rfl rfl rfl (Nat.le_of_ble_eq_true rfl) ⟨by show c + 2 + 0 ≤ 601024; omega, by show n + 12 + 0 ≤ 7293034; omega⟩ ?_
  have hkk : M_thrown (M_setSkills s (xs (i + 1)) (xs (i + 2))).2 = kk := KC.uniq (by decide) hA.1 hkc
  refine j_iload F dL_law_521 rfl ?_
  refine j_iceq F (tgt := 528) dL_law_523 (by decide) (fun _ => ?_) (fun z => absurd hkk z)
  refine j_iload F dL_law_528 rfl ?_
  refine j_ifne F (tgt := 545) dL_law_530 (by decide) (fun _ => ?_) (fun hk0 => ?_)
  · refine j_goto F (tgt := 1550) dL_law_545 (by decide) ?_
    exact K G _ _ _ _ _ _ _ _ _ _ hG (fun _ => rfl) hA.2.2 (by omega) (by omega)
  have hc0 := KC.zero hkc hk0
  refine j_aloadn F dL_law_533 rfl ?_
  refine j_iconst F (v := 0) dL_law_534 (by decide) ?_
  obtain ⟨q, hq⟩ := lng_at (w := MW (kD k) d (M_setSkills s (xs (i + 1)) (xs (i + 2))).2) (D := kD k) (G := G) (v := (C_setSkills (nA G) (nT G) v r (xs (i + 1)) (xs (i + 2))).2.2.1) (r := (C_setSkills (nA G) (nT G) v r (xs (i + 1)) (xs (i + 2))).2.2.2) (o := o) (f := f')
  refine j_lald F dL_law_535 q hq (by unfold vp_in; decide +kernel) ?_
  rw [show f' (0 : Int32).toNatClampNeg = f' 0 from rfl, hval hc0]
  refine j_iload F dL_law_536 rfl ?_
  refine j_i2l F dL_law_538 ?_
  rw [show (C_setSkills (nA G) (nT G) v r (xs (i + 1)) (xs (i + 2))).2.1 = (M_setSkills s (xs (i + 1)) (xs (i + 2))).1 from hA.2.1 hc0]
  refine j_lcmp F dL_law_539 ?_
  refine j_ifeq F (tgt := 545) dL_law_540 (by decide) (fun _ => ?_) (fun z => absurd (lcmp_self _) z)
  refine j_goto F (tgt := 1550) dL_law_545 (by decide) ?_
  exact K G _ _ _ _ _ _ _ _ _ _ hG (fun _ => rfl) hA.2.2 (by omega) (by omega)
