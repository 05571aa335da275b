/-! THE LAW'S BODY, case by case -/
section LSCRIPT
variable {k : Kx} {cc : ByteArray} {own : String} {R : Room} {nL : Nat} {ws : va_W} {c n pc : Nat} {lv : List (Option Value)} {st : List Value}
theorem j_sld (F : Fx k cc own R nL) {b Ls i : Nat} {xs : Nat → Int32} (hX : va_X b Ls xs (ks k) (ks k).heap) (hbl : b < (ks k).heap.size) (hbA : ¬ kA k b) (hd : decode cc pc = .ok (.iaload, 1)) (hi : i < Ls) (hL : Ls < 2 ^ 31) (K : J k ws c n (pc + 1) lv (.int (xs i) :: st)) : J k ws c n pc lv (.int (nI i) :: .ref b :: st) := fun H locs ls hP hL2 =>
  va_sld F.hx F.hb hX hbl hbA hP.2.2.1 (vp_in_nI hi hL) hd (by rw [nI_clamp (Nat.lt_trans hi hL)]; exact K H locs ls hP hL2)
theorem j_slen (F : Fx k cc own R nL) {b Ls : Nat} {xs : Nat → Int32} (hX : va_X b Ls xs (ks k) (ks k).heap) (hbl : b < (ks k).heap.size) (hbA : ¬ kA k b) (hd : decode cc pc = .ok (.arraylength, 1)) (K : J k ws c n (pc + 1) lv (.int (nI Ls) :: st)) : J k ws c n pc lv (.ref b :: st) := fun H locs ls hP hL2 =>
  va_slen F.hx F.hb hX hbl hbA hP.2.2.1 hd (K H locs ls hP hL2)
end LSCRIPT
def LEnd (k : Kx) (G : CG) (d : Nat → Nat) (o b i N c n : Nat) : Prop := ∀ (G' : CG) (v' : S2) (r' : R2) (s' : S2) (f' : Nat → Int64) (c' n' : Nat) (x5 x6 x7 x8 : Option Value), GI (kD k) G' → (∀ j, G'.1 0 j = G.1 0 j) → Rel (N + 1) (nA G') (nT G') v' r' s' → c' ≤ c + 4 → n' ≤ n + 60 → J k (MW (kD k) d s' ++ (CW (kD k) G' v' r' ++ [lng (kD k) o f'])) c' n' 1550 [some (.ref b), some (.ref (G.1 0 0)), some (.ref (d 0)), some (.ref o), some (.int (nI i)), x5, x6, x7, x8] []
theorem Rel.ci {N : Nat} {G : CG} {v : S2} {r : R2} {s : S2} (h : Rel N (nA G) (nT G) v r s) : CI G v r := ⟨fun t ht => (h.tk t ht).priob, fun i hi t e => ((h.ag i hi).heldb t e).1, fun t ht a e => ((h.tk t ht).holdb a e).1, fun t ht a e => (h.tk t ht).latb a e, fun t ht u e => by
  by_cases h4 : v 24 t = 4
  · obtain ⟨w, hw, e2, _⟩ := (h.tk t ht).mrg h4
    rw [e] at e2; cases e2; exact hw
  · rw [(h.tk t ht).nmrg h4] at e; cases e⟩
theorem Rel.min1 {N na nt : Nat} {v : S2} {r : R2} {s : S2} (h : Rel N na nt v r s) : vp_in (v 0 0) 100001 := by
  have := vp_in_iff.mp h.minb
  exact vp_in_iff.mpr ⟨this.1, by omega⟩
theorem Rel.min2 {N na nt : Nat} {v : S2} {r : R2} {s : S2} (h : Rel N na nt v r s) : ∃ n, n ≤ 99999 ∧ s 0 1 = nI n := ⟨ix (v 0 0), by have := vp_lt h.minb; omega, by rw [h.min]; exact in_nI h.minb⟩
theorem KC.uniq {h : List Nat} {x : Nat} {a b : Int32} (hn : ∀ i, i < h.length → ∀ j, j < h.length → h[i]? = h[j]? → i = j) (ha : KC h x a) (hb : KC h x b) : a = b := by
  rcases ha with ⟨e, rfl⟩ | ⟨e, j, hj, rfl⟩
  · rcases hb with ⟨_, rfl⟩ | ⟨e2, _⟩
    · rfl
    · exact absurd e e2
  · rcases hb with ⟨e2, _⟩ | ⟨_, j2, hj2, rfl⟩
    · exact absurd e2 e
    · rw [hn j (List.getElem?_eq_some_iff.mp hj).1 j2 (List.getElem?_eq_some_iff.mp hj2).1 (hj.trans hj2.symm)]
theorem KC.zero {h : List Nat} {x : Nat} {a : Int32} (ha : KC h x a) (h0 : a = 0) (hl : h.length ≤ 100 := by decide) : x = 0 := by
  rcases ha with ⟨e, _⟩ | ⟨_, j, hj, rfl⟩
  · exact e
  · exact absurd h0 (nI_ne0 (by omega) (by have := (List.getElem?_eq_some_iff.mp hj).1; omega))
theorem wrap_eq {α : Type} {D : va_G} {G : CG} {v : S2} {r : R2} {o : Nat} {f : Nat → Int64} {w : va_W} {c : Nat × α × S2 × R2} (hk : c.1 ≠ 0 → c.2.2 = (v, r)) (hw : (c.1 = 0 ∧ w = CW D G c.2.2.1 c.2.2.2 ++ [lng D o f]) ∨ (c.1 ≠ 0 ∧ w = CW D G v r ++ [lng D o f])) : CW D G c.2.2.1 c.2.2.2 ++ [lng D o f] = w := by
  rcases hw with ⟨_, e⟩ | ⟨h, e⟩
  · exact e.symm
  · rw [e, hk h]
theorem agn_world {D : va_G} {G : CG} {v : S2} {r : R2} {o : Nat} {f : Nat → Int64} {w : va_W} {c : Nat × Int32 × S2 × R2} {m : Int32 × S2} {hl : List Nat} {N da dt : Nat} (hG : GI D G) (hA : AGN hl N (nA G) (nT G) (nA G + da) (nT G + dt) v r c m) (hw : (c.1 = 0 ∧ ∃ G', Gx D G G' da dt ∧ w = CW D G' c.2.2.1 c.2.2.2 ++ [lng D o f]) ∨ (c.1 ≠ 0 ∧ w = CW D G v r ++ [lng D o f])) : ∃ (G' : CG) (v' : S2) (r' : R2), (∀ j, G'.1 0 j = G.1 0 j) ∧ GI D G' ∧ CW D G' v' r' ++ [lng D o f] = w ∧ Rel (N + 1) (nA G') (nT G') v' r' m.2 := by
  rcases hw with ⟨h0, G', ⟨g1, g2, g3, g4⟩, e⟩ | ⟨h0, e⟩
  · exact ⟨G', _, _, g1, g4, e.symm, by rw [g2, g3]; exact (hA.2.1 h0).2⟩
  · exact ⟨G, v, r, fun _ => rfl, hG, e.symm, hA.2.2 h0⟩
theorem lng_at {w : va_W} {D : va_G} {G : CG} {v : S2} {r : R2} {o : Nat} {f : Nat → Int64} : ∃ q : Nat, (w ++ (CW D G v r ++ [lng D o f]))[q]? = some (lng D o f) := List.getElem?_of_mem (List.mem_append_right _ (List.mem_append_right _ (List.mem_singleton.mpr rfl)))
theorem lcmp_self (x : Int64) : lg_cmp x x = 0 := by
  unfold lg_cmp
  simp [Int64.lt_irrefl]
theorem keep_setHours (na nt : Nat) (v : S2) (r : R2) (p0 p1 : Int32) : (C_setHours na nt v r p0 p1).1 ≠ 0 → (C_setHours na nt v r p0 p1).2.2 = (v, r) := by
  unfold C_setHours
  repeat' split
  all_goals first | exact fun h => absurd rfl h | exact fun _ => rfl
theorem keep_setTargets (na nt : Nat) (v : S2) (r : R2) (p0 p1 p2 : Int32) : (C_setTargets na nt v r p0 p1 p2).1 ≠ 0 → (C_setTargets na nt v r p0 p1 p2).2.2 = (v, r) := by
  unfold C_setTargets
  repeat' split
  all_goals first | exact fun h => absurd rfl h | exact fun _ => rfl
theorem keep_service (na nt : Nat) (v : S2) (r : R2) (p0 p1 : Int32) : (C_service na nt v r p0 p1).1 ≠ 0 → (C_service na nt v r p0 p1).2.2 = (v, r) := by
  unfold C_service
  repeat' split
  all_goals first | exact fun h => absurd rfl h | exact fun _ => rfl
theorem keep_setSkills (na nt : Nat) (v : S2) (r : R2) (p0 p1 : Int32) : (C_setSkills na nt v r p0 p1).1 ≠ 0 → (C_setSkills na nt v r p0 p1).2.2 = (v, r) := by
  unfold C_setSkills
  repeat' split
  all_goals first | exact fun h => absurd rfl h | exact fun _ => rfl
theorem keep_agent (na nt : Nat) (v : S2) (r : R2) (p0 p1 : Int32) : (C_agent na nt v r p0 p1).1 ≠ 0 → (C_agent na nt v r p0 p1).2.2 = (v, r) := by
  unfold C_agent
  repeat' split
  all_goals first | exact fun h => absurd rfl h | exact fun _ => rfl
theorem keep_next (na nt : Nat) (v : S2) (r : R2) (p0 : Int32) : (C_next na nt v r p0).1 ≠ 0 → (C_next na nt v r p0).2.2 = (v, r) := by
  unfold C_next
  repeat' split
  all_goals first | exact fun h => absurd rfl h | exact fun _ => rfl
theorem keep_setPriority (na nt : Nat) (v : S2) (r : R2) (p0 p1 : Int32) : (C_setPriority na nt v r p0 p1).1 ≠ 0 → (C_setPriority na nt v r p0 p1).2.2 = (v, r) := by
  unfold C_setPriority
  repeat' split
  all_goals first | exact fun h => absurd rfl h | exact fun _ => rfl
theorem keep_pause (na nt : Nat) (v : S2) (r : R2) (p0 : Int32) : (C_pause na nt v r p0).1 ≠ 0 → (C_pause na nt v r p0).2.2 = (v, r) := by
  unfold C_pause
  repeat' split
  all_goals first | exact fun h => absurd rfl h | exact fun _ => rfl
theorem keep_resume (na nt : Nat) (v : S2) (r : R2) (p0 : Int32) : (C_resume na nt v r p0).1 ≠ 0 → (C_resume na nt v r p0).2.2 = (v, r) := by
  unfold C_resume
  repeat' split
  all_goals first | exact fun h => absurd rfl h | exact fun _ => rfl
theorem keep_merge (na nt : Nat) (v : S2) (r : R2) (p0 p1 : Int32) : (C_merge na nt v r p0 p1).1 ≠ 0 → (C_merge na nt v r p0 p1).2.2 = (v, r) := by
  unfold C_merge
  repeat' split
  all_goals first | exact fun h => absurd rfl h | exact fun _ => rfl
theorem keep_reopen (na nt : Nat) (v : S2) (r : R2) (p0 p1 : Int32) : (C_reopen na nt v r p0 p1).1 ≠ 0 → (C_reopen na nt v r p0 p1).2.2 = (v, r) := by
  unfold C_reopen
  repeat' split
  all_goals first | exact fun h => absurd rfl h | exact fun _ => rfl
theorem keep_ticket (na nt : Nat) (v : S2) (r : R2) (p0 p1 : Int32) : (C_ticket na nt v r p0 p1).1 ≠ 0 → (C_ticket na nt v r p0 p1).2.2 = (v, r) := by
  unfold C_ticket
  repeat' split
  all_goals first | exact fun h => absurd rfl h | exact fun _ => rfl
theorem keep_main (na nt : Nat) (v : S2) (r : R2) (p0 : Int32) : (C_main na nt v r p0).1 ≠ 0 → (C_main na nt v r p0).2.2 = (v, r) := by
  unfold C_main
  repeat' split
  all_goals first | exact fun h => absurd rfl h | exact fun _ => rfl
theorem keep_customers (na nt : Nat) (v : S2) (r : R2) (p0 : Int32) : (C_customers na nt v r p0).1 ≠ 0 → (C_customers na nt v r p0).2.2 = (v, r) := by
  unfold C_customers
  repeat' split
  all_goals first | exact fun h => absurd rfl h | exact fun _ => rfl
theorem keep_due (na nt : Nat) (v : S2) (r : R2) (p0 : Int32) : (C_due na nt v r p0).1 ≠ 0 → (C_due na nt v r p0).2.2 = (v, r) := by
  unfold C_due
  repeat' split
  all_goals first | exact fun h => absurd rfl h | exact fun _ => rfl
theorem keep_pass (na nt : Nat) (v : S2) (r : R2) (p0 : Int32) : (C_pass na nt v r p0).1 ≠ 0 → (C_pass na nt v r p0).2.2 = (v, r) := by
  unfold C_pass
  repeat' split
  all_goals first | exact fun h => absurd rfl h | exact fun _ => rfl
theorem keep_all (na nt : Nat) (v : S2) (r : R2) (p0 : Int32) : (C_all na nt v r p0).1 ≠ 0 → (C_all na nt v r p0).2.2 = (v, r) := by
  unfold C_all
  repeat' split
  all_goals first | exact fun h => absurd rfl h | exact fun _ => rfl
set_option maxRecDepth 100000 in
set_option maxHeartbeats 4000000 in
theorem case_0 {k : Kx} (F : Fx k code RL room_1 9) (hw : kw k = true) (hst : (kl k).stackTraces = false) {b o i Ls c n N : Nat} {xs : Nat → Int32} (hX : va_X b Ls xs (ks k) (ks k).heap) (hbl : b < (ks k).heap.size) (hbA : ¬ kA k b) (hi : i + 5 ≤ Ls) (hLs : Ls ≤ 2560) (hc : c ≤ 600000) (hn : n ≤ 7000000) (hN : N ≤ 1000) {G : CG} {v : S2} {r : R2} {s : S2} {d : Nat → Nat} {f : Nat → Int64} {x5 x6 x7 x8 : Option Value} (hG : GI (kD k) G) (hr : Rel N (nA G) (nT G) v r s) (K : LEnd k G d o b i N c n) : J k ((CW (kD k) G v r ++ [lng (kD k) o f]) ++ MW (kD k) d s) c n 152 [some (.ref b), some (.ref (G.1 0 0)), some (.ref (d 0)), some (.ref o), some (.int (nI i)), x5, x6, x7, x8] [] := by
  refine j_aloadn F dL_law_152 rfl ?_
  refine j_aloadn F dL_law_153 rfl ?_
  refine j_iload F dL_law_154 rfl ?_
  refine j_iconst F (v := 1) dL_law_156 (by decide) ?_
  refine j_iaddN F (a := i) (b := 1) dL_law_157 ?_
  refine j_sld F hX hbl hbA dL_law_158 (show i + 1 < Ls by omega) (by omega) ?_
  refine j_aloadn F dL_law_159 rfl ?_
  refine j_iload F dL_law_160 rfl ?_
  refine j_iconst F (v := 2) dL_law_162 (by decide) ?_
  refine j_iaddN F (a := i) (b := 2) dL_law_163 ?_
  refine j_sld F hX hbl hbA dL_law_164 (show i + 2 < Ls by omega) (by omega) ?_
  refine j_aloadn F dL_law_165 rfl ?_
  refine j_cxhS F hw (qL_setHours (kl k) hst (kD k) G v r o f (xs (i + 1)) (xs (i + 2))) lh_L_81 dL_law_166 ⟨(Nat.le_of_ble_eq_true rfl), (Nat.le_of_ble_eq_true rfl)⟩ rfl (Nat.le_of_ble_eq_true rfl) ⟨by show c + 1 ≤ 601024; omega, by show n + 6 ≤ 7293034; omega⟩ (fun u w1 hp => ?_)
  obtain ⟨kk, f', rfl, hkc, hval, hw1⟩ := hp
  have hA := AG_setHours hr (xs (i + 1)) (xs (i + 2))
  obtain rfl := wrap_eq (keep_setHours _ _ _ _ (xs (i + 1)) (xs (i + 2))) hw1
  refine j_istore F [some (.ref b), some (.ref (G.1 0 0)), some (.ref (d 0)), some (.ref o), some (.int (nI i)), some (.int kk), x6, x7, x8] dL_law_169 rfl rfl rfl ?_
  refine j_aloadn F dL_law_171 rfl ?_
  refine j_aloadn F dL_law_172 rfl ?_
  refine j_iload F dL_law_173 rfl ?_
  refine j_iconst F (v := 1) dL_law_175 (by decide) ?_
  refine j_iaddN F (a := i) (b := 1) dL_law_176 ?_
  refine j_sld F hX hbl hbA dL_law_177 (show i + 1 < Ls by omega) (by omega) ?_
  refine j_aloadn F dL_law_178 rfl ?_
  refine j_iload F dL_law_179 rfl ?_
  refine j_iconst F (v := 2) dL_law_181 (by decide) ?_
  refine j_iaddN F (a := i) (b := 2) dL_law_182 ?_
  refine j_sld F hX hbl hbA dL_law_183 (show i + 2 < Ls by omega) (by omega) ?_
  refine j_perm (MW (kD k) d s ++ (CW (kD k) G (C_setHours (nA G) (nT G) v r (xs (i + 1)) (xs (i + 2))).2.2.1 (C_setHours (nA G) (nT G) v r (xs (i + 1)) (xs (i + 2))).2.2.2 ++ [lng (kD k) o f'])) List.perm_append_comm ?_
  refine j_cmV F hw (qX4_setHours (kl k) hst (kD k) d s (xs (i + 1)) (xs (i + 2))) lk_L_86 dL_law_184 ⟨(Nat.le_of_ble_eq_true rfl), (Nat.le_of_ble_eq_true rfl)⟩ 0 rfl rfl rfl (Nat.le_of_ble_eq_true rfl) ⟨by show c + 1 + 0 ≤ 601024; omega, by show n + 6 + 0 ≤ 7293034; omega⟩ (fun u w1 hp => ?_)
  obtain ⟨rfl, rfl⟩ := hp
  refine j_istore F [some (.ref b), some (.ref (G.1 0 0)), some (.ref (d 0)), some (.ref o), some (.int (nI i)), some (.int kk), some (.int (b1 (M_setHours s (xs (i + 1)) (xs (i + 2))).1)), x7, x8] dL_law_187 rfl rfl rfl ?_
  refine j_aloadn F dL_law_189 rfl ?_
  refine j_rdV F (qX4_thrown (kl k) hst (kD k) d (M_setHours s (xs (i + 1)) (xs (i + 2))).2) lk_L_87 dL_law_190 ⟨(Nat.le_of_ble_eq_true rfl), (Nat.le_of_ble_eq_true rfl)⟩ (fun q hq => List.mem_append_left _ hq) 0 rfl rfl rfl (Nat.le_of_ble_eq_true rfl) ⟨by show c + 1 + 0 ≤ 601024; omega, by show n + 6 + 0 ≤ 7293034; omega⟩ ?_
  have hkk : M_thrown (M_setHours s (xs (i + 1)) (xs (i + 2))).2 = kk := KC.uniq (by decide) hA.1 hkc
  refine j_iload F dL_law_193 rfl ?_
  refine j_iceq F (tgt := 200) dL_law_195 (by decide) (fun _ => ?_) (fun z => absurd hkk z)
  refine j_iload F dL_law_200 rfl ?_
  refine j_ifne F (tgt := 224) dL_law_202 (by decide) (fun _ => ?_) (fun hk0 => ?_)
  · refine j_goto F (tgt := 1550) dL_law_224 (by decide) ?_
    exact K G _ _ _ _ _ _ _ _ _ _ hG (fun _ => rfl) hA.2.2 (by omega) (by omega)
  have hc0 := KC.zero hkc hk0
  refine j_aloadn F dL_law_205 rfl ?_
  refine j_iconst F (v := 0) dL_law_206 (by decide) ?_
  obtain ⟨q, hq⟩ := lng_at (w := MW (kD k) d (M_setHours s (xs (i + 1)) (xs (i + 2))).2) (D := kD k) (G := G) (v := (C_setHours (nA G) (nT G) v r (xs (i + 1)) (xs (i + 2))).2.2.1) (r := (C_setHours (nA G) (nT G) v r (xs (i + 1)) (xs (i + 2))).2.2.2) (o := o) (f := f')
  refine j_lald F dL_law_207 q hq (by unfold vp_in; decide +kernel) ?_
  rw [show f' (0 : Int32).toNatClampNeg = f' 0 from rfl, hval hc0]
  refine j_iload F dL_law_208 rfl ?_
  rw [show (C_setHours (nA G) (nT G) v r (xs (i + 1)) (xs (i + 2))).2.1 = (M_setHours s (xs (i + 1)) (xs (i + 2))).1 from hA.2.1 hc0]
  refine j_ifbeq F (tgt := 217) dL_law_210 (by decide) (fun hb => ?_) (fun hb => ?_)
  · rw [if_neg hb]; refine j_lconst F (v := 0) dL_law_217 (by decide) ?_
    refine j_lcmp F dL_law_218 ?_
    refine j_ifeq F (tgt := 224) dL_law_219 (by decide) (fun _ => ?_) (fun z => absurd (lcmp_self _) z)
    refine j_goto F (tgt := 1550) dL_law_224 (by decide) ?_
    exact K G _ _ _ _ _ _ _ _ _ _ hG (fun _ => rfl) hA.2.2 (by omega) (by omega)
  · rw [if_pos hb]; refine j_lconst F (v := 1) dL_law_213 (by decide) ?_
    refine j_goto F (tgt := 218) dL_law_214 (by decide) ?_
    refine j_lcmp F dL_law_218 ?_
    refine j_ifeq F (tgt := 224) dL_law_219 (by decide) (fun _ => ?_) (fun z => absurd (lcmp_self _) z)
    refine j_goto F (tgt := 1550) dL_law_224 (by decide) ?_
    exact K G _ _ _ _ _ _ _ _ _ _ hG (fun _ => rfl) hA.2.2 (by omega) (by omega)
set_option maxRecDepth 100000 in
set_option maxHeartbeats 4000000 in
theorem case_1 {k : Kx} (F : Fx k code RL room_1 9) (hw : kw k = true) (hst : (kl k).stackTraces = false) {b o i Ls c n N : Nat} {xs : Nat → Int32} (hX : va_X b Ls xs (ks k) (ks k).heap) (hbl : b < (ks k).heap.size) (hbA : ¬ kA k b) (hi : i + 5 ≤ Ls) (hLs : Ls ≤ 2560) (hc : c ≤ 600000) (hn : n ≤ 7000000) (hN : N ≤ 1000) {G : CG} {v : S2} {r : R2} {s : S2} {d : Nat → Nat} {f : Nat → Int64} {x5 x6 x7 x8 : Option Value} (hG : GI (kD k) G) (hr : Rel N (nA G) (nT G) v r s) (K : LEnd k G d o b i N c n) : J k ((CW (kD k) G v r ++ [lng (kD k) o f]) ++ MW (kD k) d s) c n 227 [some (.ref b), some (.ref (G.1 0 0)), some (.ref (d 0)), some (.ref o), some (.int (nI i)), x5, x6, x7, x8] [] := by
  refine j_aloadn F dL_law_227 rfl ?_
  refine j_aloadn F dL_law_228 rfl ?_
  refine j_iload F dL_law_229 rfl ?_
  refine j_iconst F (v := 1) dL_law_231 (by decide) ?_
  refine j_iaddN F (a := i) (b := 1) dL_law_232 ?_
  refine j_sld F hX hbl hbA dL_law_233 (show i + 1 < Ls by omega) (by omega) ?_
  refine j_aloadn F dL_law_234 rfl ?_
  refine j_iload F dL_law_235 rfl ?_
  refine j_iconst F (v := 2) dL_law_237 (by decide) ?_
  refine j_iaddN F (a := i) (b := 2) dL_law_238 ?_
  refine j_sld F hX hbl hbA dL_law_239 (show i + 2 < Ls by omega) (by omega) ?_
  refine j_aloadn F dL_law_240 rfl ?_
  refine j_iload F dL_law_241 rfl ?_
  refine j_iconst F (v := 3) dL_law_243 (by decide) ?_
  refine j_iaddN F (a := i) (b := 3) dL_law_244 ?_
  refine j_sld F hX hbl hbA dL_law_245 (show i + 3 < Ls by omega) (by omega) ?_
  refine j_aloadn F dL_law_246 rfl ?_
  refine j_cxhS F hw (qL_setTargets (kl k) hst (kD k) G v r o f (xs (i + 1)) (xs (i + 2)) (xs (i + 3))) lh_L_91 dL_law_247 ⟨(Nat.le_of_ble_eq_true rfl), (Nat.le_of_ble_eq_true rfl)⟩ rfl (Nat.le_of_ble_eq_true rfl) ⟨by show c + 1 ≤ 601024; omega, by show n + 6 ≤ 7293034; omega⟩ (fun u w1 hp => ?_)
  obtain ⟨kk, f', rfl, hkc, hval, hw1⟩ := hp
  have hA := AG_setTargets hr (xs (i + 1)) (xs (i + 2)) (xs (i + 3))
  obtain rfl := wrap_eq (keep_setTargets _ _ _ _ (xs (i + 1)) (xs (i + 2)) (xs (i + 3))) hw1
  refine j_istore F [some (.ref b), some (.ref (G.1 0 0)), some (.ref (d 0)), some (.ref o), some (.int (nI i)), some (.int kk), x6, x7, x8] dL_law_250 rfl rfl rfl ?_
  refine j_aloadn F dL_law_252 rfl ?_
  refine j_aloadn F dL_law_253 rfl ?_
  refine j_iload F dL_law_254 rfl ?_
  refine j_iconst F (v := 1) dL_law_256 (by decide) ?_
  refine j_iaddN F (a := i) (b := 1) dL_law_257 ?_
  refine j_sld F hX hbl hbA dL_law_258 (show i + 1 < Ls by omega) (by omega) ?_
  refine j_aloadn F dL_law_259 rfl ?_
  refine j_iload F dL_law_260 rfl ?_
  refine j_iconst F (v := 2) dL_law_262 (by decide) ?_
  refine j_iaddN F (a := i) (b := 2) dL_law_263 ?_
  refine j_sld F hX hbl hbA dL_law_264 (show i + 2 < Ls by omega) (by omega) ?_
  refine j_aloadn F dL_law_265 rfl ?_
  refine j_iload F dL_law_266 rfl ?_
  refine j_iconst F (v := 3) dL_law_268 (by decide) ?_
  refine j_iaddN F (a := i) (b := 3) dL_law_269 ?_
  refine j_sld F hX hbl hbA dL_law_270 (show i + 3 < Ls by omega) (by omega) ?_
  refine j_perm (MW (kD k) d s ++ (CW (kD k) G (C_setTargets (nA G) (nT G) v r (xs (i + 1)) (xs (i + 2)) (xs (i + 3))).2.2.1 (C_setTargets (nA G) (nT G) v r (xs (i + 1)) (xs (i + 2)) (xs (i + 3))).2.2.2 ++ [lng (kD k) o f'])) List.perm_append_comm ?_
  refine j_cmV F hw (qX4_setTargets (kl k) hst (kD k) d s (xs (i + 1)) (xs (i + 2)) (xs (i + 3))) lk_L_94 dL_law_271 ⟨(Nat.le_of_ble_eq_true rfl), (Nat.le_of_ble_eq_true rfl)⟩ 0 rfl rfl rfl (Nat.le_of_ble_eq_true rfl) ⟨by show c + 1 + 0 ≤ 601024; omega, by show n + 6 + 0 ≤ 7293034; omega⟩ (fun u w1 hp => ?_)
  obtain ⟨rfl, rfl⟩ := hp
  refine j_istore F [some (.ref b), some (.ref (G.1 0 0)), some (.ref (d 0)), some (.ref o), some (.int (nI i)), some (.int kk), some (.int ((M_setTargets s (xs (i + 1)) (xs (i + 2)) (xs (i + 3))).1)), x7, x8] dL_law_274 rfl rfl rfl ?_
  refine j_aloadn F dL_law_276 rfl ?_
  refine j_rdV F (qX4_thrown (kl k) hst (kD k) d (M_setTargets s (xs (i + 1)) (xs (i + 2)) (xs (i + 3))).2) lk_L_87 dL_law_277 ⟨(Nat.le_of_ble_eq_true rfl), (Nat.le_of_ble_eq_true rfl)⟩ (fun q hq => List.mem_append_left _ hq) 0 rfl rfl rfl (Nat.le_of_ble_eq_true rfl) ⟨by show c + 1 + 0 ≤ 601024; omega, by show n + 6 + 0 ≤ 7293034; omega⟩ ?_
  have hkk : M_thrown (M_setTargets s (xs (i + 1)) (xs (i + 2)) (xs (i + 3))).2 = kk := KC.uniq (by decide) hA.1 hkc
  refine j_iload F dL_law_280 rfl ?_
  refine j_iceq F (tgt := 287) dL_law_282 (by decide) (fun _ => ?_) (fun z => absurd hkk z)
  refine j_iload F dL_law_287 rfl ?_
  refine j_ifne F (tgt := 304) dL_law_289 (by decide) (fun _ => ?_) (fun hk0 => ?_)
  · refine j_goto F (tgt := 1550) dL_law_304 (by decide) ?_
    exact K G _ _ _ _ _ _ _ _ _ _ hG (fun _ => rfl) hA.2.2 (by omega) (by omega)
  have hc0 := KC.zero hkc hk0
  refine j_aloadn F dL_law_292 rfl ?_
  refine j_iconst F (v := 0) dL_law_293 (by decide) ?_
  obtain ⟨q, hq⟩ := lng_at (w := MW (kD k) d (M_setTargets s (xs (i + 1)) (xs (i + 2)) (xs (i + 3))).2) (D := kD k) (G := G) (v := (C_setTargets (nA G) (nT G) v r (xs (i + 1)) (xs (i + 2)) (xs (i + 3))).2.2.1) (r := (C_setTargets (nA G) (nT G) v r (xs (i + 1)) (xs (i + 2)) (xs (i + 3))).2.2.2) (o := o) (f := f')
  refine j_lald F dL_law_294 q hq (by unfold vp_in; decide +kernel) ?_
  rw [show f' (0 : Int32).toNatClampNeg = f' 0 from rfl, hval hc0]
  refine j_iload F dL_law_295 rfl ?_
  refine j_i2l F dL_law_297 ?_
  rw [show (C_setTargets (nA G) (nT G) v r (xs (i + 1)) (xs (i + 2)) (xs (i + 3))).2.1 = (M_setTargets s (xs (i + 1)) (xs (i + 2)) (xs (i + 3))).1 from hA.2.1 hc0]
  refine j_lcmp F dL_law_298 ?_
  refine j_ifeq F (tgt := 304) dL_law_299 (by decide) (fun _ => ?_) (fun z => absurd (lcmp_self _) z)
  refine j_goto F (tgt := 1550) dL_law_304 (by decide) ?_
  exact K G _ _ _ _ _ _ _ _ _ _ hG (fun _ => rfl) hA.2.2 (by omega) (by omega)
set_option maxRecDepth 100000 in
set_option maxHeartbeats 4000000 in
theorem case_3 {k : Kx} (F : Fx k code RL room_1 9) (hw : kw k = true) (hst : (kl k).stackTraces = false) {b o i Ls c n N : Nat} {xs : Nat → Int32} (hX : va_X b Ls xs (ks k) (ks k).heap) (hbl : b < (ks k).heap.size) (hbA : ¬ kA k b) (hi : i + 5 ≤ Ls) (hLs : Ls ≤ 2560) (hc : c ≤ 600000) (hn : n ≤ 7000000) (hN : N ≤ 1000) {G : CG} {v : S2} {r : R2} {s : S2} {d : Nat → Nat} {f : Nat → Int64} {x5 x6 x7 x8 : Option Value} (hG : GI (kD k) G) (hr : Rel N (nA G) (nT G) v r s) (K : LEnd k G d o b i N c n) : J k ((CW (kD k) G v r ++ [lng (kD k) o f]) ++ MW (kD k) d s) c n 320 [some (.ref b), some (.ref (G.1 0 0)), some (.ref (d 0)), some (.ref o), some (.int (nI i)), x5, x6, x7, x8] [] := by
  refine j_aloadn F dL_law_320 rfl ?_
  refine j_aloadn F dL_law_321 rfl ?_
  refine j_iload F dL_law_322 rfl ?_
  refine j_iconst F (v := 1) dL_law_324 (by decide) ?_
  refine j_iaddN F (a := i) (b := 1) dL_law_325 ?_
  refine j_sld F hX hbl hbA dL_law_326 (show i + 1 < Ls by omega) (by omega) ?_
  refine j_aloadn F dL_law_327 rfl ?_
  refine j_iload F dL_law_328 rfl ?_
  refine j_iconst F (v := 2) dL_law_330 (by decide) ?_
  refine j_iaddN F (a := i) (b := 2) dL_law_331 ?_
  refine j_sld F hX hbl hbA dL_law_332 (show i + 2 < Ls by omega) (by omega) ?_
  refine j_aloadn F dL_law_333 rfl ?_
  refine j_cxhS F hw (qL_service (kl k) hst (kD k) G v r o f (xs (i + 1)) (xs (i + 2))) lh_L_99 dL_law_334 ⟨(Nat.le_of_ble_eq_true rfl), (Nat.le_of_ble_eq_true rfl)⟩ rfl (Nat.le_of_ble_eq_true rfl) ⟨by show c + 1 ≤ 601024; omega, by show n + 6 ≤ 7293034; omega⟩ (fun u w1 hp => ?_)
  obtain ⟨kk, f', rfl, hkc, hval, hw1⟩ := hp
  have hA := AG_service hr (xs (i + 1)) (xs (i + 2))
  obtain rfl := wrap_eq (keep_service _ _ _ _ (xs (i + 1)) (xs (i + 2))) hw1
  refine j_istore F [some (.ref b), some (.ref (G.1 0 0)), some (.ref (d 0)), some (.ref o), some (.int (nI i)), some (.int kk), x6, x7, x8] dL_law_337 rfl rfl rfl ?_
  refine j_aloadn F dL_law_339 rfl ?_
  refine j_aloadn F dL_law_340 rfl ?_
  refine j_iload F dL_law_341 rfl ?_
  refine j_iconst F (v := 1) dL_law_343 (by decide) ?_
  refine j_iaddN F (a := i) (b := 1) dL_law_344 ?_
  refine j_sld F hX hbl hbA dL_law_345 (show i + 1 < Ls by omega) (by omega) ?_
  refine j_aloadn F dL_law_346 rfl ?_
  refine j_iload F dL_law_347 rfl ?_
  refine j_iconst F (v := 2) dL_law_349 (by decide) ?_
  refine j_iaddN F (a := i) (b := 2) dL_law_350 ?_
  refine j_sld F hX hbl hbA dL_law_351 (show i + 2 < Ls by omega) (by omega) ?_
  refine j_perm (MW (kD k) d s ++ (CW (kD k) G (C_service (nA G) (nT G) v r (xs (i + 1)) (xs (i + 2))).2.2.1 (C_service (nA G) (nT G) v r (xs (i + 1)) (xs (i + 2))).2.2.2 ++ [lng (kD k) o f'])) List.perm_append_comm ?_
  refine j_cmV F hw (qX4_service (kl k) hst (kD k) d s (xs (i + 1)) (xs (i + 2))) lk_L_101 dL_law_352 ⟨(Nat.le_of_ble_eq_true rfl), (Nat.le_of_ble_eq_true rfl)⟩ 0 rfl rfl rfl (Nat.le_of_ble_eq_true rfl) ⟨by show c + 1 + 0 ≤ 601024; omega, by show n + 6 + 0 ≤ 7293034; omega⟩ (fun u w1 hp => ?_)
  obtain ⟨rfl, rfl⟩ := hp
  refine j_istore F [some (.ref b), some (.ref (G.1 0 0)), some (.ref (d 0)), some (.ref o), some (.int (nI i)), some (.int kk), some (.int ((M_service s (xs (i + 1)) (xs (i + 2))).1)), x7, x8] dL_law_355 rfl rfl rfl ?_
  refine j_aloadn F dL_law_357 rfl ?_
  refine j_rdV F (qX4_thrown (kl k) hst (kD k) d (M_service s (xs (i + 1)) (xs (i + 2))).2) lk_L_87 dL_law_358 ⟨(Nat.le_of_ble_eq_true rfl), (Nat.le_of_ble_eq_true rfl)⟩ (fun q hq => List.mem_append_left _ hq) 0 rfl rfl rfl (Nat.le_of_ble_eq_true rfl) ⟨by show c + 1 + 0 ≤ 601024; omega, by show n + 6 + 0 ≤ 7293034; omega⟩ ?_
  have hkk : M_thrown (M_service s (xs (i + 1)) (xs (i + 2))).2 = kk := KC.uniq (by decide) hA.1 hkc
  refine j_iload F dL_law_361 rfl ?_
  refine j_iceq F (tgt := 368) dL_law_363 (by decide) (fun _ => ?_) (fun z => absurd hkk z)
  refine j_iload F dL_law_368 rfl ?_
  refine j_ifne F (tgt := 385) dL_law_370 (by decide) (fun _ => ?_) (fun hk0 => ?_)
  · refine j_goto F (tgt := 1550) dL_law_385 (by decide) ?_
    exact K G _ _ _ _ _ _ _ _ _ _ hG (fun _ => rfl) hA.2.2 (by omega) (by omega)
  have hc0 := KC.zero hkc hk0
  refine j_aloadn F dL_law_373 rfl ?_
  refine j_iconst F (v := 0) dL_law_374 (by decide) ?_
  obtain ⟨q, hq⟩ := lng_at (w := MW (kD k) d (M_service s (xs (i + 1)) (xs (i + 2))).2) (D := kD k) (G := G) (v := (C_service (nA G) (nT G) v r (xs (i + 1)) (xs (i + 2))).2.2.1) (r := (C_service (nA G) (nT G) v r (xs (i + 1)) (xs (i + 2))).2.2.2) (o := o) (f := f')
  refine j_lald F dL_law_375 q hq (by unfold vp_in; decide +kernel) ?_
  rw [show f' (0 : Int32).toNatClampNeg = f' 0 from rfl, hval hc0]
  refine j_iload F dL_law_376 rfl ?_
  refine j_i2l F dL_law_378 ?_
  rw [show (C_service (nA G) (nT G) v r (xs (i + 1)) (xs (i + 2))).2.1 = (M_service s (xs (i + 1)) (xs (i + 2))).1 from hA.2.1 hc0]
  refine j_lcmp F dL_law_379 ?_
  refine j_ifeq F (tgt := 385) dL_law_380 (by decide) (fun _ => ?_) (fun z => absurd (lcmp_self _) z)
  refine j_goto F (tgt := 1550) dL_law_385 (by decide) ?_
  exact K G _ _ _ _ _ _ _ _ _ _ hG (fun _ => rfl) hA.2.2 (by omega) (by omega)
set_option maxRecDepth 100000 in
set_option maxHeartbeats 4000000 in
theorem case_4 {k : Kx} (F : Fx k code RL room_1 9) (hw : kw k = true) (hst : (kl k).stackTraces = false) {b o i Ls c n N : Nat} {xs : Nat → Int32} (hX : va_X b Ls xs (ks k) (ks k).heap) (hbl : b < (ks k).heap.size) (hbA : ¬ kA k b) (hi : i + 5 ≤ Ls) (hLs : Ls ≤ 2560) (hc : c ≤ 600000) (hn : n ≤ 7000000) (hN : N ≤ 1000) {G : CG} {v : S2} {r : R2} {s : S2} {d : Nat → Nat} {f : Nat → Int64} {x5 x6 x7 x8 : Option Value} (hG : GI (kD k) G) (hr : Rel N (nA G) (nT G) v r s) (K : LEnd k G d o b i N c n) : J k ((CW (kD k) G v r ++ [lng (kD k) o f]) ++ MW (kD k) d s) c n 388 [some (.ref b), some (.ref (G.1 0 0)), some (.ref (d 0)), some (.ref o), some (.int (nI i)), x5, x6, x7, x8] [] := by
  refine j_aloadn F dL_law_388 rfl ?_
  refine j_aloadn F dL_law_389 rfl ?_
  refine j_iload F dL_law_390 rfl ?_
  refine j_iconst F (v := 1) dL_law_392 (by decide) ?_
  refine j_iaddN F (a := i) (b := 1) dL_law_393 ?_
  refine j_sld F hX hbl hbA dL_law_394 (show i + 1 < Ls by omega) (by omega) ?_
  refine j_aloadn F dL_law_395 rfl ?_
  refine j_iload F dL_law_396 rfl ?_
  refine j_iconst F (v := 2) dL_law_398 (by decide) ?_
  refine j_iaddN F (a := i) (b := 2) dL_law_399 ?_
  refine j_sld F hX hbl hbA dL_law_400 (show i + 2 < Ls by omega) (by omega) ?_
  refine j_aloadn F dL_law_401 rfl ?_
  refine j_iload F dL_law_402 rfl ?_
  refine j_iconst F (v := 3) dL_law_404 (by decide) ?_
  refine j_iaddN F (a := i) (b := 3) dL_law_405 ?_
  refine j_sld F hX hbl hbA dL_law_406 (show i + 3 < Ls by omega) (by omega) ?_
  refine j_aloadn F dL_law_407 rfl ?_
  refine j_iload F dL_law_408 rfl ?_
  refine j_iconst F (v := 4) dL_law_410 (by decide) ?_
  refine j_iaddN F (a := i) (b := 4) dL_law_411 ?_
  refine j_sld F hX hbl hbA dL_law_412 (show i + 4 < Ls by omega) (by omega) ?_
  refine j_aloadn F dL_law_413 rfl ?_
  refine j_cxhS F hw (qL_addAgent (kl k) hst (kD k) G v r o f (xs (i + 1)) (xs (i + 2)) (xs (i + 3)) (xs (i + 4)) hG hr.ci) lh_L_102 dL_law_414 ⟨(Nat.le_of_ble_eq_true rfl), (Nat.le_of_ble_eq_true rfl)⟩ rfl (Nat.le_of_ble_eq_true rfl) ⟨by show c + 2 ≤ 601024; omega, by show n + 45 ≤ 7293034; omega⟩ (fun u w1 hp => ?_)
  obtain ⟨kk, f', rfl, hkc, hval, hw1⟩ := hp
  have hA := AG_addAgent hr (xs (i + 1)) (xs (i + 2)) (xs (i + 3)) (xs (i + 4))
  obtain ⟨G', v', r', hg0, hGG, rfl, hrel⟩ := agn_world hG hA hw1
  refine j_istore F [some (.ref b), some (.ref (G.1 0 0)), some (.ref (d 0)), some (.ref o), some (.int (nI i)), some (.int kk), x6, x7, x8] dL_law_417 rfl rfl rfl ?_
  refine j_aloadn F dL_law_419 rfl ?_
  refine j_aloadn F dL_law_420 rfl ?_
  refine j_iload F dL_law_421 rfl ?_
  refine j_iconst F (v := 1) dL_law_423 (by decide) ?_
  refine j_iaddN F (a := i) (b := 1) dL_law_424 ?_
  refine j_sld F hX hbl hbA dL_law_425 (show i + 1 < Ls by omega) (by omega) ?_
  refine j_aloadn F dL_law_426 rfl ?_
  refine j_iload F dL_law_427 rfl ?_
  refine j_iconst F (v := 2) dL_law_429 (by decide) ?_
  refine j_iaddN F (a := i) (b := 2) dL_law_430 ?_
  refine j_sld F hX hbl hbA dL_law_431 (show i + 2 < Ls by omega) (by omega) ?_
  refine j_aloadn F dL_law_432 rfl ?_
  refine j_iload F dL_law_433 rfl ?_
  refine j_iconst F (v := 3) dL_law_435 (by decide) ?_
  refine j_iaddN F (a := i) (b := 3) dL_law_436 ?_
  refine j_sld F hX hbl hbA dL_law_437 (show i + 3 < Ls by omega) (by omega) ?_
  refine j_aloadn F dL_law_438 rfl ?_
  refine j_iload F dL_law_439 rfl ?_
  refine j_iconst F (v := 4) dL_law_441 (by decide) ?_
  refine j_iaddN F (a := i) (b := 4) dL_law_442 ?_
  refine j_sld F hX hbl hbA dL_law_443 (show i + 4 < Ls by omega) (by omega) ?_
  refine j_perm (MW (kD k) d s ++ (CW (kD k) G' v' r' ++ [lng (kD k) o f'])) List.perm_append_comm ?_
  refine j_cmV F hw (qX4_addAgent (kl k) hst (kD k) d s (xs (i + 1)) (xs (i + 2)) (xs (i + 3)) (xs (i + 4)) hr.mi) lk_L_105 dL_law_444 ⟨(Nat.le_of_ble_eq_true rfl), (Nat.le_of_ble_eq_true rfl)⟩ 0 rfl rfl rfl (Nat.le_of_ble_eq_true rfl) ⟨by show c + 2 + 0 ≤ 601024; omega, by show n + 45 + 0 ≤ 7293034; omega⟩ (fun u w1 hp => ?_)
  obtain ⟨rfl, rfl⟩ := hp
  refine j_istore F [some (.ref b), some (.ref (G.1 0 0)), some (.ref (d 0)), some (.ref o), some (.int (nI i)), some (.int kk), some (.int ((M_addAgent s (xs (i + 1)) (xs (i + 2)) (xs (i + 3)) (xs (i + 4))).1)), x7, x8] dL_law_447 rfl rfl rfl ?_
  refine j_aloadn F dL_law_449 rfl ?_
  refine j_rdV F (qX4_thrown (kl k) hst (kD k) d (M_addAgent s (xs (i + 1)) (xs (i + 2)) (xs (i + 3)) (xs (i + 4))).2) lk_L_87 dL_law_450 ⟨(Nat.le_of_ble_eq_true rfl), (Nat.le_of_ble_eq_true rfl)⟩ (fun q hq => List.mem_append_left _ hq) 0 rfl rfl rfl (Nat.le_of_ble_eq_true rfl) ⟨by show c + 2 + 0 ≤ 601024; omega, by show n + 45 + 0 ≤ 7293034; omega⟩ ?_
  have hkk : M_thrown (M_addAgent s (xs (i + 1)) (xs (i + 2)) (xs (i + 3)) (xs (i + 4))).2 = kk := KC.uniq (by decide) hA.1 hkc
  refine j_iload F dL_law_453 rfl ?_
  refine j_iceq F (tgt := 460) dL_law_455 (by decide) (fun _ => ?_) (fun z => absurd hkk z)
  refine j_iload F dL_law_460 rfl ?_
  refine j_ifne F (tgt := 477) dL_law_462 (by decide) (fun _ => ?_) (fun hk0 => ?_)
  · refine j_goto F (tgt := 1550) dL_law_477 (by decide) ?_
    exact K G' _ _ _ _ _ _ _ _ _ _ hGG hg0 hrel (by omega) (by omega)
  have hc0 := KC.zero hkc hk0
  refine j_aloadn F dL_law_465 rfl ?_
  refine j_iconst F (v := 0) dL_law_466 (by decide) ?_
  obtain ⟨q, hq⟩ := lng_at (w := MW (kD k) d (M_addAgent s (xs (i + 1)) (xs (i + 2)) (xs (i + 3)) (xs (i + 4))).2) (D := kD k) (G := G') (v := v') (r := r') (o := o) (f := f')
  refine j_lald F dL_law_467 q hq (by unfold vp_in; decide +kernel) ?_
  rw [show f' (0 : Int32).toNatClampNeg = f' 0 from rfl, hval hc0]
  refine j_iload F dL_law_468 rfl ?_
  refine j_i2l F dL_law_470 ?_
  rw [show (C_addAgent (nA G) (nT G) v r (xs (i + 1)) (xs (i + 2)) (xs (i + 3)) (xs (i + 4))).2.1 = (M_addAgent s (xs (i + 1)) (xs (i + 2)) (xs (i + 3)) (xs (i + 4))).1 from (hA.2.1 hc0).1]
  refine j_lcmp F dL_law_471 ?_
  refine j_ifeq F (tgt := 477) dL_law_472 (by decide) (fun _ => ?_) (fun z => absurd (lcmp_self _) z)
  refine j_goto F (tgt := 1550) dL_law_477 (by decide) ?_
  exact K G' _ _ _ _ _ _ _ _ _ _ hGG hg0 hrel (by omega) (by omega)
set_option maxRecDepth 100000 in
set_option maxHeartbeats 4000000 in
theorem case_5 {k : Kx} (F : Fx k code RL room_1 9) (hw : kw k = true) (hst : (kl k).stackTraces = false) {b o i Ls c n N : Nat} {xs : Nat → Int32} (hX : va_X b Ls xs (ks k) (ks k).heap) (hbl : b < (ks k).heap.size) (hbA : ¬ kA k b) (hi : i + 5 ≤ Ls) (hLs : Ls ≤ 2560) (hc : c ≤ 600000) (hn : n ≤ 7000000) (hN : N ≤ 1000) {G : CG} {v : S2} {r : R2} {s : S2} {d : Nat → Nat} {f : Nat → Int64} {x5 x6 x7 x8 : Option Value} (hG : GI (kD k) G) (hr : Rel N (nA G) (nT G) v r s) (K : LEnd k G d o b i N c n) : J k ((CW (kD k) G v r ++ [lng (kD k) o f]) ++ MW (kD k) d s) c n 480 [some (.ref b), some (.ref (G.1 0 0)), some (.ref (d 0)), some (.ref o), some (.int (nI i)), x5, x6, x7, x8] [] := by
  refine j_aloadn F dL_law_480 rfl ?_
  refine j_aloadn F dL_law_481 rfl ?_
  refine j_iload F dL_law_482 rfl ?_
  refine j_iconst F (v := 1) dL_law_484 (by decide) ?_
  refine j_iaddN F (a := i) (b := 1) dL_law_485 ?_
  refine j_sld F hX hbl hbA dL_law_486 (show i + 1 < Ls by omega) (by omega) ?_
  refine j_aloadn F dL_law_487 rfl ?_
  refine j_iload F dL_law_488 rfl ?_
  refine j_iconst F (v := 2) dL_law_490 (by decide) ?_
  refine j_iaddN F (a := i) (b := 2) dL_law_491 ?_
  refine j_sld F hX hbl hbA dL_law_492 (show i + 2 < Ls by omega) (by omega) ?_
  refine j_aloadn F dL_law_493 rfl ?_
  refine j_cxhS F hw (qL_setSkills (kl k) hst (kD k) G v r o f (xs (i + 1)) (xs (i + 2)) hG hr.ci) lh_L_106 dL_law_494 ⟨(Nat.le_of_ble_eq_true rfl), (Nat.le_of_ble_eq_true rfl)⟩ rfl (Nat.le_of_ble_eq_true rfl) ⟨by show c + 2 ≤ 601024; omega, by show n + 12 ≤ 7293034; omega⟩ (fun u w1 hp => ?_)
  obtain ⟨kk, f', rfl, hkc, hval, hw1⟩ := hp
  have hA := AG_setSkills hr (xs (i + 1)) (xs (i + 2))
  obtain rfl := wrap_eq (keep_setSkills _ _ _ _ (xs (i + 1)) (xs (i + 2))) hw1
  refine j_istore F [some (.ref b), some (.ref (G.1 0 0)), some (.ref (d 0)), some (.ref o), some (.int (nI i)), some (.int kk), x6, x7, x8] dL_law_497 rfl rfl rfl ?_
  refine j_aloadn F dL_law_499 rfl ?_
  refine j_aloadn F dL_law_500 rfl ?_
  refine j_iload F dL_law_501 rfl ?_
  refine j_iconst F (v := 1) dL_law_503 (by decide) ?_
  refine j_iaddN F (a := i) (b := 1) dL_law_504 ?_
  refine j_sld F hX hbl hbA dL_law_505 (show i + 1 < Ls by omega) (by omega) ?_
  refine j_aloadn F dL_law_506 rfl ?_
  refine j_iload F dL_law_507 rfl ?_
  refine j_iconst F (v := 2) dL_law_509 (by decide) ?_
  refine j_iaddN F (a := i) (b := 2) dL_law_510 ?_
  refine j_sld F hX hbl hbA dL_law_511 (show i + 2 < Ls by omega) (by omega) ?_
  refine j_perm (MW (kD k) d s ++ (CW (kD k) G (C_setSkills (nA G) (nT G) v r (xs (i + 1)) (xs (i + 2))).2.2.1 (C_setSkills (nA G) (nT G) v r (xs (i + 1)) (xs (i + 2))).2.2.2 ++ [lng (kD k) o f'])) List.perm_append_comm ?_
  refine j_cmV F hw (qX4_setSkills (kl k) hst (kD k) d s (xs (i + 1)) (xs (i + 2)) hr.mi) lk_L_108 dL_law_512 ⟨(Nat.le_of_ble_eq_true rfl), (Nat.le_of_ble_eq_true rfl)⟩ 0 rfl rfl rfl (Nat.le_of_ble_eq_true rfl) ⟨by show c + 2 + 0 ≤ 601024; omega, by show n + 12 + 0 ≤ 7293034; omega⟩ (fun u w1 hp => ?_)
  obtain ⟨rfl, rfl⟩ := hp
  refine j_istore F [some (.ref b), some (.ref (G.1 0 0)), some (.ref (d 0)), some (.ref o), some (.int (nI i)), some (.int kk), some (.int ((M_setSkills s (xs (i + 1)) (xs (i + 2))).1)), x7, x8] dL_law_515 rfl rfl rfl ?_
  refine j_aloadn F dL_law_517 rfl ?_
  refine j_rdV F (qX4_thrown (kl k) hst (kD k) d (M_setSkills s (xs (i + 1)) (xs (i + 2))).2) lk_L_87 dL_law_518 ⟨(Nat.le_of_ble_eq_true rfl), (Nat.le_of_ble_eq_true rfl)⟩ (fun q hq => List.mem_append_left _ hq) 0 rfl rfl rfl (Nat.le_of_ble_eq_true rfl) ⟨by show c + 2 + 0 ≤ 601024; omega, by show n + 12 + 0 ≤ 7293034; omega⟩ ?_
  have hkk : M_thrown (M_setSkills s (xs (i + 1)) (xs (i + 2))).2 = kk := KC.uniq (by decide) hA.1 hkc
  refine j_iload F dL_law_521 rfl ?_
  refine j_iceq F (tgt := 528) dL_law_523 (by decide) (fun _ => ?_) (fun z => absurd hkk z)
  refine j_iload F dL_law_528 rfl ?_
  refine j_ifne F (tgt := 545) dL_law_530 (by decide) (fun _ => ?_) (fun hk0 => ?_)
  · refine j_goto F (tgt := 1550) dL_law_545 (by decide) ?_
    exact K G _ _ _ _ _ _ _ _ _ _ hG (fun _ => rfl) hA.2.2 (by omega) (by omega)
  have hc0 := KC.zero hkc hk0
  refine j_aloadn F dL_law_533 rfl ?_
  refine j_iconst F (v := 0) dL_law_534 (by decide) ?_
  obtain ⟨q, hq⟩ := lng_at (w := MW (kD k) d (M_setSkills s (xs (i + 1)) (xs (i + 2))).2) (D := kD k) (G := G) (v := (C_setSkills (nA G) (nT G) v r (xs (i + 1)) (xs (i + 2))).2.2.1) (r := (C_setSkills (nA G) (nT G) v r (xs (i + 1)) (xs (i + 2))).2.2.2) (o := o) (f := f')
  refine j_lald F dL_law_535 q hq (by unfold vp_in; decide +kernel) ?_
  rw [show f' (0 : Int32).toNatClampNeg = f' 0 from rfl, hval hc0]
  refine j_iload F dL_law_536 rfl ?_
  refine j_i2l F dL_law_538 ?_
  rw [show (C_setSkills (nA G) (nT G) v r (xs (i + 1)) (xs (i + 2))).2.1 = (M_setSkills s (xs (i + 1)) (xs (i + 2))).1 from hA.2.1 hc0]
  refine j_lcmp F dL_law_539 ?_
  refine j_ifeq F (tgt := 545) dL_law_540 (by decide) (fun _ => ?_) (fun z => absurd (lcmp_self _) z)
  refine j_goto F (tgt := 1550) dL_law_545 (by decide) ?_
  exact K G _ _ _ _ _ _ _ _ _ _ hG (fun _ => rfl) hA.2.2 (by omega) (by omega)
set_option maxRecDepth 100000 in
set_option maxHeartbeats 4000000 in
theorem case_6 {k : Kx} (F : Fx k code RL room_1 9) (hw : kw k = true) (hst : (kl k).stackTraces = false) {b o i Ls c n N : Nat} {xs : Nat → Int32} (hX : va_X b Ls xs (ks k) (ks k).heap) (hbl : b < (ks k).heap.size) (hbA : ¬ kA k b) (hi : i + 5 ≤ Ls) (hLs : Ls ≤ 2560) (hc : c ≤ 600000) (hn : n ≤ 7000000) (hN : N ≤ 1000) {G : CG} {v : S2} {r : R2} {s : S2} {d : Nat → Nat} {f : Nat → Int64} {x5 x6 x7 x8 : Option Value} (hG : GI (kD k) G) (hr : Rel N (nA G) (nT G) v r s) (K : LEnd k G d o b i N c n) : J k ((CW (kD k) G v r ++ [lng (kD k) o f]) ++ MW (kD k) d s) c n 548 [some (.ref b), some (.ref (G.1 0 0)), some (.ref (d 0)), some (.ref o), some (.int (nI i)), x5, x6, x7, x8] [] := by
  refine j_aloadn F dL_law_548 rfl ?_
  refine j_aloadn F dL_law_549 rfl ?_
  refine j_iload F dL_law_550 rfl ?_
  refine j_iconst F (v := 1) dL_law_552 (by decide) ?_
  refine j_iaddN F (a := i) (b := 1) dL_law_553 ?_
  refine j_sld F hX hbl hbA dL_law_554 (show i + 1 < Ls by omega) (by omega) ?_
  refine j_aloadn F dL_law_555 rfl ?_
  refine j_iload F dL_law_556 rfl ?_
  refine j_iconst F (v := 2) dL_law_558 (by decide) ?_
  refine j_iaddN F (a := i) (b := 2) dL_law_559 ?_
  refine j_sld F hX hbl hbA dL_law_560 (show i + 2 < Ls by omega) (by omega) ?_
  refine j_aloadn F dL_law_561 rfl ?_
  refine j_cxhS F hw (qL_agent (kl k) hst (kD k) G v r o f (xs (i + 1)) (xs (i + 2)) hG hr.ci) lh_L_109 dL_law_562 ⟨(Nat.le_of_ble_eq_true rfl), (Nat.le_of_ble_eq_true rfl)⟩ rfl (Nat.le_of_ble_eq_true rfl) ⟨by show c + 2 ≤ 601024; omega, by show n + 12 ≤ 7293034; omega⟩ (fun u w1 hp => ?_)
  obtain ⟨kk, f', rfl, hkc, hval, hw1⟩ := hp
  have hA := AG_agent hr (xs (i + 1)) (xs (i + 2))
  obtain rfl := wrap_eq (keep_agent _ _ _ _ (xs (i + 1)) (xs (i + 2))) hw1
  refine j_istore F [some (.ref b), some (.ref (G.1 0 0)), some (.ref (d 0)), some (.ref o), some (.int (nI i)), some (.int kk), x6, x7, x8] dL_law_565 rfl rfl rfl ?_
  refine j_aloadn F dL_law_567 rfl ?_
  refine j_aloadn F dL_law_568 rfl ?_
  refine j_iload F dL_law_569 rfl ?_
  refine j_iconst F (v := 1) dL_law_571 (by decide) ?_
  refine j_iaddN F (a := i) (b := 1) dL_law_572 ?_
  refine j_sld F hX hbl hbA dL_law_573 (show i + 1 < Ls by omega) (by omega) ?_
  refine j_aloadn F dL_law_574 rfl ?_
  refine j_iload F dL_law_575 rfl ?_
  refine j_iconst F (v := 2) dL_law_577 (by decide) ?_
  refine j_iaddN F (a := i) (b := 2) dL_law_578 ?_
  refine j_sld F hX hbl hbA dL_law_579 (show i + 2 < Ls by omega) (by omega) ?_
  refine j_perm (MW (kD k) d s ++ (CW (kD k) G (C_agent (nA G) (nT G) v r (xs (i + 1)) (xs (i + 2))).2.2.1 (C_agent (nA G) (nT G) v r (xs (i + 1)) (xs (i + 2))).2.2.2 ++ [lng (kD k) o f'])) List.perm_append_comm ?_
  refine j_cmV F hw (qX4_agent (kl k) hst (kD k) d s (xs (i + 1)) (xs (i + 2)) hr.mi) lk_L_111 dL_law_580 ⟨(Nat.le_of_ble_eq_true rfl), (Nat.le_of_ble_eq_true rfl)⟩ 0 rfl rfl rfl (Nat.le_of_ble_eq_true rfl) ⟨by show c + 2 + 0 ≤ 601024; omega, by show n + 12 + 0 ≤ 7293034; omega⟩ (fun u w1 hp => ?_)
  obtain ⟨rfl, rfl⟩ := hp
  refine j_istore F [some (.ref b), some (.ref (G.1 0 0)), some (.ref (d 0)), some (.ref o), some (.int (nI i)), some (.int kk), some (.int ((M_agent s (xs (i + 1)) (xs (i + 2))).1)), x7, x8] dL_law_583 rfl rfl rfl ?_
  refine j_aloadn F dL_law_585 rfl ?_
  refine j_rdV F (qX4_thrown (kl k) hst (kD k) d (M_agent s (xs (i + 1)) (xs (i + 2))).2) lk_L_87 dL_law_586 ⟨(Nat.le_of_ble_eq_true rfl), (Nat.le_of_ble_eq_true rfl)⟩ (fun q hq => List.mem_append_left _ hq) 0 rfl rfl rfl (Nat.le_of_ble_eq_true rfl) ⟨by show c + 2 + 0 ≤ 601024; omega, by show n + 12 + 0 ≤ 7293034; omega⟩ ?_
  have hkk : M_thrown (M_agent s (xs (i + 1)) (xs (i + 2))).2 = kk := KC.uniq (by decide) hA.1 hkc
  refine j_iload F dL_law_589 rfl ?_
  refine j_iceq F (tgt := 596) dL_law_591 (by decide) (fun _ => ?_) (fun z => absurd hkk z)
  refine j_iload F dL_law_596 rfl ?_
  refine j_ifne F (tgt := 613) dL_law_598 (by decide) (fun _ => ?_) (fun hk0 => ?_)
  · refine j_goto F (tgt := 1550) dL_law_613 (by decide) ?_
    exact K G _ _ _ _ _ _ _ _ _ _ hG (fun _ => rfl) hA.2.2 (by omega) (by omega)
  have hc0 := KC.zero hkc hk0
  refine j_aloadn F dL_law_601 rfl ?_
  refine j_iconst F (v := 0) dL_law_602 (by decide) ?_
  obtain ⟨q, hq⟩ := lng_at (w := MW (kD k) d (M_agent s (xs (i + 1)) (xs (i + 2))).2) (D := kD k) (G := G) (v := (C_agent (nA G) (nT G) v r (xs (i + 1)) (xs (i + 2))).2.2.1) (r := (C_agent (nA G) (nT G) v r (xs (i + 1)) (xs (i + 2))).2.2.2) (o := o) (f := f')
  refine j_lald F dL_law_603 q hq (by unfold vp_in; decide +kernel) ?_
  rw [show f' (0 : Int32).toNatClampNeg = f' 0 from rfl, hval hc0]
  refine j_iload F dL_law_604 rfl ?_
  refine j_i2l F dL_law_606 ?_
  rw [show (C_agent (nA G) (nT G) v r (xs (i + 1)) (xs (i + 2))).2.1 = (M_agent s (xs (i + 1)) (xs (i + 2))).1 from hA.2.1 hc0]
  refine j_lcmp F dL_law_607 ?_
  refine j_ifeq F (tgt := 613) dL_law_608 (by decide) (fun _ => ?_) (fun z => absurd (lcmp_self _) z)
  refine j_goto F (tgt := 1550) dL_law_613 (by decide) ?_
  exact K G _ _ _ _ _ _ _ _ _ _ hG (fun _ => rfl) hA.2.2 (by omega) (by omega)
set_option maxRecDepth 100000 in
set_option maxHeartbeats 4000000 in
theorem case_7 {k : Kx} (F : Fx k code RL room_1 9) (hw : kw k = true) (hst : (kl k).stackTraces = false) {b o i Ls c n N : Nat} {xs : Nat → Int32} (hX : va_X b Ls xs (ks k) (ks k).heap) (hbl : b < (ks k).heap.size) (hbA : ¬ kA k b) (hi : i + 5 ≤ Ls) (hLs : Ls ≤ 2560) (hc : c ≤ 600000) (hn : n ≤ 7000000) (hN : N ≤ 1000) {G : CG} {v : S2} {r : R2} {s : S2} {d : Nat → Nat} {f : Nat → Int64} {x5 x6 x7 x8 : Option Value} (hG : GI (kD k) G) (hr : Rel N (nA G) (nT G) v r s) (K : LEnd k G d o b i N c n) : J k ((CW (kD k) G v r ++ [lng (kD k) o f]) ++ MW (kD k) d s) c n 616 [some (.ref b), some (.ref (G.1 0 0)), some (.ref (d 0)), some (.ref o), some (.int (nI i)), x5, x6, x7, x8] [] := by
  refine j_aloadn F dL_law_616 rfl ?_
  refine j_aloadn F dL_law_617 rfl ?_
  refine j_iload F dL_law_618 rfl ?_
  refine j_iconst F (v := 1) dL_law_620 (by decide) ?_
  refine j_iaddN F (a := i) (b := 1) dL_law_621 ?_
  refine j_sld F hX hbl hbA dL_law_622 (show i + 1 < Ls by omega) (by omega) ?_
  refine j_aloadn F dL_law_623 rfl ?_
  refine j_cxhS F hw (qL_next (kl k) hst (kD k) G v r o f (xs (i + 1)) hG hr.ci) lh_L_112 dL_law_624 ⟨(Nat.le_of_ble_eq_true rfl), (Nat.le_of_ble_eq_true rfl)⟩ rfl (Nat.le_of_ble_eq_true rfl) ⟨by show c + 1 ≤ 601024; omega, by show n + 6 ≤ 7293034; omega⟩ (fun u w1 hp => ?_)
  obtain ⟨kk, f', rfl, hkc, hval, hw1⟩ := hp
  have hA := AG_next hr (xs (i + 1))
  obtain rfl := wrap_eq (keep_next _ _ _ _ (xs (i + 1))) hw1
  refine j_istore F [some (.ref b), some (.ref (G.1 0 0)), some (.ref (d 0)), some (.ref o), some (.int (nI i)), some (.int kk), x6, x7, x8] dL_law_627 rfl rfl rfl ?_
  refine j_aloadn F dL_law_629 rfl ?_
  refine j_aloadn F dL_law_630 rfl ?_
  refine j_iload F dL_law_631 rfl ?_
  refine j_iconst F (v := 1) dL_law_633 (by decide) ?_
  refine j_iaddN F (a := i) (b := 1) dL_law_634 ?_
  refine j_sld F hX hbl hbA dL_law_635 (show i + 1 < Ls by omega) (by omega) ?_
  refine j_perm (MW (kD k) d s ++ (CW (kD k) G (C_next (nA G) (nT G) v r (xs (i + 1))).2.2.1 (C_next (nA G) (nT G) v r (xs (i + 1))).2.2.2 ++ [lng (kD k) o f'])) List.perm_append_comm ?_
  refine j_cmV F hw (qX4_next (kl k) hst (kD k) d s (xs (i + 1)) hr.mi) lk_L_115 dL_law_636 ⟨(Nat.le_of_ble_eq_true rfl), (Nat.le_of_ble_eq_true rfl)⟩ 0 rfl rfl rfl (Nat.le_of_ble_eq_true rfl) ⟨by show c + 1 + 0 ≤ 601024; omega, by show n + 6 + 0 ≤ 7293034; omega⟩ (fun u w1 hp => ?_)
  obtain ⟨rfl, rfl⟩ := hp
  refine j_istore F [some (.ref b), some (.ref (G.1 0 0)), some (.ref (d 0)), some (.ref o), some (.int (nI i)), some (.int kk), some (.int ((M_next s (xs (i + 1))).1)), x7, x8] dL_law_639 rfl rfl rfl ?_
  refine j_aloadn F dL_law_641 rfl ?_
  refine j_rdV F (qX4_thrown (kl k) hst (kD k) d (M_next s (xs (i + 1))).2) lk_L_87 dL_law_642 ⟨(Nat.le_of_ble_eq_true rfl), (Nat.le_of_ble_eq_true rfl)⟩ (fun q hq => List.mem_append_left _ hq) 0 rfl rfl rfl (Nat.le_of_ble_eq_true rfl) ⟨by show c + 1 + 0 ≤ 601024; omega, by show n + 6 + 0 ≤ 7293034; omega⟩ ?_
  have hkk : M_thrown (M_next s (xs (i + 1))).2 = kk := KC.uniq (by decide) hA.1 hkc
  refine j_iload F dL_law_645 rfl ?_
  refine j_iceq F (tgt := 652) dL_law_647 (by decide) (fun _ => ?_) (fun z => absurd hkk z)
  refine j_iload F dL_law_652 rfl ?_
  refine j_ifne F (tgt := 669) dL_law_654 (by decide) (fun _ => ?_) (fun hk0 => ?_)
  · refine j_goto F (tgt := 1550) dL_law_669 (by decide) ?_
    exact K G _ _ _ _ _ _ _ _ _ _ hG (fun _ => rfl) hA.2.2 (by omega) (by omega)
  have hc0 := KC.zero hkc hk0
  refine j_aloadn F dL_law_657 rfl ?_
  refine j_iconst F (v := 0) dL_law_658 (by decide) ?_
  obtain ⟨q, hq⟩ := lng_at (w := MW (kD k) d (M_next s (xs (i + 1))).2) (D := kD k) (G := G) (v := (C_next (nA G) (nT G) v r (xs (i + 1))).2.2.1) (r := (C_next (nA G) (nT G) v r (xs (i + 1))).2.2.2) (o := o) (f := f')
  refine j_lald F dL_law_659 q hq (by unfold vp_in; decide +kernel) ?_
  rw [show f' (0 : Int32).toNatClampNeg = f' 0 from rfl, hval hc0]
  refine j_iload F dL_law_660 rfl ?_
  refine j_i2l F dL_law_662 ?_
  rw [show (C_next (nA G) (nT G) v r (xs (i + 1))).2.1 = (M_next s (xs (i + 1))).1 from hA.2.1 hc0]
  refine j_lcmp F dL_law_663 ?_
  refine j_ifeq F (tgt := 669) dL_law_664 (by decide) (fun _ => ?_) (fun z => absurd (lcmp_self _) z)
  refine j_goto F (tgt := 1550) dL_law_669 (by decide) ?_
  exact K G _ _ _ _ _ _ _ _ _ _ hG (fun _ => rfl) hA.2.2 (by omega) (by omega)
set_option maxRecDepth 100000 in
set_option maxHeartbeats 4000000 in
theorem case_8 {k : Kx} (F : Fx k code RL room_1 9) (hw : kw k = true) (hst : (kl k).stackTraces = false) {b o i Ls c n N : Nat} {xs : Nat → Int32} (hX : va_X b Ls xs (ks k) (ks k).heap) (hbl : b < (ks k).heap.size) (hbA : ¬ kA k b) (hi : i + 5 ≤ Ls) (hLs : Ls ≤ 2560) (hc : c ≤ 600000) (hn : n ≤ 7000000) (hN : N ≤ 1000) {G : CG} {v : S2} {r : R2} {s : S2} {d : Nat → Nat} {f : Nat → Int64} {x5 x6 x7 x8 : Option Value} (hG : GI (kD k) G) (hr : Rel N (nA G) (nT G) v r s) (K : LEnd k G d o b i N c n) : J k ((CW (kD k) G v r ++ [lng (kD k) o f]) ++ MW (kD k) d s) c n 672 [some (.ref b), some (.ref (G.1 0 0)), some (.ref (d 0)), some (.ref o), some (.int (nI i)), x5, x6, x7, x8] [] := by
  refine j_aloadn F dL_law_672 rfl ?_
  refine j_aloadn F dL_law_673 rfl ?_
  refine j_iload F dL_law_674 rfl ?_
  refine j_iconst F (v := 1) dL_law_676 (by decide) ?_
  refine j_iaddN F (a := i) (b := 1) dL_law_677 ?_
  refine j_sld F hX hbl hbA dL_law_678 (show i + 1 < Ls by omega) (by omega) ?_
  refine j_aloadn F dL_law_679 rfl ?_
  refine j_iload F dL_law_680 rfl ?_
  refine j_iconst F (v := 2) dL_law_682 (by decide) ?_
  refine j_iaddN F (a := i) (b := 2) dL_law_683 ?_
  refine j_sld F hX hbl hbA dL_law_684 (show i + 2 < Ls by omega) (by omega) ?_
  refine j_aloadn F dL_law_685 rfl ?_
  refine j_iload F dL_law_686 rfl ?_
  refine j_iconst F (v := 3) dL_law_688 (by decide) ?_
  refine j_iaddN F (a := i) (b := 3) dL_law_689 ?_
  refine j_sld F hX hbl hbA dL_law_690 (show i + 3 < Ls by omega) (by omega) ?_
  refine j_aloadn F dL_law_691 rfl ?_
  refine j_iload F dL_law_692 rfl ?_
  refine j_iconst F (v := 4) dL_law_694 (by decide) ?_
  refine j_iaddN F (a := i) (b := 4) dL_law_695 ?_
  refine j_sld F hX hbl hbA dL_law_696 (show i + 4 < Ls by omega) (by omega) ?_
  refine j_aloadn F dL_law_697 rfl ?_
  refine j_cxhS F hw (qL_open (kl k) hst (kD k) G v r o f (xs (i + 1)) (xs (i + 2)) (xs (i + 3)) (xs (i + 4)) hG hr.ci) lh_L_116 dL_law_698 ⟨(Nat.le_of_ble_eq_true rfl), (Nat.le_of_ble_eq_true rfl)⟩ rfl (Nat.le_of_ble_eq_true rfl) ⟨by show c + 2 ≤ 601024; omega, by show n + 45 ≤ 7293034; omega⟩ (fun u w1 hp => ?_)
  obtain ⟨kk, f', rfl, hkc, hval, hw1⟩ := hp
  have hA := AG_open hr (xs (i + 1)) (xs (i + 2)) (xs (i + 3)) (xs (i + 4))
  obtain ⟨G', v', r', hg0, hGG, rfl, hrel⟩ := agn_world hG hA hw1
  refine j_istore F [some (.ref b), some (.ref (G.1 0 0)), some (.ref (d 0)), some (.ref o), some (.int (nI i)), some (.int kk), x6, x7, x8] dL_law_701 rfl rfl rfl ?_
  refine j_aloadn F dL_law_703 rfl ?_
  refine j_aloadn F dL_law_704 rfl ?_
  refine j_iload F dL_law_705 rfl ?_
  refine j_iconst F (v := 1) dL_law_707 (by decide) ?_
  refine j_iaddN F (a := i) (b := 1) dL_law_708 ?_
  refine j_sld F hX hbl hbA dL_law_709 (show i + 1 < Ls by omega) (by omega) ?_
  refine j_aloadn F dL_law_710 rfl ?_
  refine j_iload F dL_law_711 rfl ?_
  refine j_iconst F (v := 2) dL_law_713 (by decide) ?_
  refine j_iaddN F (a := i) (b := 2) dL_law_714 ?_
  refine j_sld F hX hbl hbA dL_law_715 (show i + 2 < Ls by omega) (by omega) ?_
  refine j_aloadn F dL_law_716 rfl ?_
  refine j_iload F dL_law_717 rfl ?_
  refine j_iconst F (v := 3) dL_law_719 (by decide) ?_
  refine j_iaddN F (a := i) (b := 3) dL_law_720 ?_
  refine j_sld F hX hbl hbA dL_law_721 (show i + 3 < Ls by omega) (by omega) ?_
  refine j_aloadn F dL_law_722 rfl ?_
  refine j_iload F dL_law_723 rfl ?_
  refine j_iconst F (v := 4) dL_law_725 (by decide) ?_
  refine j_iaddN F (a := i) (b := 4) dL_law_726 ?_
  refine j_sld F hX hbl hbA dL_law_727 (show i + 4 < Ls by omega) (by omega) ?_
  refine j_perm (MW (kD k) d s ++ (CW (kD k) G' v' r' ++ [lng (kD k) o f'])) List.perm_append_comm ?_
  refine j_cmV F hw (qX4_open (kl k) hst (kD k) d s (xs (i + 1)) (xs (i + 2)) (xs (i + 3)) (xs (i + 4)) hr.mi) lk_L_118 dL_law_728 ⟨(Nat.le_of_ble_eq_true rfl), (Nat.le_of_ble_eq_true rfl)⟩ 0 rfl rfl rfl (Nat.le_of_ble_eq_true rfl) ⟨by show c + 2 + 0 ≤ 601024; omega, by show n + 45 + 0 ≤ 7293034; omega⟩ (fun u w1 hp => ?_)
  obtain ⟨rfl, rfl⟩ := hp
  refine j_istore F [some (.ref b), some (.ref (G.1 0 0)), some (.ref (d 0)), some (.ref o), some (.int (nI i)), some (.int kk), some (.int ((M_open s (xs (i + 1)) (xs (i + 2)) (xs (i + 3)) (xs (i + 4))).1)), x7, x8] dL_law_731 rfl rfl rfl ?_
  refine j_aloadn F dL_law_733 rfl ?_
  refine j_rdV F (qX4_thrown (kl k) hst (kD k) d (M_open s (xs (i + 1)) (xs (i + 2)) (xs (i + 3)) (xs (i + 4))).2) lk_L_87 dL_law_734 ⟨(Nat.le_of_ble_eq_true rfl), (Nat.le_of_ble_eq_true rfl)⟩ (fun q hq => List.mem_append_left _ hq) 0 rfl rfl rfl (Nat.le_of_ble_eq_true rfl) ⟨by show c + 2 + 0 ≤ 601024; omega, by show n + 45 + 0 ≤ 7293034; omega⟩ ?_
  have hkk : M_thrown (M_open s (xs (i + 1)) (xs (i + 2)) (xs (i + 3)) (xs (i + 4))).2 = kk := KC.uniq (by decide) hA.1 hkc
  refine j_iload F dL_law_737 rfl ?_
  refine j_iceq F (tgt := 744) dL_law_739 (by decide) (fun _ => ?_) (fun z => absurd hkk z)
  refine j_iload F dL_law_744 rfl ?_
  refine j_ifne F (tgt := 761) dL_law_746 (by decide) (fun _ => ?_) (fun hk0 => ?_)
  · refine j_goto F (tgt := 1550) dL_law_761 (by decide) ?_
    exact K G' _ _ _ _ _ _ _ _ _ _ hGG hg0 hrel (by omega) (by omega)
  have hc0 := KC.zero hkc hk0
  refine j_aloadn F dL_law_749 rfl ?_
  refine j_iconst F (v := 0) dL_law_750 (by decide) ?_
  obtain ⟨q, hq⟩ := lng_at (w := MW (kD k) d (M_open s (xs (i + 1)) (xs (i + 2)) (xs (i + 3)) (xs (i + 4))).2) (D := kD k) (G := G') (v := v') (r := r') (o := o) (f := f')
  refine j_lald F dL_law_751 q hq (by unfold vp_in; decide +kernel) ?_
  rw [show f' (0 : Int32).toNatClampNeg = f' 0 from rfl, hval hc0]
  refine j_iload F dL_law_752 rfl ?_
  refine j_i2l F dL_law_754 ?_
  rw [show (C_open (nA G) (nT G) v r (xs (i + 1)) (xs (i + 2)) (xs (i + 3)) (xs (i + 4))).2.1 = (M_open s (xs (i + 1)) (xs (i + 2)) (xs (i + 3)) (xs (i + 4))).1 from (hA.2.1 hc0).1]
  refine j_lcmp F dL_law_755 ?_
  refine j_ifeq F (tgt := 761) dL_law_756 (by decide) (fun _ => ?_) (fun z => absurd (lcmp_self _) z)
  refine j_goto F (tgt := 1550) dL_law_761 (by decide) ?_
  exact K G' _ _ _ _ _ _ _ _ _ _ hGG hg0 hrel (by omega) (by omega)
set_option maxRecDepth 100000 in
set_option maxHeartbeats 4000000 in
theorem case_9 {k : Kx} (F : Fx k code RL room_1 9) (hw : kw k = true) (hst : (kl k).stackTraces = false) {b o i Ls c n N : Nat} {xs : Nat → Int32} (hX : va_X b Ls xs (ks k) (ks k).heap) (hbl : b < (ks k).heap.size) (hbA : ¬ kA k b) (hi : i + 5 ≤ Ls) (hLs : Ls ≤ 2560) (hc : c ≤ 600000) (hn : n ≤ 7000000) (hN : N ≤ 1000) {G : CG} {v : S2} {r : R2} {s : S2} {d : Nat → Nat} {f : Nat → Int64} {x5 x6 x7 x8 : Option Value} (hG : GI (kD k) G) (hr : Rel N (nA G) (nT G) v r s) (K : LEnd k G d o b i N c n) : J k ((CW (kD k) G v r ++ [lng (kD k) o f]) ++ MW (kD k) d s) c n 764 [some (.ref b), some (.ref (G.1 0 0)), some (.ref (d 0)), some (.ref o), some (.int (nI i)), x5, x6, x7, x8] [] := by
  refine j_aloadn F dL_law_764 rfl ?_
  refine j_aloadn F dL_law_765 rfl ?_
  refine j_iload F dL_law_766 rfl ?_
  refine j_iconst F (v := 1) dL_law_768 (by decide) ?_
  refine j_iaddN F (a := i) (b := 1) dL_law_769 ?_
  refine j_sld F hX hbl hbA dL_law_770 (show i + 1 < Ls by omega) (by omega) ?_
  refine j_aloadn F dL_law_771 rfl ?_
  refine j_iload F dL_law_772 rfl ?_
  refine j_iconst F (v := 2) dL_law_774 (by decide) ?_
  refine j_iaddN F (a := i) (b := 2) dL_law_775 ?_
  refine j_sld F hX hbl hbA dL_law_776 (show i + 2 < Ls by omega) (by omega) ?_
  refine j_aloadn F dL_law_777 rfl ?_
  refine j_cxhS F hw (qL_setPriority (kl k) hst (kD k) G v r o f (xs (i + 1)) (xs (i + 2)) hG) lh_L_119 dL_law_778 ⟨(Nat.le_of_ble_eq_true rfl), (Nat.le_of_ble_eq_true rfl)⟩ rfl (Nat.le_of_ble_eq_true rfl) ⟨by show c + 2 ≤ 601024; omega, by show n + 12 ≤ 7293034; omega⟩ (fun u w1 hp => ?_)
  obtain ⟨kk, f', rfl, hkc, hval, hw1⟩ := hp
  have hA := AG_setPriority hr (xs (i + 1)) (xs (i + 2))
  obtain rfl := wrap_eq (keep_setPriority _ _ _ _ (xs (i + 1)) (xs (i + 2))) hw1
  refine j_istore F [some (.ref b), some (.ref (G.1 0 0)), some (.ref (d 0)), some (.ref o), some (.int (nI i)), some (.int kk), x6, x7, x8] dL_law_781 rfl rfl rfl ?_
  refine j_aloadn F dL_law_783 rfl ?_
  refine j_aloadn F dL_law_784 rfl ?_
  refine j_iload F dL_law_785 rfl ?_
  refine j_iconst F (v := 1) dL_law_787 (by decide) ?_
  refine j_iaddN F (a := i) (b := 1) dL_law_788 ?_
  refine j_sld F hX hbl hbA dL_law_789 (show i + 1 < Ls by omega) (by omega) ?_
  refine j_aloadn F dL_law_790 rfl ?_
  refine j_iload F dL_law_791 rfl ?_
  refine j_iconst F (v := 2) dL_law_793 (by decide) ?_
  refine j_iaddN F (a := i) (b := 2) dL_law_794 ?_
  refine j_sld F hX hbl hbA dL_law_795 (show i + 2 < Ls by omega) (by omega) ?_
  refine j_perm (MW (kD k) d s ++ (CW (kD k) G (C_setPriority (nA G) (nT G) v r (xs (i + 1)) (xs (i + 2))).2.2.1 (C_setPriority (nA G) (nT G) v r (xs (i + 1)) (xs (i + 2))).2.2.2 ++ [lng (kD k) o f'])) List.perm_append_comm ?_
  refine j_cmV F hw (qX4_setPriority (kl k) hst (kD k) d s (xs (i + 1)) (xs (i + 2)) hr.mi) lk_L_121 dL_law_796 ⟨(Nat.le_of_ble_eq_true rfl), (Nat.le_of_ble_eq_true rfl)⟩ 0 rfl rfl rfl (Nat.le_of_ble_eq_true rfl) ⟨by show c + 2 + 0 ≤ 601024; omega, by show n + 12 + 0 ≤ 7293034; omega⟩ (fun u w1 hp => ?_)
  obtain ⟨rfl, rfl⟩ := hp
  refine j_istore F [some (.ref b), some (.ref (G.1 0 0)), some (.ref (d 0)), some (.ref o), some (.int (nI i)), some (.int kk), some (.int ((M_setPriority s (xs (i + 1)) (xs (i + 2))).1)), x7, x8] dL_law_799 rfl rfl rfl ?_
  refine j_aloadn F dL_law_801 rfl ?_
  refine j_rdV F (qX4_thrown (kl k) hst (kD k) d (M_setPriority s (xs (i + 1)) (xs (i + 2))).2) lk_L_87 dL_law_802 ⟨(Nat.le_of_ble_eq_true rfl), (Nat.le_of_ble_eq_true rfl)⟩ (fun q hq => List.mem_append_left _ hq) 0 rfl rfl rfl (Nat.le_of_ble_eq_true rfl) ⟨by show c + 2 + 0 ≤ 601024; omega, by show n + 12 + 0 ≤ 7293034; omega⟩ ?_
  have hkk : M_thrown (M_setPriority s (xs (i + 1)) (xs (i + 2))).2 = kk := KC.uniq (by decide) hA.1 hkc
  refine j_iload F dL_law_805 rfl ?_
  refine j_iceq F (tgt := 812) dL_law_807 (by decide) (fun _ => ?_) (fun z => absurd hkk z)
  refine j_iload F dL_law_812 rfl ?_
  refine j_ifne F (tgt := 829) dL_law_814 (by decide) (fun _ => ?_) (fun hk0 => ?_)
  · refine j_goto F (tgt := 1550) dL_law_829 (by decide) ?_
    exact K G _ _ _ _ _ _ _ _ _ _ hG (fun _ => rfl) hA.2.2 (by omega) (by omega)
  have hc0 := KC.zero hkc hk0
  refine j_aloadn F dL_law_817 rfl ?_
  refine j_iconst F (v := 0) dL_law_818 (by decide) ?_
  obtain ⟨q, hq⟩ := lng_at (w := MW (kD k) d (M_setPriority s (xs (i + 1)) (xs (i + 2))).2) (D := kD k) (G := G) (v := (C_setPriority (nA G) (nT G) v r (xs (i + 1)) (xs (i + 2))).2.2.1) (r := (C_setPriority (nA G) (nT G) v r (xs (i + 1)) (xs (i + 2))).2.2.2) (o := o) (f := f')
  refine j_lald F dL_law_819 q hq (by unfold vp_in; decide +kernel) ?_
  rw [show f' (0 : Int32).toNatClampNeg = f' 0 from rfl, hval hc0]
  refine j_iload F dL_law_820 rfl ?_
  refine j_i2l F dL_law_822 ?_
  rw [show (C_setPriority (nA G) (nT G) v r (xs (i + 1)) (xs (i + 2))).2.1 = (M_setPriority s (xs (i + 1)) (xs (i + 2))).1 from hA.2.1 hc0]
  refine j_lcmp F dL_law_823 ?_
  refine j_ifeq F (tgt := 829) dL_law_824 (by decide) (fun _ => ?_) (fun z => absurd (lcmp_self _) z)
  refine j_goto F (tgt := 1550) dL_law_829 (by decide) ?_
  exact K G _ _ _ _ _ _ _ _ _ _ hG (fun _ => rfl) hA.2.2 (by omega) (by omega)
set_option maxRecDepth 100000 in
set_option maxHeartbeats 4000000 in
theorem case_10 {k : Kx} (F : Fx k code RL room_1 9) (hw : kw k = true) (hst : (kl k).stackTraces = false) {b o i Ls c n N : Nat} {xs : Nat → Int32} (hX : va_X b Ls xs (ks k) (ks k).heap) (hbl : b < (ks k).heap.size) (hbA : ¬ kA k b) (hi : i + 5 ≤ Ls) (hLs : Ls ≤ 2560) (hc : c ≤ 600000) (hn : n ≤ 7000000) (hN : N ≤ 1000) {G : CG} {v : S2} {r : R2} {s : S2} {d : Nat → Nat} {f : Nat → Int64} {x5 x6 x7 x8 : Option Value} (hG : GI (kD k) G) (hr : Rel N (nA G) (nT G) v r s) (K : LEnd k G d o b i N c n) : J k ((CW (kD k) G v r ++ [lng (kD k) o f]) ++ MW (kD k) d s) c n 832 [some (.ref b), some (.ref (G.1 0 0)), some (.ref (d 0)), some (.ref o), some (.int (nI i)), x5, x6, x7, x8] [] := by
  refine j_aloadn F dL_law_832 rfl ?_
  refine j_aloadn F dL_law_833 rfl ?_
  refine j_iload F dL_law_834 rfl ?_
  refine j_iconst F (v := 1) dL_law_836 (by decide) ?_
  refine j_iaddN F (a := i) (b := 1) dL_law_837 ?_
  refine j_sld F hX hbl hbA dL_law_838 (show i + 1 < Ls by omega) (by omega) ?_
  refine j_aloadn F dL_law_839 rfl ?_
  refine j_cxhS F hw (qL_pause (kl k) hst (kD k) G v r o f (xs (i + 1)) hG hr.ci) lh_L_122 dL_law_840 ⟨(Nat.le_of_ble_eq_true rfl), (Nat.le_of_ble_eq_true rfl)⟩ rfl (Nat.le_of_ble_eq_true rfl) ⟨by show c + 2 ≤ 601024; omega, by show n + 12 ≤ 7293034; omega⟩ (fun u w1 hp => ?_)
  obtain ⟨kk, f', rfl, hkc, hval, hw1⟩ := hp
  have hA := AG_pause hr (xs (i + 1))
  obtain rfl := wrap_eq (keep_pause _ _ _ _ (xs (i + 1))) hw1
  refine j_istore F [some (.ref b), some (.ref (G.1 0 0)), some (.ref (d 0)), some (.ref o), some (.int (nI i)), some (.int kk), x6, x7, x8] dL_law_843 rfl rfl rfl ?_
  refine j_aloadn F dL_law_845 rfl ?_
  refine j_aloadn F dL_law_846 rfl ?_
  refine j_iload F dL_law_847 rfl ?_
  refine j_iconst F (v := 1) dL_law_849 (by decide) ?_
  refine j_iaddN F (a := i) (b := 1) dL_law_850 ?_
  refine j_sld F hX hbl hbA dL_law_851 (show i + 1 < Ls by omega) (by omega) ?_
  refine j_perm (MW (kD k) d s ++ (CW (kD k) G (C_pause (nA G) (nT G) v r (xs (i + 1))).2.2.1 (C_pause (nA G) (nT G) v r (xs (i + 1))).2.2.2 ++ [lng (kD k) o f'])) List.perm_append_comm ?_
  refine j_cmV F hw (qX4_pause (kl k) hst (kD k) d s (xs (i + 1)) hr.mi) lk_L_124 dL_law_852 ⟨(Nat.le_of_ble_eq_true rfl), (Nat.le_of_ble_eq_true rfl)⟩ 0 rfl rfl rfl (Nat.le_of_ble_eq_true rfl) ⟨by show c + 2 + 0 ≤ 601024; omega, by show n + 12 + 0 ≤ 7293034; omega⟩ (fun u w1 hp => ?_)
  obtain ⟨rfl, rfl⟩ := hp
  refine j_istore F [some (.ref b), some (.ref (G.1 0 0)), some (.ref (d 0)), some (.ref o), some (.int (nI i)), some (.int kk), some (.int ((M_pause s (xs (i + 1))).1)), x7, x8] dL_law_855 rfl rfl rfl ?_
  refine j_aloadn F dL_law_857 rfl ?_
  refine j_rdV F (qX4_thrown (kl k) hst (kD k) d (M_pause s (xs (i + 1))).2) lk_L_87 dL_law_858 ⟨(Nat.le_of_ble_eq_true rfl), (Nat.le_of_ble_eq_true rfl)⟩ (fun q hq => List.mem_append_left _ hq) 0 rfl rfl rfl (Nat.le_of_ble_eq_true rfl) ⟨by show c + 2 + 0 ≤ 601024; omega, by show n + 12 + 0 ≤ 7293034; omega⟩ ?_
  have hkk : M_thrown (M_pause s (xs (i + 1))).2 = kk := KC.uniq (by decide) hA.1 hkc
  refine j_iload F dL_law_861 rfl ?_
  refine j_iceq F (tgt := 868) dL_law_863 (by decide) (fun _ => ?_) (fun z => absurd hkk z)
  refine j_iload F dL_law_868 rfl ?_
  refine j_ifne F (tgt := 885) dL_law_870 (by decide) (fun _ => ?_) (fun hk0 => ?_)
  · refine j_goto F (tgt := 1550) dL_law_885 (by decide) ?_
    exact K G _ _ _ _ _ _ _ _ _ _ hG (fun _ => rfl) hA.2.2 (by omega) (by omega)
  have hc0 := KC.zero hkc hk0
  refine j_aloadn F dL_law_873 rfl ?_
  refine j_iconst F (v := 0) dL_law_874 (by decide) ?_
  obtain ⟨q, hq⟩ := lng_at (w := MW (kD k) d (M_pause s (xs (i + 1))).2) (D := kD k) (G := G) (v := (C_pause (nA G) (nT G) v r (xs (i + 1))).2.2.1) (r := (C_pause (nA G) (nT G) v r (xs (i + 1))).2.2.2) (o := o) (f := f')
  refine j_lald F dL_law_875 q hq (by unfold vp_in; decide +kernel) ?_
  rw [show f' (0 : Int32).toNatClampNeg = f' 0 from rfl, hval hc0]
  refine j_iload F dL_law_876 rfl ?_
  refine j_i2l F dL_law_878 ?_
  rw [show (C_pause (nA G) (nT G) v r (xs (i + 1))).2.1 = (M_pause s (xs (i + 1))).1 from hA.2.1 hc0]
  refine j_lcmp F dL_law_879 ?_
  refine j_ifeq F (tgt := 885) dL_law_880 (by decide) (fun _ => ?_) (fun z => absurd (lcmp_self _) z)
  refine j_goto F (tgt := 1550) dL_law_885 (by decide) ?_
  exact K G _ _ _ _ _ _ _ _ _ _ hG (fun _ => rfl) hA.2.2 (by omega) (by omega)
set_option maxRecDepth 100000 in
set_option maxHeartbeats 4000000 in
theorem case_11 {k : Kx} (F : Fx k code RL room_1 9) (hw : kw k = true) (hst : (kl k).stackTraces = false) {b o i Ls c n N : Nat} {xs : Nat → Int32} (hX : va_X b Ls xs (ks k) (ks k).heap) (hbl : b < (ks k).heap.size) (hbA : ¬ kA k b) (hi : i + 5 ≤ Ls) (hLs : Ls ≤ 2560) (hc : c ≤ 600000) (hn : n ≤ 7000000) (hN : N ≤ 1000) {G : CG} {v : S2} {r : R2} {s : S2} {d : Nat → Nat} {f : Nat → Int64} {x5 x6 x7 x8 : Option Value} (hG : GI (kD k) G) (hr : Rel N (nA G) (nT G) v r s) (K : LEnd k G d o b i N c n) : J k ((CW (kD k) G v r ++ [lng (kD k) o f]) ++ MW (kD k) d s) c n 888 [some (.ref b), some (.ref (G.1 0 0)), some (.ref (d 0)), some (.ref o), some (.int (nI i)), x5, x6, x7, x8] [] := by
  refine j_aloadn F dL_law_888 rfl ?_
  refine j_aloadn F dL_law_889 rfl ?_
  refine j_iload F dL_law_890 rfl ?_
  refine j_iconst F (v := 1) dL_law_892 (by decide) ?_
  refine j_iaddN F (a := i) (b := 1) dL_law_893 ?_
  refine j_sld F hX hbl hbA dL_law_894 (show i + 1 < Ls by omega) (by omega) ?_
  refine j_aloadn F dL_law_895 rfl ?_
  refine j_cxhS F hw (qL_resume (kl k) hst (kD k) G v r o f (xs (i + 1)) hG) lh_L_125 dL_law_896 ⟨(Nat.le_of_ble_eq_true rfl), (Nat.le_of_ble_eq_true rfl)⟩ rfl (Nat.le_of_ble_eq_true rfl) ⟨by show c + 2 ≤ 601024; omega, by show n + 12 ≤ 7293034; omega⟩ (fun u w1 hp => ?_)
  obtain ⟨kk, f', rfl, hkc, hval, hw1⟩ := hp
  have hA := AG_resume hr (xs (i + 1))
  obtain rfl := wrap_eq (keep_resume _ _ _ _ (xs (i + 1))) hw1
  refine j_istore F [some (.ref b), some (.ref (G.1 0 0)), some (.ref (d 0)), some (.ref o), some (.int (nI i)), some (.int kk), x6, x7, x8] dL_law_899 rfl rfl rfl ?_
  refine j_aloadn F dL_law_901 rfl ?_
  refine j_aloadn F dL_law_902 rfl ?_
  refine j_iload F dL_law_903 rfl ?_
  refine j_iconst F (v := 1) dL_law_905 (by decide) ?_
  refine j_iaddN F (a := i) (b := 1) dL_law_906 ?_
  refine j_sld F hX hbl hbA dL_law_907 (show i + 1 < Ls by omega) (by omega) ?_
  refine j_perm (MW (kD k) d s ++ (CW (kD k) G (C_resume (nA G) (nT G) v r (xs (i + 1))).2.2.1 (C_resume (nA G) (nT G) v r (xs (i + 1))).2.2.2 ++ [lng (kD k) o f'])) List.perm_append_comm ?_
  refine j_cmV F hw (qX4_resume (kl k) hst (kD k) d s (xs (i + 1)) hr.mi) lk_L_127 dL_law_908 ⟨(Nat.le_of_ble_eq_true rfl), (Nat.le_of_ble_eq_true rfl)⟩ 0 rfl rfl rfl (Nat.le_of_ble_eq_true rfl) ⟨by show c + 2 + 0 ≤ 601024; omega, by show n + 12 + 0 ≤ 7293034; omega⟩ (fun u w1 hp => ?_)
  obtain ⟨rfl, rfl⟩ := hp
  refine j_istore F [some (.ref b), some (.ref (G.1 0 0)), some (.ref (d 0)), some (.ref o), some (.int (nI i)), some (.int kk), some (.int ((M_resume s (xs (i + 1))).1)), x7, x8] dL_law_911 rfl rfl rfl ?_
  refine j_aloadn F dL_law_913 rfl ?_
  refine j_rdV F (qX4_thrown (kl k) hst (kD k) d (M_resume s (xs (i + 1))).2) lk_L_87 dL_law_914 ⟨(Nat.le_of_ble_eq_true rfl), (Nat.le_of_ble_eq_true rfl)⟩ (fun q hq => List.mem_append_left _ hq) 0 rfl rfl rfl (Nat.le_of_ble_eq_true rfl) ⟨by show c + 2 + 0 ≤ 601024; omega, by show n + 12 + 0 ≤ 7293034; omega⟩ ?_
  have hkk : M_thrown (M_resume s (xs (i + 1))).2 = kk := KC.uniq (by decide) hA.1 hkc
  refine j_iload F dL_law_917 rfl ?_
  refine j_iceq F (tgt := 924) dL_law_919 (by decide) (fun _ => ?_) (fun z => absurd hkk z)
  refine j_iload F dL_law_924 rfl ?_
  refine j_ifne F (tgt := 941) dL_law_926 (by decide) (fun _ => ?_) (fun hk0 => ?_)
  · refine j_goto F (tgt := 1550) dL_law_941 (by decide) ?_
    exact K G _ _ _ _ _ _ _ _ _ _ hG (fun _ => rfl) hA.2.2 (by omega) (by omega)
  have hc0 := KC.zero hkc hk0
  refine j_aloadn F dL_law_929 rfl ?_
  refine j_iconst F (v := 0) dL_law_930 (by decide) ?_
  obtain ⟨q, hq⟩ := lng_at (w := MW (kD k) d (M_resume s (xs (i + 1))).2) (D := kD k) (G := G) (v := (C_resume (nA G) (nT G) v r (xs (i + 1))).2.2.1) (r := (C_resume (nA G) (nT G) v r (xs (i + 1))).2.2.2) (o := o) (f := f')
  refine j_lald F dL_law_931 q hq (by unfold vp_in; decide +kernel) ?_
  rw [show f' (0 : Int32).toNatClampNeg = f' 0 from rfl, hval hc0]
  refine j_iload F dL_law_932 rfl ?_
  refine j_i2l F dL_law_934 ?_
  rw [show (C_resume (nA G) (nT G) v r (xs (i + 1))).2.1 = (M_resume s (xs (i + 1))).1 from hA.2.1 hc0]
  refine j_lcmp F dL_law_935 ?_
  refine j_ifeq F (tgt := 941) dL_law_936 (by decide) (fun _ => ?_) (fun z => absurd (lcmp_self _) z)
  refine j_goto F (tgt := 1550) dL_law_941 (by decide) ?_
  exact K G _ _ _ _ _ _ _ _ _ _ hG (fun _ => rfl) hA.2.2 (by omega) (by omega)
set_option maxRecDepth 100000 in
set_option maxHeartbeats 4000000 in
theorem case_12 {k : Kx} (F : Fx k code RL room_1 9) (hw : kw k = true) (hst : (kl k).stackTraces = false) {b o i Ls c n N : Nat} {xs : Nat → Int32} (hX : va_X b Ls xs (ks k) (ks k).heap) (hbl : b < (ks k).heap.size) (hbA : ¬ kA k b) (hi : i + 5 ≤ Ls) (hLs : Ls ≤ 2560) (hc : c ≤ 600000) (hn : n ≤ 7000000) (hN : N ≤ 1000) {G : CG} {v : S2} {r : R2} {s : S2} {d : Nat → Nat} {f : Nat → Int64} {x5 x6 x7 x8 : Option Value} (hG : GI (kD k) G) (hr : Rel N (nA G) (nT G) v r s) (K : LEnd k G d o b i N c n) : J k ((CW (kD k) G v r ++ [lng (kD k) o f]) ++ MW (kD k) d s) c n 944 [some (.ref b), some (.ref (G.1 0 0)), some (.ref (d 0)), some (.ref o), some (.int (nI i)), x5, x6, x7, x8] [] := by
  refine j_aloadn F dL_law_944 rfl ?_
  refine j_aloadn F dL_law_945 rfl ?_
  refine j_iload F dL_law_946 rfl ?_
  refine j_iconst F (v := 1) dL_law_948 (by decide) ?_
  refine j_iaddN F (a := i) (b := 1) dL_law_949 ?_
  refine j_sld F hX hbl hbA dL_law_950 (show i + 1 < Ls by omega) (by omega) ?_
  refine j_aloadn F dL_law_951 rfl ?_
  refine j_iload F dL_law_952 rfl ?_
  refine j_iconst F (v := 2) dL_law_954 (by decide) ?_
  refine j_iaddN F (a := i) (b := 2) dL_law_955 ?_
  refine j_sld F hX hbl hbA dL_law_956 (show i + 2 < Ls by omega) (by omega) ?_
  refine j_aloadn F dL_law_957 rfl ?_
  refine j_cxhS F hw (qL_merge (kl k) hst (kD k) G v r o f (xs (i + 1)) (xs (i + 2)) hG hr.ci) lh_L_128 dL_law_958 ⟨(Nat.le_of_ble_eq_true rfl), (Nat.le_of_ble_eq_true rfl)⟩ rfl (Nat.le_of_ble_eq_true rfl) ⟨by show c + 3 ≤ 601024; omega, by show n + 18 ≤ 7293034; omega⟩ (fun u w1 hp => ?_)
  obtain ⟨kk, f', rfl, hkc, hval, hw1⟩ := hp
  have hA := AG_merge hr (xs (i + 1)) (xs (i + 2))
  obtain rfl := wrap_eq (keep_merge _ _ _ _ (xs (i + 1)) (xs (i + 2))) hw1
  refine j_istore F [some (.ref b), some (.ref (G.1 0 0)), some (.ref (d 0)), some (.ref o), some (.int (nI i)), some (.int kk), x6, x7, x8] dL_law_961 rfl rfl rfl ?_
  refine j_aloadn F dL_law_963 rfl ?_
  refine j_aloadn F dL_law_964 rfl ?_
  refine j_iload F dL_law_965 rfl ?_
  refine j_iconst F (v := 1) dL_law_967 (by decide) ?_
  refine j_iaddN F (a := i) (b := 1) dL_law_968 ?_
  refine j_sld F hX hbl hbA dL_law_969 (show i + 1 < Ls by omega) (by omega) ?_
  refine j_aloadn F dL_law_970 rfl ?_
  refine j_iload F dL_law_971 rfl ?_
  refine j_iconst F (v := 2) dL_law_973 (by decide) ?_
  refine j_iaddN F (a := i) (b := 2) dL_law_974 ?_
  refine j_sld F hX hbl hbA dL_law_975 (show i + 2 < Ls by omega) (by omega) ?_
  refine j_perm (MW (kD k) d s ++ (CW (kD k) G (C_merge (nA G) (nT G) v r (xs (i + 1)) (xs (i + 2))).2.2.1 (C_merge (nA G) (nT G) v r (xs (i + 1)) (xs (i + 2))).2.2.2 ++ [lng (kD k) o f'])) List.perm_append_comm ?_
  refine j_cmV F hw (qX4_merge (kl k) hst (kD k) d s (xs (i + 1)) (xs (i + 2)) hr.mi) lk_L_130 dL_law_976 ⟨(Nat.le_of_ble_eq_true rfl), (Nat.le_of_ble_eq_true rfl)⟩ 0 rfl rfl rfl (Nat.le_of_ble_eq_true rfl) ⟨by show c + 3 + 0 ≤ 601024; omega, by show n + 18 + 0 ≤ 7293034; omega⟩ (fun u w1 hp => ?_)
  obtain ⟨rfl, rfl⟩ := hp
  refine j_istore F [some (.ref b), some (.ref (G.1 0 0)), some (.ref (d 0)), some (.ref o), some (.int (nI i)), some (.int kk), some (.int ((M_merge s (xs (i + 1)) (xs (i + 2))).1)), x7, x8] dL_law_979 rfl rfl rfl ?_
  refine j_aloadn F dL_law_981 rfl ?_
  refine j_rdV F (qX4_thrown (kl k) hst (kD k) d (M_merge s (xs (i + 1)) (xs (i + 2))).2) lk_L_87 dL_law_982 ⟨(Nat.le_of_ble_eq_true rfl), (Nat.le_of_ble_eq_true rfl)⟩ (fun q hq => List.mem_append_left _ hq) 0 rfl rfl rfl (Nat.le_of_ble_eq_true rfl) ⟨by show c + 3 + 0 ≤ 601024; omega, by show n + 18 + 0 ≤ 7293034; omega⟩ ?_
  have hkk : M_thrown (M_merge s (xs (i + 1)) (xs (i + 2))).2 = kk := KC.uniq (by decide) hA.1 hkc
  refine j_iload F dL_law_985 rfl ?_
  refine j_iceq F (tgt := 992) dL_law_987 (by decide) (fun _ => ?_) (fun z => absurd hkk z)
  refine j_iload F dL_law_992 rfl ?_
  refine j_ifne F (tgt := 1009) dL_law_994 (by decide) (fun _ => ?_) (fun hk0 => ?_)
  · refine j_goto F (tgt := 1550) dL_law_1009 (by decide) ?_
    exact K G _ _ _ _ _ _ _ _ _ _ hG (fun _ => rfl) hA.2.2 (by omega) (by omega)
  have hc0 := KC.zero hkc hk0
  refine j_aloadn F dL_law_997 rfl ?_
  refine j_iconst F (v := 0) dL_law_998 (by decide) ?_
  obtain ⟨q, hq⟩ := lng_at (w := MW (kD k) d (M_merge s (xs (i + 1)) (xs (i + 2))).2) (D := kD k) (G := G) (v := (C_merge (nA G) (nT G) v r (xs (i + 1)) (xs (i + 2))).2.2.1) (r := (C_merge (nA G) (nT G) v r (xs (i + 1)) (xs (i + 2))).2.2.2) (o := o) (f := f')
  refine j_lald F dL_law_999 q hq (by unfold vp_in; decide +kernel) ?_
  rw [show f' (0 : Int32).toNatClampNeg = f' 0 from rfl, hval hc0]
  refine j_iload F dL_law_1000 rfl ?_
  refine j_i2l F dL_law_1002 ?_
  rw [show (C_merge (nA G) (nT G) v r (xs (i + 1)) (xs (i + 2))).2.1 = (M_merge s (xs (i + 1)) (xs (i + 2))).1 from hA.2.1 hc0]
  refine j_lcmp F dL_law_1003 ?_
  refine j_ifeq F (tgt := 1009) dL_law_1004 (by decide) (fun _ => ?_) (fun z => absurd (lcmp_self _) z)
  refine j_goto F (tgt := 1550) dL_law_1009 (by decide) ?_
  exact K G _ _ _ _ _ _ _ _ _ _ hG (fun _ => rfl) hA.2.2 (by omega) (by omega)
set_option maxRecDepth 100000 in
set_option maxHeartbeats 4000000 in
theorem case_13 {k : Kx} (F : Fx k code RL room_1 9) (hw : kw k = true) (hst : (kl k).stackTraces = false) {b o i Ls c n N : Nat} {xs : Nat → Int32} (hX : va_X b Ls xs (ks k) (ks k).heap) (hbl : b < (ks k).heap.size) (hbA : ¬ kA k b) (hi : i + 5 ≤ Ls) (hLs : Ls ≤ 2560) (hc : c ≤ 600000) (hn : n ≤ 7000000) (hN : N ≤ 1000) {G : CG} {v : S2} {r : R2} {s : S2} {d : Nat → Nat} {f : Nat → Int64} {x5 x6 x7 x8 : Option Value} (hG : GI (kD k) G) (hr : Rel N (nA G) (nT G) v r s) (K : LEnd k G d o b i N c n) : J k ((CW (kD k) G v r ++ [lng (kD k) o f]) ++ MW (kD k) d s) c n 1012 [some (.ref b), some (.ref (G.1 0 0)), some (.ref (d 0)), some (.ref o), some (.int (nI i)), x5, x6, x7, x8] [] := by
  refine j_aloadn F dL_law_1012 rfl ?_
  refine j_aloadn F dL_law_1013 rfl ?_
  refine j_iload F dL_law_1014 rfl ?_
  refine j_iconst F (v := 1) dL_law_1016 (by decide) ?_
  refine j_iaddN F (a := i) (b := 1) dL_law_1017 ?_
  refine j_sld F hX hbl hbA dL_law_1018 (show i + 1 < Ls by omega) (by omega) ?_
  refine j_aloadn F dL_law_1019 rfl ?_
  refine j_iload F dL_law_1020 rfl ?_
  refine j_iconst F (v := 2) dL_law_1022 (by decide) ?_
  refine j_iaddN F (a := i) (b := 2) dL_law_1023 ?_
  refine j_sld F hX hbl hbA dL_law_1024 (show i + 2 < Ls by omega) (by omega) ?_
  refine j_aloadn F dL_law_1025 rfl ?_
  refine j_cxhS F hw (qL_reopen (kl k) hst (kD k) G v r o f (xs (i + 1)) (xs (i + 2)) hG) lh_L_131 dL_law_1026 ⟨(Nat.le_of_ble_eq_true rfl), (Nat.le_of_ble_eq_true rfl)⟩ rfl (Nat.le_of_ble_eq_true rfl) ⟨by show c + 2 ≤ 601024; omega, by show n + 12 ≤ 7293034; omega⟩ (fun u w1 hp => ?_)
  obtain ⟨kk, f', rfl, hkc, hval, hw1⟩ := hp
  have hA := AG_reopen hr hN (xs (i + 1)) (xs (i + 2))
  obtain rfl := wrap_eq (keep_reopen _ _ _ _ (xs (i + 1)) (xs (i + 2))) hw1
  refine j_istore F [some (.ref b), some (.ref (G.1 0 0)), some (.ref (d 0)), some (.ref o), some (.int (nI i)), some (.int kk), x6, x7, x8] dL_law_1029 rfl rfl rfl ?_
  refine j_aloadn F dL_law_1031 rfl ?_
  refine j_aloadn F dL_law_1032 rfl ?_
  refine j_iload F dL_law_1033 rfl ?_
  refine j_iconst F (v := 1) dL_law_1035 (by decide) ?_
  refine j_iaddN F (a := i) (b := 1) dL_law_1036 ?_
  refine j_sld F hX hbl hbA dL_law_1037 (show i + 1 < Ls by omega) (by omega) ?_
  refine j_aloadn F dL_law_1038 rfl ?_
  refine j_iload F dL_law_1039 rfl ?_
  refine j_iconst F (v := 2) dL_law_1041 (by decide) ?_
  refine j_iaddN F (a := i) (b := 2) dL_law_1042 ?_
  refine j_sld F hX hbl hbA dL_law_1043 (show i + 2 < Ls by omega) (by omega) ?_
  refine j_perm (MW (kD k) d s ++ (CW (kD k) G (C_reopen (nA G) (nT G) v r (xs (i + 1)) (xs (i + 2))).2.2.1 (C_reopen (nA G) (nT G) v r (xs (i + 1)) (xs (i + 2))).2.2.2 ++ [lng (kD k) o f'])) List.perm_append_comm ?_
  refine j_cmV F hw (qX4_reopen (kl k) hst (kD k) d s (xs (i + 1)) (xs (i + 2)) hr.mi) lk_L_133 dL_law_1044 ⟨(Nat.le_of_ble_eq_true rfl), (Nat.le_of_ble_eq_true rfl)⟩ 0 rfl rfl rfl (Nat.le_of_ble_eq_true rfl) ⟨by show c + 2 + 0 ≤ 601024; omega, by show n + 12 + 0 ≤ 7293034; omega⟩ (fun u w1 hp => ?_)
  obtain ⟨rfl, rfl⟩ := hp
  refine j_istore F [some (.ref b), some (.ref (G.1 0 0)), some (.ref (d 0)), some (.ref o), some (.int (nI i)), some (.int kk), some (.int ((M_reopen s (xs (i + 1)) (xs (i + 2))).1)), x7, x8] dL_law_1047 rfl rfl rfl ?_
  refine j_aloadn F dL_law_1049 rfl ?_
  refine j_rdV F (qX4_thrown (kl k) hst (kD k) d (M_reopen s (xs (i + 1)) (xs (i + 2))).2) lk_L_87 dL_law_1050 ⟨(Nat.le_of_ble_eq_true rfl), (Nat.le_of_ble_eq_true rfl)⟩ (fun q hq => List.mem_append_left _ hq) 0 rfl rfl rfl (Nat.le_of_ble_eq_true rfl) ⟨by show c + 2 + 0 ≤ 601024; omega, by show n + 12 + 0 ≤ 7293034; omega⟩ ?_
  have hkk : M_thrown (M_reopen s (xs (i + 1)) (xs (i + 2))).2 = kk := KC.uniq (by decide) hA.1 hkc
  refine j_iload F dL_law_1053 rfl ?_
  refine j_iceq F (tgt := 1060) dL_law_1055 (by decide) (fun _ => ?_) (fun z => absurd hkk z)
  refine j_iload F dL_law_1060 rfl ?_
  refine j_ifne F (tgt := 1077) dL_law_1062 (by decide) (fun _ => ?_) (fun hk0 => ?_)
  · refine j_goto F (tgt := 1550) dL_law_1077 (by decide) ?_
    exact K G _ _ _ _ _ _ _ _ _ _ hG (fun _ => rfl) hA.2.2 (by omega) (by omega)
  have hc0 := KC.zero hkc hk0
  refine j_aloadn F dL_law_1065 rfl ?_
  refine j_iconst F (v := 0) dL_law_1066 (by decide) ?_
  obtain ⟨q, hq⟩ := lng_at (w := MW (kD k) d (M_reopen s (xs (i + 1)) (xs (i + 2))).2) (D := kD k) (G := G) (v := (C_reopen (nA G) (nT G) v r (xs (i + 1)) (xs (i + 2))).2.2.1) (r := (C_reopen (nA G) (nT G) v r (xs (i + 1)) (xs (i + 2))).2.2.2) (o := o) (f := f')
  refine j_lald F dL_law_1067 q hq (by unfold vp_in; decide +kernel) ?_
  rw [show f' (0 : Int32).toNatClampNeg = f' 0 from rfl, hval hc0]
  refine j_iload F dL_law_1068 rfl ?_
  refine j_i2l F dL_law_1070 ?_
  rw [show (C_reopen (nA G) (nT G) v r (xs (i + 1)) (xs (i + 2))).2.1 = (M_reopen s (xs (i + 1)) (xs (i + 2))).1 from hA.2.1 hc0]
  refine j_lcmp F dL_law_1071 ?_
  refine j_ifeq F (tgt := 1077) dL_law_1072 (by decide) (fun _ => ?_) (fun z => absurd (lcmp_self _) z)
  refine j_goto F (tgt := 1550) dL_law_1077 (by decide) ?_
  exact K G _ _ _ _ _ _ _ _ _ _ hG (fun _ => rfl) hA.2.2 (by omega) (by omega)
set_option maxRecDepth 100000 in
set_option maxHeartbeats 4000000 in
theorem case_15 {k : Kx} (F : Fx k code RL room_1 9) (hw : kw k = true) (hst : (kl k).stackTraces = false) {b o i Ls c n N : Nat} {xs : Nat → Int32} (hX : va_X b Ls xs (ks k) (ks k).heap) (hbl : b < (ks k).heap.size) (hbA : ¬ kA k b) (hi : i + 5 ≤ Ls) (hLs : Ls ≤ 2560) (hc : c ≤ 600000) (hn : n ≤ 7000000) (hN : N ≤ 1000) {G : CG} {v : S2} {r : R2} {s : S2} {d : Nat → Nat} {f : Nat → Int64} {x5 x6 x7 x8 : Option Value} (hG : GI (kD k) G) (hr : Rel N (nA G) (nT G) v r s) (K : LEnd k G d o b i N c n) : J k ((CW (kD k) G v r ++ [lng (kD k) o f]) ++ MW (kD k) d s) c n 1093 [some (.ref b), some (.ref (G.1 0 0)), some (.ref (d 0)), some (.ref o), some (.int (nI i)), x5, x6, x7, x8] [] := by
  refine j_aloadn F dL_law_1093 rfl ?_
  refine j_aloadn F dL_law_1094 rfl ?_
  refine j_iload F dL_law_1095 rfl ?_
  refine j_iconst F (v := 1) dL_law_1097 (by decide) ?_
  refine j_iaddN F (a := i) (b := 1) dL_law_1098 ?_
  refine j_sld F hX hbl hbA dL_law_1099 (show i + 1 < Ls by omega) (by omega) ?_
  refine j_aloadn F dL_law_1100 rfl ?_
  refine j_iload F dL_law_1101 rfl ?_
  refine j_iconst F (v := 2) dL_law_1103 (by decide) ?_
  refine j_iaddN F (a := i) (b := 2) dL_law_1104 ?_
  refine j_sld F hX hbl hbA dL_law_1105 (show i + 2 < Ls by omega) (by omega) ?_
  refine j_aloadn F dL_law_1106 rfl ?_
  refine j_cxhS F hw (qL_ticket (kl k) hst (kD k) G v r o f (xs (i + 1)) (xs (i + 2)) hG hr.ci) lh_L_138 dL_law_1107 ⟨(Nat.le_of_ble_eq_true rfl), (Nat.le_of_ble_eq_true rfl)⟩ rfl (Nat.le_of_ble_eq_true rfl) ⟨by show c + 2 ≤ 601024; omega, by show n + 12 ≤ 7293034; omega⟩ (fun u w1 hp => ?_)
  obtain ⟨kk, f', rfl, hkc, hval, hw1⟩ := hp
  have hA := AG_ticket hr (xs (i + 1)) (xs (i + 2))
  obtain rfl := wrap_eq (keep_ticket _ _ _ _ (xs (i + 1)) (xs (i + 2))) hw1
  refine j_istore F [some (.ref b), some (.ref (G.1 0 0)), some (.ref (d 0)), some (.ref o), some (.int (nI i)), some (.int kk), x6, x7, x8] dL_law_1110 rfl rfl rfl ?_
  refine j_aloadn F dL_law_1112 rfl ?_
  refine j_aloadn F dL_law_1113 rfl ?_
  refine j_iload F dL_law_1114 rfl ?_
  refine j_iconst F (v := 1) dL_law_1116 (by decide) ?_
  refine j_iaddN F (a := i) (b := 1) dL_law_1117 ?_
  refine j_sld F hX hbl hbA dL_law_1118 (show i + 1 < Ls by omega) (by omega) ?_
  refine j_aloadn F dL_law_1119 rfl ?_
  refine j_iload F dL_law_1120 rfl ?_
  refine j_iconst F (v := 2) dL_law_1122 (by decide) ?_
  refine j_iaddN F (a := i) (b := 2) dL_law_1123 ?_
  refine j_sld F hX hbl hbA dL_law_1124 (show i + 2 < Ls by omega) (by omega) ?_
  refine j_perm (MW (kD k) d s ++ (CW (kD k) G (C_ticket (nA G) (nT G) v r (xs (i + 1)) (xs (i + 2))).2.2.1 (C_ticket (nA G) (nT G) v r (xs (i + 1)) (xs (i + 2))).2.2.2 ++ [lng (kD k) o f'])) List.perm_append_comm ?_
  refine j_cmV F hw (qX4_ticket (kl k) hst (kD k) d s (xs (i + 1)) (xs (i + 2)) hr.mi) lk_L_140 dL_law_1125 ⟨(Nat.le_of_ble_eq_true rfl), (Nat.le_of_ble_eq_true rfl)⟩ 0 rfl rfl rfl (Nat.le_of_ble_eq_true rfl) ⟨by show c + 2 + 0 ≤ 601024; omega, by show n + 12 + 0 ≤ 7293034; omega⟩ (fun u w1 hp => ?_)
  obtain ⟨rfl, rfl⟩ := hp
  refine j_istore F [some (.ref b), some (.ref (G.1 0 0)), some (.ref (d 0)), some (.ref o), some (.int (nI i)), some (.int kk), some (.int ((M_ticket s (xs (i + 1)) (xs (i + 2))).1)), x7, x8] dL_law_1128 rfl rfl rfl ?_
  refine j_aloadn F dL_law_1130 rfl ?_
  refine j_rdV F (qX4_thrown (kl k) hst (kD k) d (M_ticket s (xs (i + 1)) (xs (i + 2))).2) lk_L_87 dL_law_1131 ⟨(Nat.le_of_ble_eq_true rfl), (Nat.le_of_ble_eq_true rfl)⟩ (fun q hq => List.mem_append_left _ hq) 0 rfl rfl rfl (Nat.le_of_ble_eq_true rfl) ⟨by show c + 2 + 0 ≤ 601024; omega, by show n + 12 + 0 ≤ 7293034; omega⟩ ?_
  have hkk : M_thrown (M_ticket s (xs (i + 1)) (xs (i + 2))).2 = kk := KC.uniq (by decide) hA.1 hkc
  refine j_iload F dL_law_1134 rfl ?_
  refine j_iceq F (tgt := 1141) dL_law_1136 (by decide) (fun _ => ?_) (fun z => absurd hkk z)
  refine j_iload F dL_law_1141 rfl ?_
  refine j_ifne F (tgt := 1158) dL_law_1143 (by decide) (fun _ => ?_) (fun hk0 => ?_)
  · refine j_goto F (tgt := 1550) dL_law_1158 (by decide) ?_
    exact K G _ _ _ _ _ _ _ _ _ _ hG (fun _ => rfl) hA.2.2 (by omega) (by omega)
  have hc0 := KC.zero hkc hk0
  refine j_aloadn F dL_law_1146 rfl ?_
  refine j_iconst F (v := 0) dL_law_1147 (by decide) ?_
  obtain ⟨q, hq⟩ := lng_at (w := MW (kD k) d (M_ticket s (xs (i + 1)) (xs (i + 2))).2) (D := kD k) (G := G) (v := (C_ticket (nA G) (nT G) v r (xs (i + 1)) (xs (i + 2))).2.2.1) (r := (C_ticket (nA G) (nT G) v r (xs (i + 1)) (xs (i + 2))).2.2.2) (o := o) (f := f')
  refine j_lald F dL_law_1148 q hq (by unfold vp_in; decide +kernel) ?_
  rw [show f' (0 : Int32).toNatClampNeg = f' 0 from rfl, hval hc0]
  refine j_iload F dL_law_1149 rfl ?_
  refine j_i2l F dL_law_1151 ?_
  rw [show (C_ticket (nA G) (nT G) v r (xs (i + 1)) (xs (i + 2))).2.1 = (M_ticket s (xs (i + 1)) (xs (i + 2))).1 from hA.2.1 hc0]
  refine j_lcmp F dL_law_1152 ?_
  refine j_ifeq F (tgt := 1158) dL_law_1153 (by decide) (fun _ => ?_) (fun z => absurd (lcmp_self _) z)
  refine j_goto F (tgt := 1550) dL_law_1158 (by decide) ?_
  exact K G _ _ _ _ _ _ _ _ _ _ hG (fun _ => rfl) hA.2.2 (by omega) (by omega)
set_option maxRecDepth 100000 in
set_option maxHeartbeats 4000000 in
theorem case_16 {k : Kx} (F : Fx k code RL room_1 9) (hw : kw k = true) (hst : (kl k).stackTraces = false) {b o i Ls c n N : Nat} {xs : Nat → Int32} (hX : va_X b Ls xs (ks k) (ks k).heap) (hbl : b < (ks k).heap.size) (hbA : ¬ kA k b) (hi : i + 5 ≤ Ls) (hLs : Ls ≤ 2560) (hc : c ≤ 600000) (hn : n ≤ 7000000) (hN : N ≤ 1000) {G : CG} {v : S2} {r : R2} {s : S2} {d : Nat → Nat} {f : Nat → Int64} {x5 x6 x7 x8 : Option Value} (hG : GI (kD k) G) (hr : Rel N (nA G) (nT G) v r s) (K : LEnd k G d o b i N c n) : J k ((CW (kD k) G v r ++ [lng (kD k) o f]) ++ MW (kD k) d s) c n 1161 [some (.ref b), some (.ref (G.1 0 0)), some (.ref (d 0)), some (.ref o), some (.int (nI i)), x5, x6, x7, x8] [] := by
  refine j_aloadn F dL_law_1161 rfl ?_
  refine j_aloadn F dL_law_1162 rfl ?_
  refine j_iload F dL_law_1163 rfl ?_
  refine j_iconst F (v := 1) dL_law_1165 (by decide) ?_
  refine j_iaddN F (a := i) (b := 1) dL_law_1166 ?_
  refine j_sld F hX hbl hbA dL_law_1167 (show i + 1 < Ls by omega) (by omega) ?_
  refine j_aloadn F dL_law_1168 rfl ?_
  refine j_cxhS F hw (qL_main (kl k) hst (kD k) G v r o f (xs (i + 1)) hG hr.ci) lh_L_141 dL_law_1169 ⟨(Nat.le_of_ble_eq_true rfl), (Nat.le_of_ble_eq_true rfl)⟩ rfl (Nat.le_of_ble_eq_true rfl) ⟨by show c + 1 ≤ 601024; omega, by show n + 6 ≤ 7293034; omega⟩ (fun u w1 hp => ?_)
  obtain ⟨kk, f', rfl, hkc, hval, hw1⟩ := hp
  have hA := AG_main hr (xs (i + 1))
  obtain rfl := wrap_eq (keep_main _ _ _ _ (xs (i + 1))) hw1
  refine j_istore F [some (.ref b), some (.ref (G.1 0 0)), some (.ref (d 0)), some (.ref o), some (.int (nI i)), some (.int kk), x6, x7, x8] dL_law_1172 rfl rfl rfl ?_
  refine j_aloadn F dL_law_1174 rfl ?_
  refine j_aloadn F dL_law_1175 rfl ?_
  refine j_iload F dL_law_1176 rfl ?_
  refine j_iconst F (v := 1) dL_law_1178 (by decide) ?_
  refine j_iaddN F (a := i) (b := 1) dL_law_1179 ?_
  refine j_sld F hX hbl hbA dL_law_1180 (show i + 1 < Ls by omega) (by omega) ?_
  refine j_perm (MW (kD k) d s ++ (CW (kD k) G (C_main (nA G) (nT G) v r (xs (i + 1))).2.2.1 (C_main (nA G) (nT G) v r (xs (i + 1))).2.2.2 ++ [lng (kD k) o f'])) List.perm_append_comm ?_
  refine j_cmV F hw (qX4_main (kl k) hst (kD k) d s (xs (i + 1)) hr.mi) lk_L_143 dL_law_1181 ⟨(Nat.le_of_ble_eq_true rfl), (Nat.le_of_ble_eq_true rfl)⟩ 0 rfl rfl rfl (Nat.le_of_ble_eq_true rfl) ⟨by show c + 1 + 0 ≤ 601024; omega, by show n + 6 + 0 ≤ 7293034; omega⟩ (fun u w1 hp => ?_)
  obtain ⟨rfl, rfl⟩ := hp
  refine j_istore F [some (.ref b), some (.ref (G.1 0 0)), some (.ref (d 0)), some (.ref o), some (.int (nI i)), some (.int kk), some (.int ((M_main s (xs (i + 1))).1)), x7, x8] dL_law_1184 rfl rfl rfl ?_
  refine j_aloadn F dL_law_1186 rfl ?_
  refine j_rdV F (qX4_thrown (kl k) hst (kD k) d (M_main s (xs (i + 1))).2) lk_L_87 dL_law_1187 ⟨(Nat.le_of_ble_eq_true rfl), (Nat.le_of_ble_eq_true rfl)⟩ (fun q hq => List.mem_append_left _ hq) 0 rfl rfl rfl (Nat.le_of_ble_eq_true rfl) ⟨by show c + 1 + 0 ≤ 601024; omega, by show n + 6 + 0 ≤ 7293034; omega⟩ ?_
  have hkk : M_thrown (M_main s (xs (i + 1))).2 = kk := KC.uniq (by decide) hA.1 hkc
  refine j_iload F dL_law_1190 rfl ?_
  refine j_iceq F (tgt := 1197) dL_law_1192 (by decide) (fun _ => ?_) (fun z => absurd hkk z)
  refine j_iload F dL_law_1197 rfl ?_
  refine j_ifne F (tgt := 1214) dL_law_1199 (by decide) (fun _ => ?_) (fun hk0 => ?_)
  · refine j_goto F (tgt := 1550) dL_law_1214 (by decide) ?_
    exact K G _ _ _ _ _ _ _ _ _ _ hG (fun _ => rfl) hA.2.2 (by omega) (by omega)
  have hc0 := KC.zero hkc hk0
  refine j_aloadn F dL_law_1202 rfl ?_
  refine j_iconst F (v := 0) dL_law_1203 (by decide) ?_
  obtain ⟨q, hq⟩ := lng_at (w := MW (kD k) d (M_main s (xs (i + 1))).2) (D := kD k) (G := G) (v := (C_main (nA G) (nT G) v r (xs (i + 1))).2.2.1) (r := (C_main (nA G) (nT G) v r (xs (i + 1))).2.2.2) (o := o) (f := f')
  refine j_lald F dL_law_1204 q hq (by unfold vp_in; decide +kernel) ?_
  rw [show f' (0 : Int32).toNatClampNeg = f' 0 from rfl, hval hc0]
  refine j_iload F dL_law_1205 rfl ?_
  refine j_i2l F dL_law_1207 ?_
  rw [show (C_main (nA G) (nT G) v r (xs (i + 1))).2.1 = (M_main s (xs (i + 1))).1 from hA.2.1 hc0]
  refine j_lcmp F dL_law_1208 ?_
  refine j_ifeq F (tgt := 1214) dL_law_1209 (by decide) (fun _ => ?_) (fun z => absurd (lcmp_self _) z)
  refine j_goto F (tgt := 1550) dL_law_1214 (by decide) ?_
  exact K G _ _ _ _ _ _ _ _ _ _ hG (fun _ => rfl) hA.2.2 (by omega) (by omega)
set_option maxRecDepth 100000 in
set_option maxHeartbeats 4000000 in
theorem case_17 {k : Kx} (F : Fx k code RL room_1 9) (hw : kw k = true) (hst : (kl k).stackTraces = false) {b o i Ls c n N : Nat} {xs : Nat → Int32} (hX : va_X b Ls xs (ks k) (ks k).heap) (hbl : b < (ks k).heap.size) (hbA : ¬ kA k b) (hi : i + 5 ≤ Ls) (hLs : Ls ≤ 2560) (hc : c ≤ 600000) (hn : n ≤ 7000000) (hN : N ≤ 1000) {G : CG} {v : S2} {r : R2} {s : S2} {d : Nat → Nat} {f : Nat → Int64} {x5 x6 x7 x8 : Option Value} (hG : GI (kD k) G) (hr : Rel N (nA G) (nT G) v r s) (K : LEnd k G d o b i N c n) : J k ((CW (kD k) G v r ++ [lng (kD k) o f]) ++ MW (kD k) d s) c n 1217 [some (.ref b), some (.ref (G.1 0 0)), some (.ref (d 0)), some (.ref o), some (.int (nI i)), x5, x6, x7, x8] [] := by
  refine j_aloadn F dL_law_1217 rfl ?_
  refine j_aloadn F dL_law_1218 rfl ?_
  refine j_iload F dL_law_1219 rfl ?_
  refine j_iconst F (v := 1) dL_law_1221 (by decide) ?_
  refine j_iaddN F (a := i) (b := 1) dL_law_1222 ?_
  refine j_sld F hX hbl hbA dL_law_1223 (show i + 1 < Ls by omega) (by omega) ?_
  refine j_aloadn F dL_law_1224 rfl ?_
  refine j_cxhS F hw (qL_customers (kl k) hst (kD k) G v r o f (xs (i + 1)) hG) lh_L_144 dL_law_1225 ⟨(Nat.le_of_ble_eq_true rfl), (Nat.le_of_ble_eq_true rfl)⟩ rfl (Nat.le_of_ble_eq_true rfl) ⟨by show c + 1 ≤ 601024; omega, by show n + 6 ≤ 7293034; omega⟩ (fun u w1 hp => ?_)
  obtain ⟨kk, f', rfl, hkc, hval, hw1⟩ := hp
  have hA := AG_customers hr (xs (i + 1))
  obtain rfl := wrap_eq (keep_customers _ _ _ _ (xs (i + 1))) hw1
  refine j_istore F [some (.ref b), some (.ref (G.1 0 0)), some (.ref (d 0)), some (.ref o), some (.int (nI i)), some (.int kk), x6, x7, x8] dL_law_1228 rfl rfl rfl ?_
  refine j_aloadn F dL_law_1230 rfl ?_
  refine j_aloadn F dL_law_1231 rfl ?_
  refine j_iload F dL_law_1232 rfl ?_
  refine j_iconst F (v := 1) dL_law_1234 (by decide) ?_
  refine j_iaddN F (a := i) (b := 1) dL_law_1235 ?_
  refine j_sld F hX hbl hbA dL_law_1236 (show i + 1 < Ls by omega) (by omega) ?_
  refine j_perm (MW (kD k) d s ++ (CW (kD k) G (C_customers (nA G) (nT G) v r (xs (i + 1))).2.2.1 (C_customers (nA G) (nT G) v r (xs (i + 1))).2.2.2 ++ [lng (kD k) o f'])) List.perm_append_comm ?_
  refine j_cmV F hw (qX4_customers (kl k) hst (kD k) d s (xs (i + 1)) hr.mi) lk_L_146 dL_law_1237 ⟨(Nat.le_of_ble_eq_true rfl), (Nat.le_of_ble_eq_true rfl)⟩ 0 rfl rfl rfl (Nat.le_of_ble_eq_true rfl) ⟨by show c + 1 + 0 ≤ 601024; omega, by show n + 6 + 0 ≤ 7293034; omega⟩ (fun u w1 hp => ?_)
  obtain ⟨rfl, rfl⟩ := hp
  refine j_istore F [some (.ref b), some (.ref (G.1 0 0)), some (.ref (d 0)), some (.ref o), some (.int (nI i)), some (.int kk), some (.int ((M_customers s (xs (i + 1))).1)), x7, x8] dL_law_1240 rfl rfl rfl ?_
  refine j_aloadn F dL_law_1242 rfl ?_
  refine j_rdV F (qX4_thrown (kl k) hst (kD k) d (M_customers s (xs (i + 1))).2) lk_L_87 dL_law_1243 ⟨(Nat.le_of_ble_eq_true rfl), (Nat.le_of_ble_eq_true rfl)⟩ (fun q hq => List.mem_append_left _ hq) 0 rfl rfl rfl (Nat.le_of_ble_eq_true rfl) ⟨by show c + 1 + 0 ≤ 601024; omega, by show n + 6 + 0 ≤ 7293034; omega⟩ ?_
  have hkk : M_thrown (M_customers s (xs (i + 1))).2 = kk := KC.uniq (by decide) hA.1 hkc
  refine j_iload F dL_law_1246 rfl ?_
  refine j_iceq F (tgt := 1253) dL_law_1248 (by decide) (fun _ => ?_) (fun z => absurd hkk z)
  refine j_iload F dL_law_1253 rfl ?_
  refine j_ifne F (tgt := 1270) dL_law_1255 (by decide) (fun _ => ?_) (fun hk0 => ?_)
  · refine j_goto F (tgt := 1550) dL_law_1270 (by decide) ?_
    exact K G _ _ _ _ _ _ _ _ _ _ hG (fun _ => rfl) hA.2.2 (by omega) (by omega)
  have hc0 := KC.zero hkc hk0
  refine j_aloadn F dL_law_1258 rfl ?_
  refine j_iconst F (v := 0) dL_law_1259 (by decide) ?_
  obtain ⟨q, hq⟩ := lng_at (w := MW (kD k) d (M_customers s (xs (i + 1))).2) (D := kD k) (G := G) (v := (C_customers (nA G) (nT G) v r (xs (i + 1))).2.2.1) (r := (C_customers (nA G) (nT G) v r (xs (i + 1))).2.2.2) (o := o) (f := f')
  refine j_lald F dL_law_1260 q hq (by unfold vp_in; decide +kernel) ?_
  rw [show f' (0 : Int32).toNatClampNeg = f' 0 from rfl, hval hc0]
  refine j_iload F dL_law_1261 rfl ?_
  refine j_i2l F dL_law_1263 ?_
  rw [show (C_customers (nA G) (nT G) v r (xs (i + 1))).2.1 = (M_customers s (xs (i + 1))).1 from hA.2.1 hc0]
  refine j_lcmp F dL_law_1264 ?_
  refine j_ifeq F (tgt := 1270) dL_law_1265 (by decide) (fun _ => ?_) (fun z => absurd (lcmp_self _) z)
  refine j_goto F (tgt := 1550) dL_law_1270 (by decide) ?_
  exact K G _ _ _ _ _ _ _ _ _ _ hG (fun _ => rfl) hA.2.2 (by omega) (by omega)
set_option maxRecDepth 100000 in
set_option maxHeartbeats 4000000 in
theorem case_18 {k : Kx} (F : Fx k code RL room_1 9) (hw : kw k = true) (hst : (kl k).stackTraces = false) {b o i Ls c n N : Nat} {xs : Nat → Int32} (hX : va_X b Ls xs (ks k) (ks k).heap) (hbl : b < (ks k).heap.size) (hbA : ¬ kA k b) (hi : i + 5 ≤ Ls) (hLs : Ls ≤ 2560) (hc : c ≤ 600000) (hn : n ≤ 7000000) (hN : N ≤ 1000) {G : CG} {v : S2} {r : R2} {s : S2} {d : Nat → Nat} {f : Nat → Int64} {x5 x6 x7 x8 : Option Value} (hG : GI (kD k) G) (hr : Rel N (nA G) (nT G) v r s) (K : LEnd k G d o b i N c n) : J k ((CW (kD k) G v r ++ [lng (kD k) o f]) ++ MW (kD k) d s) c n 1273 [some (.ref b), some (.ref (G.1 0 0)), some (.ref (d 0)), some (.ref o), some (.int (nI i)), x5, x6, x7, x8] [] := by
  refine j_aloadn F dL_law_1273 rfl ?_
  refine j_aloadn F dL_law_1274 rfl ?_
  refine j_iload F dL_law_1275 rfl ?_
  refine j_iconst F (v := 1) dL_law_1277 (by decide) ?_
  refine j_iaddN F (a := i) (b := 1) dL_law_1278 ?_
  refine j_sld F hX hbl hbA dL_law_1279 (show i + 1 < Ls by omega) (by omega) ?_
  refine j_aloadn F dL_law_1280 rfl ?_
  refine j_cxhS F hw (qL_due (kl k) hst (kD k) G v r o f (xs (i + 1)) hG hr.ci hr.min1) lh_L_147 dL_law_1281 ⟨(Nat.le_of_ble_eq_true rfl), (Nat.le_of_ble_eq_true rfl)⟩ rfl (Nat.le_of_ble_eq_true rfl) ⟨by show c + 1 ≤ 601024; omega, by show n + 6 ≤ 7293034; omega⟩ (fun u w1 hp => ?_)
  obtain ⟨kk, f', rfl, hkc, hval, hw1⟩ := hp
  have hA := AG_due hr (xs (i + 1))
  obtain rfl := wrap_eq (keep_due _ _ _ _ (xs (i + 1))) hw1
  refine j_istore F [some (.ref b), some (.ref (G.1 0 0)), some (.ref (d 0)), some (.ref o), some (.int (nI i)), some (.int kk), x6, x7, x8] dL_law_1284 rfl rfl rfl ?_
  refine j_aloadn F dL_law_1286 rfl ?_
  refine j_aloadn F dL_law_1287 rfl ?_
  refine j_iload F dL_law_1288 rfl ?_
  refine j_iconst F (v := 1) dL_law_1290 (by decide) ?_
  refine j_iaddN F (a := i) (b := 1) dL_law_1291 ?_
  refine j_sld F hX hbl hbA dL_law_1292 (show i + 1 < Ls by omega) (by omega) ?_
  refine j_perm (MW (kD k) d s ++ (CW (kD k) G (C_due (nA G) (nT G) v r (xs (i + 1))).2.2.1 (C_due (nA G) (nT G) v r (xs (i + 1))).2.2.2 ++ [lng (kD k) o f'])) List.perm_append_comm ?_
  refine j_cmV F hw (qX4_due (kl k) hst (kD k) d s (xs (i + 1)) hr.mi hr.min2) lk_L_149 dL_law_1293 ⟨(Nat.le_of_ble_eq_true rfl), (Nat.le_of_ble_eq_true rfl)⟩ 0 rfl rfl rfl (Nat.le_of_ble_eq_true rfl) ⟨by show c + 1 + 0 ≤ 601024; omega, by show n + 6 + 0 ≤ 7293034; omega⟩ (fun u w1 hp => ?_)
  obtain ⟨rfl, rfl⟩ := hp
  refine j_istore F [some (.ref b), some (.ref (G.1 0 0)), some (.ref (d 0)), some (.ref o), some (.int (nI i)), some (.int kk), some (.int ((M_due s (xs (i + 1))).1)), x7, x8] dL_law_1296 rfl rfl rfl ?_
  refine j_aloadn F dL_law_1298 rfl ?_
  refine j_rdV F (qX4_thrown (kl k) hst (kD k) d (M_due s (xs (i + 1))).2) lk_L_87 dL_law_1299 ⟨(Nat.le_of_ble_eq_true rfl), (Nat.le_of_ble_eq_true rfl)⟩ (fun q hq => List.mem_append_left _ hq) 0 rfl rfl rfl (Nat.le_of_ble_eq_true rfl) ⟨by show c + 1 + 0 ≤ 601024; omega, by show n + 6 + 0 ≤ 7293034; omega⟩ ?_
  have hkk : M_thrown (M_due s (xs (i + 1))).2 = kk := KC.uniq (by decide) hA.1 hkc
  refine j_iload F dL_law_1302 rfl ?_
  refine j_iceq F (tgt := 1309) dL_law_1304 (by decide) (fun _ => ?_) (fun z => absurd hkk z)
  refine j_iload F dL_law_1309 rfl ?_
  refine j_ifne F (tgt := 1326) dL_law_1311 (by decide) (fun _ => ?_) (fun hk0 => ?_)
  · refine j_goto F (tgt := 1550) dL_law_1326 (by decide) ?_
    exact K G _ _ _ _ _ _ _ _ _ _ hG (fun _ => rfl) hA.2.2 (by omega) (by omega)
  have hc0 := KC.zero hkc hk0
  refine j_aloadn F dL_law_1314 rfl ?_
  refine j_iconst F (v := 0) dL_law_1315 (by decide) ?_
  obtain ⟨q, hq⟩ := lng_at (w := MW (kD k) d (M_due s (xs (i + 1))).2) (D := kD k) (G := G) (v := (C_due (nA G) (nT G) v r (xs (i + 1))).2.2.1) (r := (C_due (nA G) (nT G) v r (xs (i + 1))).2.2.2) (o := o) (f := f')
  refine j_lald F dL_law_1316 q hq (by unfold vp_in; decide +kernel) ?_
  rw [show f' (0 : Int32).toNatClampNeg = f' 0 from rfl, hval hc0]
  refine j_iload F dL_law_1317 rfl ?_
  refine j_i2l F dL_law_1319 ?_
  rw [show (C_due (nA G) (nT G) v r (xs (i + 1))).2.1 = (M_due s (xs (i + 1))).1 from hA.2.1 hc0]
  refine j_lcmp F dL_law_1320 ?_
  refine j_ifeq F (tgt := 1326) dL_law_1321 (by decide) (fun _ => ?_) (fun z => absurd (lcmp_self _) z)
  refine j_goto F (tgt := 1550) dL_law_1326 (by decide) ?_
  exact K G _ _ _ _ _ _ _ _ _ _ hG (fun _ => rfl) hA.2.2 (by omega) (by omega)
set_option maxRecDepth 100000 in
set_option maxHeartbeats 4000000 in
theorem case_19 {k : Kx} (F : Fx k code RL room_1 9) (hw : kw k = true) (hst : (kl k).stackTraces = false) {b o i Ls c n N : Nat} {xs : Nat → Int32} (hX : va_X b Ls xs (ks k) (ks k).heap) (hbl : b < (ks k).heap.size) (hbA : ¬ kA k b) (hi : i + 5 ≤ Ls) (hLs : Ls ≤ 2560) (hc : c ≤ 600000) (hn : n ≤ 7000000) (hN : N ≤ 1000) {G : CG} {v : S2} {r : R2} {s : S2} {d : Nat → Nat} {f : Nat → Int64} {x5 x6 x7 x8 : Option Value} (hG : GI (kD k) G) (hr : Rel N (nA G) (nT G) v r s) (K : LEnd k G d o b i N c n) : J k ((CW (kD k) G v r ++ [lng (kD k) o f]) ++ MW (kD k) d s) c n 1329 [some (.ref b), some (.ref (G.1 0 0)), some (.ref (d 0)), some (.ref o), some (.int (nI i)), x5, x6, x7, x8] [] := by
  refine j_aloadn F dL_law_1329 rfl ?_
  refine j_aloadn F dL_law_1330 rfl ?_
  refine j_iload F dL_law_1331 rfl ?_
  refine j_iconst F (v := 1) dL_law_1333 (by decide) ?_
  refine j_iaddN F (a := i) (b := 1) dL_law_1334 ?_
  refine j_sld F hX hbl hbA dL_law_1335 (show i + 1 < Ls by omega) (by omega) ?_
  refine j_aloadn F dL_law_1336 rfl ?_
  refine j_cxhS F hw (qL_pass (kl k) hst (kD k) G v r o f (xs (i + 1)) hG hr.ci) lh_L_150 dL_law_1337 ⟨(Nat.le_of_ble_eq_true rfl), (Nat.le_of_ble_eq_true rfl)⟩ rfl (Nat.le_of_ble_eq_true rfl) ⟨by show c + 1 ≤ 601024; omega, by show n + 6 ≤ 7293034; omega⟩ (fun u w1 hp => ?_)
  obtain ⟨kk, f', rfl, hkc, hval, hw1⟩ := hp
  have hA := AG_pass hr (xs (i + 1))
  obtain rfl := wrap_eq (keep_pass _ _ _ _ (xs (i + 1))) hw1
  refine j_istore F [some (.ref b), some (.ref (G.1 0 0)), some (.ref (d 0)), some (.ref o), some (.int (nI i)), some (.int kk), x6, x7, x8] dL_law_1340 rfl rfl rfl ?_
  refine j_aloadn F dL_law_1342 rfl ?_
  refine j_aloadn F dL_law_1343 rfl ?_
  refine j_iload F dL_law_1344 rfl ?_
  refine j_iconst F (v := 1) dL_law_1346 (by decide) ?_
  refine j_iaddN F (a := i) (b := 1) dL_law_1347 ?_
  refine j_sld F hX hbl hbA dL_law_1348 (show i + 1 < Ls by omega) (by omega) ?_
  refine j_perm (MW (kD k) d s ++ (CW (kD k) G (C_pass (nA G) (nT G) v r (xs (i + 1))).2.2.1 (C_pass (nA G) (nT G) v r (xs (i + 1))).2.2.2 ++ [lng (kD k) o f'])) List.perm_append_comm ?_
  refine j_cmV F hw (qX4_pass (kl k) hst (kD k) d s (xs (i + 1)) hr.mi) lk_L_152 dL_law_1349 ⟨(Nat.le_of_ble_eq_true rfl), (Nat.le_of_ble_eq_true rfl)⟩ 0 rfl rfl rfl (Nat.le_of_ble_eq_true rfl) ⟨by show c + 1 + 0 ≤ 601024; omega, by show n + 6 + 0 ≤ 7293034; omega⟩ (fun u w1 hp => ?_)
  obtain ⟨rfl, rfl⟩ := hp
  refine j_istore F [some (.ref b), some (.ref (G.1 0 0)), some (.ref (d 0)), some (.ref o), some (.int (nI i)), some (.int kk), some (.int ((M_pass s (xs (i + 1))).1)), x7, x8] dL_law_1352 rfl rfl rfl ?_
  refine j_aloadn F dL_law_1354 rfl ?_
  refine j_rdV F (qX4_thrown (kl k) hst (kD k) d (M_pass s (xs (i + 1))).2) lk_L_87 dL_law_1355 ⟨(Nat.le_of_ble_eq_true rfl), (Nat.le_of_ble_eq_true rfl)⟩ (fun q hq => List.mem_append_left _ hq) 0 rfl rfl rfl (Nat.le_of_ble_eq_true rfl) ⟨by show c + 1 + 0 ≤ 601024; omega, by show n + 6 + 0 ≤ 7293034; omega⟩ ?_
  have hkk : M_thrown (M_pass s (xs (i + 1))).2 = kk := KC.uniq (by decide) hA.1 hkc
  refine j_iload F dL_law_1358 rfl ?_
  refine j_iceq F (tgt := 1365) dL_law_1360 (by decide) (fun _ => ?_) (fun z => absurd hkk z)
  refine j_iload F dL_law_1365 rfl ?_
  refine j_ifne F (tgt := 1382) dL_law_1367 (by decide) (fun _ => ?_) (fun hk0 => ?_)
  · refine j_goto F (tgt := 1550) dL_law_1382 (by decide) ?_
    exact K G _ _ _ _ _ _ _ _ _ _ hG (fun _ => rfl) hA.2.2 (by omega) (by omega)
  have hc0 := KC.zero hkc hk0
  refine j_aloadn F dL_law_1370 rfl ?_
  refine j_iconst F (v := 0) dL_law_1371 (by decide) ?_
  obtain ⟨q, hq⟩ := lng_at (w := MW (kD k) d (M_pass s (xs (i + 1))).2) (D := kD k) (G := G) (v := (C_pass (nA G) (nT G) v r (xs (i + 1))).2.2.1) (r := (C_pass (nA G) (nT G) v r (xs (i + 1))).2.2.2) (o := o) (f := f')
  refine j_lald F dL_law_1372 q hq (by unfold vp_in; decide +kernel) ?_
  rw [show f' (0 : Int32).toNatClampNeg = f' 0 from rfl, hval hc0]
  refine j_iload F dL_law_1373 rfl ?_
  refine j_i2l F dL_law_1375 ?_
  rw [show (C_pass (nA G) (nT G) v r (xs (i + 1))).2.1 = (M_pass s (xs (i + 1))).1 from hA.2.1 hc0]
  refine j_lcmp F dL_law_1376 ?_
  refine j_ifeq F (tgt := 1382) dL_law_1377 (by decide) (fun _ => ?_) (fun z => absurd (lcmp_self _) z)
  refine j_goto F (tgt := 1550) dL_law_1382 (by decide) ?_
  exact K G _ _ _ _ _ _ _ _ _ _ hG (fun _ => rfl) hA.2.2 (by omega) (by omega)
set_option maxRecDepth 100000 in
set_option maxHeartbeats 4000000 in
theorem case_20 {k : Kx} (F : Fx k code RL room_1 9) (hw : kw k = true) (hst : (kl k).stackTraces = false) {b o i Ls c n N : Nat} {xs : Nat → Int32} (hX : va_X b Ls xs (ks k) (ks k).heap) (hbl : b < (ks k).heap.size) (hbA : ¬ kA k b) (hi : i + 5 ≤ Ls) (hLs : Ls ≤ 2560) (hc : c ≤ 600000) (hn : n ≤ 7000000) (hN : N ≤ 1000) {G : CG} {v : S2} {r : R2} {s : S2} {d : Nat → Nat} {f : Nat → Int64} {x5 x6 x7 x8 : Option Value} (hG : GI (kD k) G) (hr : Rel N (nA G) (nT G) v r s) (K : LEnd k G d o b i N c n) : J k ((CW (kD k) G v r ++ [lng (kD k) o f]) ++ MW (kD k) d s) c n 1385 [some (.ref b), some (.ref (G.1 0 0)), some (.ref (d 0)), some (.ref o), some (.int (nI i)), x5, x6, x7, x8] [] := by
  refine j_aloadn F dL_law_1385 rfl ?_
  refine j_aloadn F dL_law_1386 rfl ?_
  refine j_iload F dL_law_1387 rfl ?_
  refine j_iconst F (v := 1) dL_law_1389 (by decide) ?_
  refine j_iaddN F (a := i) (b := 1) dL_law_1390 ?_
  refine j_sld F hX hbl hbA dL_law_1391 (show i + 1 < Ls by omega) (by omega) ?_
  refine j_aloadn F dL_law_1392 rfl ?_
  refine j_cxhS F hw (qL_all (kl k) hst (kD k) G v r o f (xs (i + 1)) hG) lh_L_153 dL_law_1393 ⟨(Nat.le_of_ble_eq_true rfl), (Nat.le_of_ble_eq_true rfl)⟩ rfl (Nat.le_of_ble_eq_true rfl) ⟨by show c + 1 ≤ 601024; omega, by show n + 6 ≤ 7293034; omega⟩ (fun u w1 hp => ?_)
  obtain ⟨kk, f', rfl, hkc, hval, hw1⟩ := hp
  have hA := AG_all hr (xs (i + 1))
  obtain rfl := wrap_eq (keep_all _ _ _ _ (xs (i + 1))) hw1
  refine j_istore F [some (.ref b), some (.ref (G.1 0 0)), some (.ref (d 0)), some (.ref o), some (.int (nI i)), some (.int kk), x6, x7, x8] dL_law_1396 rfl rfl rfl ?_
  refine j_aloadn F dL_law_1398 rfl ?_
  refine j_aloadn F dL_law_1399 rfl ?_
  refine j_iload F dL_law_1400 rfl ?_
  refine j_iconst F (v := 1) dL_law_1402 (by decide) ?_
  refine j_iaddN F (a := i) (b := 1) dL_law_1403 ?_
  refine j_sld F hX hbl hbA dL_law_1404 (show i + 1 < Ls by omega) (by omega) ?_
  refine j_perm (MW (kD k) d s ++ (CW (kD k) G (C_all (nA G) (nT G) v r (xs (i + 1))).2.2.1 (C_all (nA G) (nT G) v r (xs (i + 1))).2.2.2 ++ [lng (kD k) o f'])) List.perm_append_comm ?_
  refine j_cmV F hw (qX4_all (kl k) hst (kD k) d s (xs (i + 1)) hr.mi) lk_L_155 dL_law_1405 ⟨(Nat.le_of_ble_eq_true rfl), (Nat.le_of_ble_eq_true rfl)⟩ 0 rfl rfl rfl (Nat.le_of_ble_eq_true rfl) ⟨by show c + 1 + 0 ≤ 601024; omega, by show n + 6 + 0 ≤ 7293034; omega⟩ (fun u w1 hp => ?_)
  obtain ⟨rfl, rfl⟩ := hp
  refine j_istore F [some (.ref b), some (.ref (G.1 0 0)), some (.ref (d 0)), some (.ref o), some (.int (nI i)), some (.int kk), some (.int ((M_all s (xs (i + 1))).1)), x7, x8] dL_law_1408 rfl rfl rfl ?_
  refine j_aloadn F dL_law_1410 rfl ?_
  refine j_rdV F (qX4_thrown (kl k) hst (kD k) d (M_all s (xs (i + 1))).2) lk_L_87 dL_law_1411 ⟨(Nat.le_of_ble_eq_true rfl), (Nat.le_of_ble_eq_true rfl)⟩ (fun q hq => List.mem_append_left _ hq) 0 rfl rfl rfl (Nat.le_of_ble_eq_true rfl) ⟨by show c + 1 + 0 ≤ 601024; omega, by show n + 6 + 0 ≤ 7293034; omega⟩ ?_
  have hkk : M_thrown (M_all s (xs (i + 1))).2 = kk := KC.uniq (by decide) hA.1 hkc
  refine j_iload F dL_law_1414 rfl ?_
  refine j_iceq F (tgt := 1421) dL_law_1416 (by decide) (fun _ => ?_) (fun z => absurd hkk z)
  refine j_iload F dL_law_1421 rfl ?_
  refine j_ifne F (tgt := 1438) dL_law_1423 (by decide) (fun _ => ?_) (fun hk0 => ?_)
  · refine j_goto F (tgt := 1550) dL_law_1438 (by decide) ?_
    exact K G _ _ _ _ _ _ _ _ _ _ hG (fun _ => rfl) hA.2.2 (by omega) (by omega)
  have hc0 := KC.zero hkc hk0
  refine j_aloadn F dL_law_1426 rfl ?_
  refine j_iconst F (v := 0) dL_law_1427 (by decide) ?_
  obtain ⟨q, hq⟩ := lng_at (w := MW (kD k) d (M_all s (xs (i + 1))).2) (D := kD k) (G := G) (v := (C_all (nA G) (nT G) v r (xs (i + 1))).2.2.1) (r := (C_all (nA G) (nT G) v r (xs (i + 1))).2.2.2) (o := o) (f := f')
  refine j_lald F dL_law_1428 q hq (by unfold vp_in; decide +kernel) ?_
  rw [show f' (0 : Int32).toNatClampNeg = f' 0 from rfl, hval hc0]
  refine j_iload F dL_law_1429 rfl ?_
  refine j_i2l F dL_law_1431 ?_
  rw [show (C_all (nA G) (nT G) v r (xs (i + 1))).2.1 = (M_all s (xs (i + 1))).1 from hA.2.1 hc0]
  refine j_lcmp F dL_law_1432 ?_
  refine j_ifeq F (tgt := 1438) dL_law_1433 (by decide) (fun _ => ?_) (fun z => absurd (lcmp_self _) z)
  refine j_goto F (tgt := 1550) dL_law_1438 (by decide) ?_
  exact K G _ _ _ _ _ _ _ _ _ _ hG (fun _ => rfl) hA.2.2 (by omega) (by omega)
