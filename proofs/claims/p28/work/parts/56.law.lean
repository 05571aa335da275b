/-! THE LAW'S LOOP, by program; first the rows of its calls -/
section LW
variable {k : Kx} {c n pc : Nat} {lv : List (Option Value)} {st : List Value} {ws : va_W} {G : CG} {K v : S2} {r : R2}
theorem j_tk (F : Fx k code RL room_1 16) (hw : kw k = true) (hst : (kl k).stackTraces = false) (hG : GI (kD k) G) (hC : CI G v r) {x0 : Nat × va_E} {t : Nat} {w z : Int32} (ht : t < nT G) (h0 : ¬ w < 0) (h8 : w < 8) (hz : C_toldOfTicket (nA G) (nT G) v r t w = z) (hd : decode code pc = .ok (.invokevirtual 58, 3)) (hW : (st.map fun v => v.category).sum ≤ 8) (hcn : c + 2 ≤ 600104 ∧ n + 12 ≤ 7301314) (K : J k (x0 :: CW (kD k) G v r) (c + 2) (n + 12) (pc + 3) lv (.int z :: st)) : J k (x0 :: CW (kD k) G v r) c n pc lv (.int w :: .int (nI t) :: .ref (G.1 0 0) :: st) :=
  j_lc F hw (qX3_ticket (kl k) hst (kD k) G v r (nI t) w hG hC) lk_L_58 hd ⟨(Nat.le_of_ble_eq_true rfl), (Nat.le_of_ble_eq_true rfl)⟩ rfl hW hcn ((ticketE ht hG.nT h0 h8).trans (by rw [hz])) K
theorem j_ag (F : Fx k code RL room_1 16) (hw : kw k = true) (hst : (kl k).stackTraces = false) (hG : GI (kD k) G) (hC : CI G v r) {x0 : Nat × va_E} {t : Nat} {w z : Int32} (ht : t < nA G) (h0 : ¬ w < 0) (h4 : w < 4) (hz : C_toldOfAgent (nA G) (nT G) v r t w = z) (hd : decode code pc = .ok (.invokevirtual 77, 3)) (hW : (st.map fun v => v.category).sum ≤ 8) (hcn : c + 2 ≤ 600104 ∧ n + 12 ≤ 7301314) (K : J k (x0 :: CW (kD k) G v r) (c + 2) (n + 12) (pc + 3) lv (.int z :: st)) : J k (x0 :: CW (kD k) G v r) c n pc lv (.int w :: .int (nI t) :: .ref (G.1 0 0) :: st) :=
  j_lc F hw (qX3_agent (kl k) hst (kD k) G v r (nI t) w hG hC) lk_L_77 hd ⟨(Nat.le_of_ble_eq_true rfl), (Nat.le_of_ble_eq_true rfl)⟩ rfl hW hcn ((agentE ht hG.nA h0 h4).trans (by rw [hz])) K
theorem sk156 (F : Fx k code RL room_1 16) {w : Int32} (h7 : lv[7]? = some (some (.int w))) (h : ¬ w = 3) (K : J k ws c n 197 lv []) : J k ws c n 156 lv [] :=
  j_iload F dL_law_156 h7 (j_iconst F (v := 3) dL_law_158 (by decide) (j_icne F (tgt := 197) dL_law_159 (by decide) (fun _ => K) (fun z => absurd z h)))
theorem sk125 (F : Fx k code RL room_1 16) {w : Int32} (h7 : lv[7]? = some (some (.int w))) (h : ¬ w = 2) (K : J k ws c n 156 lv []) : J k ws c n 125 lv [] :=
  j_iload F dL_law_125 h7 (j_iconst F (v := 2) dL_law_127 (by decide) (j_icne F (tgt := 156) dL_law_128 (by decide) (fun _ => K) (fun z => absurd z h)))
theorem sk106 (F : Fx k code RL room_1 16) {w : Int32} (h7 : lv[7]? = some (some (.int w))) (h : ¬ w = 1) (K : J k ws c n 125 lv []) : J k ws c n 106 lv [] :=
  j_iload F dL_law_106 h7 (j_iconst F (v := 1) dL_law_108 (by decide) (j_icne F (tgt := 125) dL_law_109 (by decide) (fun _ => K) (fun z => absurd z h)))
end LW
section ST
variable {E S M : Int} {st dn ef an ag sa : Int32} {na nt a t : Nat} {v : S2} {r : R2}
theorem st_lt3 (h : TkN E S M st dn ef an ag sa) (h3 : ¬ 3 ≤ st) : st = 0 ∨ st = 1 ∨ st = 2 := by
  rcases h.2.2.2.2.2.2 with e | e | e | e | e
  · exact Or.inl e
  · exact Or.inr (Or.inl e)
  · exact Or.inr (Or.inr e)
  · rw [e] at h3; exact absurd (by decide) h3
  · rw [e] at h3; exact absurd (by decide) h3
theorem st_lt2 (h : TkN E S M st dn ef an ag sa) (h3 : ¬ 2 ≤ st) : st = 0 ∨ st = 1 := by
  rcases h.2.2.2.2.2.2 with e | e | e | e | e
  · exact Or.inl e
  · exact Or.inr e
  · rw [e] at h3; exact absurd (by decide) h3
  · rw [e] at h3; exact absurd (by decide) h3
  · rw [e] at h3; exact absurd (by decide) h3
theorem st_all {s : Int32} (h : s = 0 ∨ s = 1 ∨ s = 2 ∨ s = 3 ∨ s = 4) : C_all na nt v r s = (0, C_allL na nt v r s nt, v, r) := by
  rcases h with e | e | e | e | e <;> rw [e] <;> exact allE (by decide) (by decide)
theorem tdA_none (e : r 15 a = none) : C_toldOfAgent na nt v r a 0 = -1 := tA0.trans (by rw [e]; exact if_pos rfl)
theorem tdA_some (e : r 15 a = some t) (h : v 20 t = nI t) : C_toldOfAgent na nt v r a 0 = nI t := tA0.trans (by rw [e]; exact (if_neg (fun z => nomatch z)).trans h)
theorem tdT_none (e : r 32 t = none) : C_toldOfTicket na nt v r t 1 = -1 := tT1.trans (by rw [e]; exact if_pos rfl)
theorem tdT_some (e : r 32 t = some a) (h : v 10 a = nI a) : C_toldOfTicket na nt v r t 1 = nI a := tT1.trans (by rw [e]; exact (if_neg (fun z => nomatch z)).trans h)
end ST
set_option maxRecDepth 100000 in
set_option maxHeartbeats 4000000 in
theorem law_A {k : Kx} (F : Fx k code RL room_1 16) (hw : kw k = true) (hst : (kl k).stackTraces = false) {b Ls : Nat} {xs : Nat → Int32} (hX : va_X b Ls xs (ks k) (ks k).heap) (hbl : b < (ks k).heap.size) (hbA : ¬ kA k b) (hL : Ls ≤ 260) {dd : Nat} {g : Nat → Int32} {G : CG} (hG : GI (kD k) G) (hna : nA G ≤ 4) (hnt1 : 1 ≤ nT G) (hnt : nT G ≤ 14) (g3 : g 3 = nI (nA G)) (g4 : g 4 = nI (nT G)) {time m : Nat} {so : Int32} {K v : S2} {r : R2} {E S M : Int} (hI : Iv (nA G) (nT G) K v r E S M so) (hC : CI G v r) (hK0 : K 0 0 = nI m) (hm : m < 1440) (hE : E < 2 ^ 30) {c n : Nat} (hc : c ≤ 100000) (hn : n ≤ 1000000) (htime : time < 30) {y5 y6 y7 y8 y9 y10 y11 y12 y13 y14 y15 : Option Value} (KK_ : ∀ (v' : S2) (r' : R2) (c' n' : Nat) (z5 z6 z7 z8 : Int32), Iv (nA G) (nT G) K v' r' (E + 20) S M so → CI G v' r' → c' ≤ c + 10 → n' ≤ n + 60 → J k (ain (kD k) dd 350 g :: CW (kD k) G v' r') c' n' 197 [some (.ref b), some (.ref ((G.1 0 0))), some (.ref dd), some (.int so), some (.int (nI time)), some (.int z5), some (.int z6), some (.int z7), some (.int z8), y9, y10, y11, y12, y13, y14, y15] []) : J k (ain (kD k) dd 350 g :: CW (kD k) G v r) c n 35 [some (.ref b), some (.ref ((G.1 0 0))), some (.ref dd), some (.int so), some (.int (nI time)), y5, y6, y7, y8, y9, y10, y11, y12, y13, y14, y15] [] := by
  refine j_aloadn F dL_law_35 rfl ?_
  refine j_bipush F (v := 7) dL_law_36 (by decide) ?_
  refine j_iload F dL_law_38 rfl ?_
  refine j_bipush F (v := 8) dL_law_40 (by decide) ?_
  refine j_iremN F (a := time) (e := 8) dL_law_42 (by omega) (by omega) ?_
  refine j_iaddN F (a := 7) (b := time % 8) dL_law_43 ?_
  refine j_cel F hst hX hbl hbA hL (i := 7 + (time % 8)) (by omega) dL_law_44 ⟨(Nat.le_of_ble_eq_true rfl), (Nat.le_of_ble_eq_true rfl)⟩ (Nat.le_of_ble_eq_true rfl) ⟨(by show _ ≤ 600104; omega), (by show _ ≤ 7301314; omega)⟩ (fun x44 => ?_)
  refine j_iload F dL_law_47 rfl ?_
  refine j_bipush F (v := 8) dL_law_49 (by decide) ?_
  refine j_idivN F (a := time) (e := 8) dL_law_51 (by omega) (by omega) ?_
  refine j_bipush F (v := 7) dL_law_52 (by decide) ?_
  refine j_imulN F (a := time / 8) (e := 7) dL_law_54 ?_
  refine j_ishr F dL_law_55 ?_
  refine j_istore F [some (.ref b), some (.ref ((G.1 0 0))), some (.ref dd), some (.int so), some (.int (nI time)), some (.int (x44 >>> ((nI ((time / 8) * 7)) &&& 31))), y6, y7, y8, y9, y10, y11, y12, y13, y14, y15] dL_law_56 rfl rfl rfl ?_
  generalize x44 >>> ((nI ((time / 8) * 7)) &&& 31) = z5
  refine j_iload F dL_law_58 rfl ?_
  refine j_iconst F (v := 3) dL_law_60 (by decide) ?_
  refine j_ishr F dL_law_61 ?_
  refine j_aloadn F dL_law_62 rfl ?_
  refine j_iconst F (v := 4) dL_law_63 (by decide) ?_
  refine j_dld F (i := 4) (z := nI (nT G)) dL_law_64 (by omega) g4 ?_
  refine j_bel F hst (N := nT G) (by omega) dL_law_65 ⟨(Nat.le_of_ble_eq_true rfl), (Nat.le_of_ble_eq_true rfl)⟩ (Nat.le_of_ble_eq_true rfl) ⟨(by show _ ≤ 600104; omega), (by show _ ≤ 7301314; omega)⟩ (fun j65 hj65 => ?_)
  refine j_istore F [some (.ref b), some (.ref ((G.1 0 0))), some (.ref dd), some (.int so), some (.int (nI time)), some (.int z5), some (.int (nI j65)), y7, y8, y9, y10, y11, y12, y13, y14, y15] dL_law_68 rfl rfl rfl ?_
  refine j_iload F dL_law_70 rfl ?_
  refine j_bipush F (v := 8) dL_law_72 (by decide) ?_
  refine j_bel F hst (N := 8) (by omega) dL_law_74 ⟨(Nat.le_of_ble_eq_true rfl), (Nat.le_of_ble_eq_true rfl)⟩ (Nat.le_of_ble_eq_true rfl) ⟨(by show _ ≤ 600104; omega), (by show _ ≤ 7301314; omega)⟩ (fun j74 hj74 => ?_)
  refine j_istore F [some (.ref b), some (.ref ((G.1 0 0))), some (.ref dd), some (.int so), some (.int (nI time)), some (.int z5), some (.int (nI j65)), some (.int (nI j74)), y8, y9, y10, y11, y12, y13, y14, y15] dL_law_77 rfl rfl rfl ?_
  refine j_aloadn F dL_law_79 rfl ?_
  refine j_iload F dL_law_80 rfl ?_
  refine j_iconst F (v := 0) dL_law_82 (by decide) ?_
  refine j_tk F hw hst hG hC (t := j65) hj65 (by decide) (by decide) (z := v 24 j65) tT0 dL_law_83 (Nat.le_of_ble_eq_true rfl) ⟨by omega, by omega⟩ ?_
  refine j_istore F [some (.ref b), some (.ref ((G.1 0 0))), some (.ref dd), some (.int so), some (.int (nI time)), some (.int z5), some (.int (nI j65)), some (.int (nI j74)), some (.int (v 24 j65)), y9, y10, y11, y12, y13, y14, y15] dL_law_86 rfl rfl rfl ?_
  refine j_iload F dL_law_88 rfl ?_
  have hT := hI.2.1 j65 hj65
  have hI2 : Iv (nA G) (nT G) K v r (E + 20) S M so := hI.mono (by omega) (Int.le_refl _) (Int.le_refl _)
  have K7 : ∀ (v' : S2) (r' : R2) (c' n' : Nat), Iv (nA G) (nT G) K v' r' (E + 20) S M so → CI G v' r' → c' ≤ c + 10 → n' ≤ n + 60 → J k (ain (kD k) dd 350 g :: CW (kD k) G v' r') c' n' 197 [some (.ref b), some (.ref ((G.1 0 0))), some (.ref dd), some (.int so), some (.int (nI time)), some (.int z5), some (.int (nI j65)), some (.int (nI j74)), some (.int (v 24 j65)), y9, y10, y11, y12, y13, y14, y15] [] := fun v' r' c' n' a1 a2 a3 a4 => KK_ v' r' c' n' _ _ _ _ a1 a2 a3 a4
  have e00 : v 0 0 = nI m := by rw [hI.2.2.1.1, hK0]
  refine j_ifne F (tgt := 106) dL_law_90 (by decide) (fun w0 => ?_) (fun w0 => ?_)
  · refine j_iload F dL_law_106 rfl ?_
    refine j_iconst F (v := 1) dL_law_108 (by decide) ?_
    refine j_icne F (tgt := 125) dL_law_109 (by decide) (fun w1 => ?_) (fun w1 => ?_)
    · refine j_iload F dL_law_125 rfl ?_
      refine j_iconst F (v := 2) dL_law_127 (by decide) ?_
      refine j_icne F (tgt := 156) dL_law_128 (by decide) (fun w2 => ?_) (fun w2 => ?_)
      · refine j_iload F dL_law_156 rfl ?_
        refine j_iconst F (v := 3) dL_law_158 (by decide) ?_
        refine j_icne F (tgt := 197) dL_law_159 (by decide) (fun _ => (K7 v r _ _ hI2 hC (by omega) (by omega))) (fun w3 => ?_)
        refine j_iload F dL_law_162 rfl ?_
        refine j_iconst F (v := 3) dL_law_164 (by decide) ?_
        refine j_icge F (tgt := 197) dL_law_165 (by decide) (fun _ => (K7 v r _ _ hI2 hC (by omega) (by omega))) (fun w4 => ?_)
        refine j_iload F dL_law_168 rfl ?_
        refine j_ifle F (tgt := 197) dL_law_170 (by decide) (fun _ => (K7 v r _ _ hI2 hC (by omega) (by omega))) (fun w5 => ?_)
        have hj1 : 1 ≤ j65 := Nat.le_of_not_lt fun z => w5 (by rw [show j65 = 0 by omega]; decide)
        refine j_aloadn F dL_law_173 rfl ?_
        refine j_iload F dL_law_174 rfl ?_
        refine j_iconst F (v := 1) dL_law_176 (by decide) ?_
        refine j_isubN F (a := j65) (e := 1) dL_law_177 (by omega) ?_
        refine j_iconst F (v := 0) dL_law_178 (by decide) ?_
        refine j_tk F hw hst hG hC (t := j65 - 1) (by omega) (by decide) (by decide) (z := v 24 (j65 - 1)) tT0 dL_law_179 (Nat.le_of_ble_eq_true rfl) ⟨by omega, by omega⟩ ?_
        refine j_iconst F (v := 3) dL_law_182 (by decide) ?_
        refine j_icge F (tgt := 197) dL_law_183 (by decide) (fun _ => (K7 v r _ _ hI2 hC (by omega) (by omega))) (fun w6 => ?_)
        refine j_aloadn F dL_law_186 rfl ?_
        refine j_iload F dL_law_187 rfl ?_
        refine j_iload F dL_law_189 rfl ?_
        refine j_iconst F (v := 1) dL_law_191 (by decide) ?_
        refine j_isubN F (a := j65) (e := 1) dL_law_192 (by omega) ?_
        have hT1 := hI.2.1 (j65 - 1) (by omega)
        obtain ⟨z, hz⟩ := mergeE (na := nA G) (v := v) (r := r) hj65 (show j65 - 1 < nT G by omega) hG.nT (by omega) (st_lt3 hT w4) (st_lt3 hT1 w6)
        refine j_lc F hw (qX3_merge (kl k) hst (kD k) G v r (nI j65) (nI (j65 - 1)) hG hC) lk_L_71 dL_law_193 ⟨(Nat.le_of_ble_eq_true rfl), (Nat.le_of_ble_eq_true rfl)⟩ rfl (Nat.le_of_ble_eq_true rfl) ⟨by show _ ≤ 600104; omega, by show _ ≤ 7301314; omega⟩ hz ?_
        refine j_pop F dL_law_196 rfl ?_
        exact K7 _ _ _ _ (hI2.merge hj65 (show j65 - 1 < nT G by omega) (by omega) (st_lt3 hT w4) _ _) (CI_merge hC hj65 (show j65 - 1 < nT G by omega) _ _) (by omega) (by omega)
      · refine j_iload F dL_law_131 rfl ?_
        refine j_iconst F (v := 3) dL_law_133 (by decide) ?_
        have n3 : ¬ nI j74 = 3 := fun z => absurd (w2.symm.trans z) (by decide)
        refine j_icne F (tgt := 156) dL_law_134 (by decide) (fun _ => sk156 F rfl n3 (K7 v r _ _ hI2 hC (by omega) (by omega))) (fun w3 => ?_)
        refine j_aloadn F dL_law_137 rfl ?_
        refine j_iload F dL_law_138 rfl ?_
        refine j_iconst F (v := 1) dL_law_140 (by decide) ?_
        refine j_iload F dL_law_141 rfl ?_
        refine j_bipush F (v := 6) dL_law_143 (by decide) ?_
        refine j_ishr F dL_law_145 ?_
        refine j_bipush F (v := 20) dL_law_146 (by decide) ?_
        refine j_bel F hst (N := 20) (by omega) dL_law_148 ⟨(Nat.le_of_ble_eq_true rfl), (Nat.le_of_ble_eq_true rfl)⟩ (Nat.le_of_ble_eq_true rfl) ⟨(by show _ ≤ 600104; omega), (by show _ ≤ 7301314; omega)⟩ (fun j148 hj148 => ?_)
        refine j_iaddN F (a := 1) (b := j148) dL_law_151 ?_
        obtain ⟨z, hz⟩ := reopenE (na := nA G) (r := r) (p := nI (1 + j148)) hj65 hG.nT w3 (by rw [nI_toInt (by omega)]; omega) (by rw [nI_toInt (by omega)]; omega) e00 hm hT.2.2.2.2.2.1.1
        refine j_lc F hw (qX3_reopen (kl k) hst (kD k) G v r (nI j65) (nI (1 + j148)) hG) lk_L_68 dL_law_152 ⟨(Nat.le_of_ble_eq_true rfl), (Nat.le_of_ble_eq_true rfl)⟩ rfl (Nat.le_of_ble_eq_true rfl) ⟨by show _ ≤ 600104; omega, by show _ ≤ 7301314; omega⟩ hz ?_
        refine j_pop F dL_law_155 rfl ?_
        exact sk156 F rfl n3 (K7 _ _ _ _ (hI.reopen hj65 w3 (by rw [nI_toInt (by omega)]; omega) (by rw [nI_toInt (by omega)]; omega) hE _) (CI_v (by decide) (CI_v (by decide) (CI_v (by decide) hC))) (by omega) (by omega))
    · refine j_iload F dL_law_112 rfl ?_
      refine j_iconst F (v := 2) dL_law_114 (by decide) ?_
      have n2 : ¬ nI j74 = 2 := fun z => absurd (w1.symm.trans z) (by decide)
      have n3 : ¬ nI j74 = 3 := fun z => absurd (w1.symm.trans z) (by decide)
      refine j_icne F (tgt := 125) dL_law_115 (by decide) (fun _ => sk125 F rfl n2 (sk156 F rfl n3 (K7 v r _ _ hI2 hC (by omega) (by omega)))) (fun w3 => ?_)
      refine j_aloadn F dL_law_118 rfl ?_
      refine j_iload F dL_law_119 rfl ?_
      obtain ⟨z, hz⟩ := resumeE (na := nA G) (r := r) hj65 hG.nT w3
      refine j_lc F hw (qX3_resume (kl k) hst (kD k) G v r (nI j65) hG) lk_L_65 dL_law_121 ⟨(Nat.le_of_ble_eq_true rfl), (Nat.le_of_ble_eq_true rfl)⟩ rfl (Nat.le_of_ble_eq_true rfl) ⟨by show _ ≤ 600104; omega, by show _ ≤ 7301314; omega⟩ hz ?_
      refine j_pop F dL_law_124 rfl ?_
      exact sk125 F rfl n2 (sk156 F rfl n3 (K7 _ _ _ _ (hI2.resume hj65 w3) (CI_v (by decide) hC) (by omega) (by omega)))
  · refine j_iload F dL_law_93 rfl ?_
    refine j_iconst F (v := 2) dL_law_95 (by decide) ?_
    have n1 : ¬ nI j74 = 1 := fun z => absurd (w0.symm.trans z) (by decide)
    have n2 : ¬ nI j74 = 2 := fun z => absurd (w0.symm.trans z) (by decide)
    have n3 : ¬ nI j74 = 3 := fun z => absurd (w0.symm.trans z) (by decide)
    refine j_icge F (tgt := 106) dL_law_96 (by decide) (fun _ => sk106 F rfl n1 (sk125 F rfl n2 (sk156 F rfl n3 (K7 v r _ _ hI2 hC (by omega) (by omega))))) (fun w3 => ?_)
    refine j_aloadn F dL_law_99 rfl ?_
    refine j_iload F dL_law_100 rfl ?_
    obtain ⟨z, hz⟩ := pauseE (na := nA G) (r := r) hj65 hG.nT (st_lt2 hT w3)
    refine j_lc F hw (qX3_pause (kl k) hst (kD k) G v r (nI j65) hG hC) lk_L_61 dL_law_102 ⟨(Nat.le_of_ble_eq_true rfl), (Nat.le_of_ble_eq_true rfl)⟩ rfl (Nat.le_of_ble_eq_true rfl) ⟨by show _ ≤ 600104; omega, by show _ ≤ 7301314; omega⟩ hz ?_
    refine j_pop F dL_law_105 rfl ?_
    exact sk106 F rfl n1 (sk125 F rfl n2 (sk156 F rfl n3 (K7 _ _ _ _ (hI2.pause hj65 (st_lt2 hT w3) _) (CI_v (by decide) (CI_v (by decide) (CI_take' hC))) (by omega) (by omega))))
set_option maxRecDepth 100000 in
set_option maxHeartbeats 4000000 in
theorem law_C {k : Kx} (F : Fx k code RL room_1 16) (hw : kw k = true) (hst : (kl k).stackTraces = false) {b : Nat} {dd : Nat} {g : Nat → Int32} {G : CG} (hG : GI (kD k) G) (hna : nA G ≤ 4) (hnt : nT G ≤ 14) (g3 : g 3 = nI (nA G)) (g4 : g 4 = nI (nT G)) {time : Nat} {so sx : Int32} {z5 z6 z7 z8 : Int32} {K v : S2} {r : R2} {E S M : Int} (hI : Iv (nA G) (nT G) K v r E S M sx) (hC : CI G v r) (hK : GK (nA G) (nT G) g K) {c0 n0 : Nat} (hc : c0 ≤ 100000) (hn : n0 ≤ 1000000) {y13 y14 y15 : Option Value} (KK_ : ∀ (c n : Nat) (y12 : Option Value), c ≤ c0 + 10 * nA G → n ≤ n0 + 60 * nA G → J k (ain (kD k) dd 350 g :: CW (kD k) G v r) c n 327 [some (.ref b), some (.ref ((G.1 0 0))), some (.ref dd), some (.int so), some (.int (nI time)), some (.int z5), some (.int z6), some (.int z7), some (.int z8), some (.int (sumI (v 16) (nA G))), some (.int (sumI (v 17) (nA G))), some (.int (nI (nA G))), y12, y13, y14, y15] []) : ∀ (fu a c n : Nat) (y12 : Option Value), nA G - a < fu → a ≤ nA G → c ≤ c0 + 10 * a → n ≤ n0 + 60 * a → J k (ain (kD k) dd 350 g :: CW (kD k) G v r) c n 224 [some (.ref b), some (.ref ((G.1 0 0))), some (.ref dd), some (.int so), some (.int (nI time)), some (.int z5), some (.int z6), some (.int z7), some (.int z8), some (.int (sumI (v 16) a)), some (.int (sumI (v 17) a)), some (.int (nI a)), y12, y13, y14, y15] []
  | 0, a, c, n, y12, h1, h2, h5, h6 => absurd h1 (Nat.not_lt_zero _)
  | fu + 1, a, c, n, y12, h1, h2, h5, h6 => by
    refine j_iload F dL_law_224 rfl ?_
    refine j_aloadn F dL_law_226 rfl ?_
    refine j_iconst F (v := 3) dL_law_227 (by decide) ?_
    refine j_dld F (i := 3) (z := nI (nA G)) dL_law_228 (by omega) g3 ?_
    refine j_icgeN F (x := a) (y := nA G) (tgt := 327) dL_law_229 (by decide) ⟨by omega, by omega⟩ (fun h => ?_) (fun h => ?_)
    · obtain rfl : a = nA G := by omega
      exact KK_ c n y12 h5 h6
    have g20 : ∀ t, t < nT G → v 20 t = nI t := fun t ht => by rw [hI.2.2.1.2.2.2.1]; exact (hK.2 t ht).1
    have g10 : ∀ a, a < nA G → v 10 a = nI a := fun a ha => by rw [hI.2.2.1.2.1]; exact (hK.1 a ha).1
    have key : ∀ (c n : Nat) (y12 : Option Value), c ≤ c0 + 10 * a + 6 → n ≤ n0 + 60 * a + 36 → J k (ain (kD k) dd 350 g :: CW (kD k) G v r) c n 297 [some (.ref b), some (.ref ((G.1 0 0))), some (.ref dd), some (.int so), some (.int (nI time)), some (.int z5), some (.int z6), some (.int z7), some (.int z8), some (.int (sumI (v 16) a)), some (.int (sumI (v 17) a)), some (.int (nI a)), y12, y13, y14, y15] [] := by
      intro c n y12 h5 h6
      refine j_iload F dL_law_297 rfl ?_
      refine j_aloadn F dL_law_299 rfl ?_
      refine j_iload F dL_law_300 rfl ?_
      refine j_iconst F (v := 1) dL_law_302 (by decide) ?_
      refine j_ag F hw hst hG hC (t := a) h (by decide) (by decide) (z := v 16 a) tA1 dL_law_303 (Nat.le_of_ble_eq_true rfl) ⟨by omega, by omega⟩ ?_
      refine j_iadd F dL_law_306 ?_
      refine j_istore F [some (.ref b), some (.ref ((G.1 0 0))), some (.ref dd), some (.int so), some (.int (nI time)), some (.int z5), some (.int z6), some (.int z7), some (.int z8), some (.int ((sumI (v 16) a) + (v 16 a))), some (.int (sumI (v 17) a)), some (.int (nI a)), y12, y13, y14, y15] dL_law_307 rfl rfl rfl ?_
      refine j_iload F dL_law_309 rfl ?_
      refine j_aloadn F dL_law_311 rfl ?_
      refine j_iload F dL_law_312 rfl ?_
      refine j_iconst F (v := 2) dL_law_314 (by decide) ?_
      refine j_ag F hw hst hG hC (t := a) h (by decide) (by decide) (z := v 17 a) tA2 dL_law_315 (Nat.le_of_ble_eq_true rfl) ⟨by omega, by omega⟩ ?_
      refine j_iadd F dL_law_318 ?_
      refine j_istore F [some (.ref b), some (.ref ((G.1 0 0))), some (.ref dd), some (.int so), some (.int (nI time)), some (.int z5), some (.int z6), some (.int z7), some (.int z8), some (.int ((sumI (v 16) a) + (v 16 a))), some (.int ((sumI (v 17) a) + (v 17 a))), some (.int (nI a)), y12, y13, y14, y15] dL_law_319 rfl rfl rfl ?_
      refine j_iincN F [some (.ref b), some (.ref ((G.1 0 0))), some (.ref dd), some (.int so), some (.int (nI time)), some (.int z5), some (.int z6), some (.int z7), some (.int z8), some (.int ((sumI (v 16) a) + (v 16 a))), some (.int ((sumI (v 17) a) + (v 17 a))), some (.int (nI (a + 1))), y12, y13, y14, y15] dL_law_321 rfl rfl rfl rfl ?_
      refine j_goto F (tgt := 224) dL_law_324 (by decide) ?_
      exact law_C F hw hst hG hna hnt g3 g4 hI hC hK hc hn KK_ fu (a + 1) _ _ _ (by omega) (by omega) (by omega) (by omega)
    refine j_aloadn F dL_law_232 rfl ?_
    refine j_iload F dL_law_233 rfl ?_
    refine j_iconst F (v := 0) dL_law_235 (by decide) ?_
    cases e : r 15 a with
    | none =>
      refine j_ag F hw hst hG hC (t := a) h (by decide) (by decide) (z := (-1)) (tdA_none e) dL_law_236 (Nat.le_of_ble_eq_true rfl) ⟨by omega, by omega⟩ ?_
      refine j_istore F [some (.ref b), some (.ref ((G.1 0 0))), some (.ref dd), some (.int so), some (.int (nI time)), some (.int z5), some (.int z6), some (.int z7), some (.int z8), some (.int (sumI (v 16) a)), some (.int (sumI (v 17) a)), some (.int (nI a)), some (.int ((-1))), y13, y14, y15] dL_law_239 rfl rfl rfl ?_
      refine j_iload F dL_law_241 rfl ?_
      refine j_iflt F (tgt := 297) dL_law_243 (by decide) (fun _ => ?_) (fun z => absurd (show (-1 : Int32) < 0 by decide) z)
      exact key _ _ _ (by omega) (by omega)
    | some t =>
      obtain ⟨ht, h32, hsk⟩ := hI.1.1 a h t e
      have h24 : v 24 t = 1 := (hI.1.2.2 t ht).mpr (by rw [h32]; intro z; cases z)
      refine j_ag F hw hst hG hC (t := a) h (by decide) (by decide) (z := nI t) (tdA_some e (g20 t ht)) dL_law_236 (Nat.le_of_ble_eq_true rfl) ⟨by omega, by omega⟩ ?_
      refine j_istore F [some (.ref b), some (.ref ((G.1 0 0))), some (.ref dd), some (.int so), some (.int (nI time)), some (.int z5), some (.int z6), some (.int z7), some (.int z8), some (.int (sumI (v 16) a)), some (.int (sumI (v 17) a)), some (.int (nI a)), some (.int (nI t)), y13, y14, y15] dL_law_239 rfl rfl rfl ?_
      refine j_iload F dL_law_241 rfl ?_
      refine j_iflt F (tgt := 297) dL_law_243 (by decide) (fun z => absurd z (nI_nlt (b := 0) (by omega) (by omega))) (fun _ => ?_)
      refine j_aloadn F dL_law_246 rfl ?_
      refine j_iload F dL_law_247 rfl ?_
      refine j_iconst F (v := 1) dL_law_249 (by decide) ?_
      refine j_tk F hw hst hG hC (t := t) ht (by decide) (by decide) (z := nI a) (tdT_some h32 (g10 a h)) dL_law_250 (Nat.le_of_ble_eq_true rfl) ⟨by omega, by omega⟩ ?_
      refine j_iload F dL_law_253 rfl ?_
      refine j_icne F (tgt := 295) dL_law_255 (by decide) (fun z => absurd rfl z) (fun _ => ?_)
      refine j_aloadn F dL_law_258 rfl ?_
      refine j_iload F dL_law_259 rfl ?_
      refine j_iconst F (v := 0) dL_law_261 (by decide) ?_
      refine j_tk F hw hst hG hC (t := t) ht (by decide) (by decide) (z := 1) (tT0.trans h24) dL_law_262 (Nat.le_of_ble_eq_true rfl) ⟨by omega, by omega⟩ ?_
      refine j_iconst F (v := 1) dL_law_265 (by decide) ?_
      refine j_icne F (tgt := 295) dL_law_266 (by decide) (fun z => absurd rfl z) (fun _ => ?_)
      refine j_aloadn F dL_law_269 rfl ?_
      refine j_bipush F (v := 20) dL_law_270 (by decide) ?_
      refine j_bipush F (v := 8) dL_law_272 (by decide) ?_
      refine j_iload F dL_law_274 rfl ?_
      refine j_imulN F (a := 8) (e := a) dL_law_276 ?_
      refine j_iaddN F (a := 20) (b := 8 * a) dL_law_277 ?_
      refine j_dld F (i := 20 + (8 * a)) (z := K 14 a) dL_law_278 (by omega) (hK.1 a h).2 ?_
      refine j_aloadn F dL_law_279 rfl ?_
      refine j_bipush F (v := 70) dL_law_280 (by decide) ?_
      refine j_bipush F (v := 14) dL_law_282 (by decide) ?_
      refine j_iload F dL_law_284 rfl ?_
      refine j_imulN F (a := 14) (e := t) dL_law_286 ?_
      refine j_iaddN F (a := 70) (b := 14 * t) dL_law_287 ?_
      refine j_dld F (i := 70 + (14 * t)) (z := K 21 t) dL_law_288 (by omega) (hK.2 t ht).2.1 ?_
      refine j_ishr F dL_law_289 ?_
      refine j_iconst F (v := 1) dL_law_290 (by decide) ?_
      refine j_iand F dL_law_291 ?_
      refine j_ifne F (tgt := 297) dL_law_292 (by decide) (fun _ => ?_) (fun z => absurd ((hs_ok (hK.2 t ht).2.2 hsk).symm.trans z) (by decide))
      exact key _ _ _ (by omega) (by omega)
set_option maxRecDepth 100000 in
set_option maxHeartbeats 4000000 in
theorem law_D {k : Kx} (F : Fx k code RL room_1 16) (hw : kw k = true) (hst : (kl k).stackTraces = false) {b : Nat} {dd : Nat} {g : Nat → Int32} {G : CG} (hG : GI (kD k) G) (hna : nA G ≤ 4) (hnt : nT G ≤ 14) (g3 : g 3 = nI (nA G)) (g4 : g 4 = nI (nT G)) {time m o_ c_ : Nat} {so sx : Int32} {z5 z6 z7 z8 z9 z10 : Int32} {K v : S2} {r : R2} {E M : Int} (hI : Iv (nA G) (nT G) K v r E (AN o_ c_ m : Int) M sx) (hC : CI G v r) (hK : GK (nA G) (nT G) g K) (hK0 : K 0 0 = nI m) (hK1 : K 0 1 = nI o_) (hK2 : K 0 2 = nI c_) (hoc : o_ < c_) (hc24 : c_ ≤ 1440) (hm : m < 1440) {c0 n0 : Nat} (hc : c0 ≤ 100000) (hn : n0 ≤ 1000000) (KK_ : ∀ (c n : Nat) (y13 y14 y15 : Option Value), c ≤ c0 + 30 * nT G → n ≤ n0 + 180 * nT G → J k (ain (kD k) dd 350 g :: CW (kD k) G v r) c n 546 [some (.ref b), some (.ref ((G.1 0 0))), some (.ref dd), some (.int so), some (.int (nI time)), some (.int z5), some (.int z6), some (.int z7), some (.int z8), some (.int z9), some (.int z10), some (.int (sumI (v 26) (nT G))), some (.int (nI (nT G))), y13, y14, y15] []) : ∀ (fu t c n : Nat) (y13 y14 y15 : Option Value), nT G - t < fu → t ≤ nT G → c ≤ c0 + 30 * t → n ≤ n0 + 180 * t → J k (ain (kD k) dd 350 g :: CW (kD k) G v r) c n 341 [some (.ref b), some (.ref ((G.1 0 0))), some (.ref dd), some (.int so), some (.int (nI time)), some (.int z5), some (.int z6), some (.int z7), some (.int z8), some (.int z9), some (.int z10), some (.int (sumI (v 26) t)), some (.int (nI t)), y13, y14, y15] []
  | 0, t, c, n, y13, y14, y15, h1, h2, h5, h6 => absurd h1 (Nat.not_lt_zero _)
  | fu + 1, t, c, n, y13, y14, y15, h1, h2, h5, h6 => by
    refine j_iload F dL_law_341 rfl ?_
    refine j_aloadn F dL_law_343 rfl ?_
    refine j_iconst F (v := 4) dL_law_344 (by decide) ?_
    refine j_dld F (i := 4) (z := nI (nT G)) dL_law_345 (by omega) g4 ?_
    refine j_icgeN F (x := t) (y := nT G) (tgt := 546) dL_law_346 (by decide) ⟨by omega, by omega⟩ (fun h => ?_) (fun h => ?_)
    · obtain rfl : t = nT G := by omega
      exact KK_ c n y13 y14 y15 h5 h6
    have g20 : ∀ t, t < nT G → v 20 t = nI t := fun t ht => by rw [hI.2.2.1.2.2.2.1]; exact (hK.2 t ht).1
    have g10 : ∀ a, a < nA G → v 10 a = nI a := fun a ha => by rw [hI.2.2.1.2.1]; exact (hK.1 a ha).1
    have f0 := hI.2.2.1.1
    obtain ⟨q1, q2, q3, q4, q5, q6, q7⟩ := hI.2.1 t h
    have key : ∀ (c n : Nat) (z14 : Int32) (y15 : Option Value), c ≤ c0 + 30 * t + 6 → n ≤ n0 + 180 * t + 36 → J k (ain (kD k) dd 350 g :: CW (kD k) G v r) c n 410 [some (.ref b), some (.ref ((G.1 0 0))), some (.ref dd), some (.int so), some (.int (nI time)), some (.int z5), some (.int z6), some (.int z7), some (.int z8), some (.int z9), some (.int z10), some (.int (sumI (v 26) t)), some (.int (nI t)), some (.int (v 24 t)), some (.int z14), y15] [] := by
      intro c n z14 y15 h5 h6
      refine j_aloadn F dL_law_410 rfl ?_
      refine j_iload F dL_law_411 rfl ?_
      refine j_iconst F (v := 4) dL_law_413 (by decide) ?_
      refine j_tk F hw hst hG hC (t := t) h (by decide) (by decide) (z := v 26 t) tT4 dL_law_414 (Nat.le_of_ble_eq_true rfl) ⟨by omega, by omega⟩ ?_
      refine j_istore F [some (.ref b), some (.ref ((G.1 0 0))), some (.ref dd), some (.int so), some (.int (nI time)), some (.int z5), some (.int z6), some (.int z7), some (.int z8), some (.int z9), some (.int z10), some (.int (sumI (v 26) t)), some (.int (nI t)), some (.int (v 24 t)), some (.int z14), some (.int (v 26 t))] dL_law_417 rfl rfl rfl ?_
      refine j_iload F dL_law_419 rfl ?_
      refine j_iload F dL_law_421 rfl ?_
      refine j_iadd F dL_law_423 ?_
      refine j_istore F [some (.ref b), some (.ref ((G.1 0 0))), some (.ref dd), some (.int so), some (.int (nI time)), some (.int z5), some (.int z6), some (.int z7), some (.int z8), some (.int z9), some (.int z10), some (.int ((sumI (v 26) t) + (v 26 t))), some (.int (nI t)), some (.int (v 24 t)), some (.int z14), some (.int (v 26 t))] dL_law_424 rfl rfl rfl ?_
      refine j_iload F dL_law_426 rfl ?_
      refine j_aloadn F dL_law_428 rfl ?_
      refine j_iload F dL_law_429 rfl ?_
      refine j_iconst F (v := 5) dL_law_431 (by decide) ?_
      refine j_tk F hw hst hG hC (t := t) h (by decide) (by decide) (z := v 23 t) tT5 dL_law_432 (Nat.le_of_ble_eq_true rfl) ⟨by omega, by omega⟩ ?_
      refine j_icgt F (tgt := 522) dL_law_435 (by decide) (fun z => absurd (Int32.lt_iff_toInt_lt.mp z) (by omega)) (fun _ => ?_)
      have key3 : ∀ (c n : Nat), c ≤ c0 + 30 * t + 14 → n ≤ n0 + 180 * t + 84 → J k (ain (kD k) dd 350 g :: CW (kD k) G v r) c n 485 [some (.ref b), some (.ref ((G.1 0 0))), some (.ref dd), some (.int so), some (.int (nI time)), some (.int z5), some (.int z6), some (.int z7), some (.int z8), some (.int z9), some (.int z10), some (.int ((sumI (v 26) t) + (v 26 t))), some (.int (nI t)), some (.int (v 24 t)), some (.int z14), some (.int (v 26 t))] [] := by
        intro c n h5 h6
        refine j_aloadn F dL_law_485 rfl ?_
        refine j_iload F dL_law_486 rfl ?_
        refine j_bipush F (v := 6) dL_law_488 (by decide) ?_
        refine j_tk F hw hst hG hC (t := t) h (by decide) (by decide) (z := v 27 t) tT6 dL_law_490 (Nat.le_of_ble_eq_true rfl) ⟨by omega, by omega⟩ ?_
        refine j_aloadn F dL_law_493 rfl ?_
        refine j_iload F dL_law_494 rfl ?_
        refine j_iconst F (v := 3) dL_law_496 (by decide) ?_
        refine j_tk F hw hst hG hC (t := t) h (by decide) (by decide) (z := v 25 t) tT3 dL_law_497 (Nat.le_of_ble_eq_true rfl) ⟨by omega, by omega⟩ ?_
        refine j_icgt F (tgt := 522) dL_law_500 (by decide) (fun z => absurd (Int32.lt_iff_toInt_lt.mp z) (by omega)) (fun _ => ?_)
        refine j_aloadn F dL_law_503 rfl ?_
        refine j_iload F dL_law_504 rfl ?_
        refine j_iconst F (v := 3) dL_law_506 (by decide) ?_
        refine j_tk F hw hst hG hC (t := t) h (by decide) (by decide) (z := v 25 t) tT3 dL_law_507 (Nat.le_of_ble_eq_true rfl) ⟨by omega, by omega⟩ ?_
        refine j_aloadn F dL_law_510 rfl ?_
        refine j_iconst F (v := 0) dL_law_511 (by decide) ?_
        refine j_aloadn F dL_law_512 rfl ?_
        refine j_lcr F (qX3_now (kl k) hst (kD k) G v r) lk_L_80 dL_law_513 ⟨(Nat.le_of_ble_eq_true rfl), (Nat.le_of_ble_eq_true rfl)⟩ rfl (Nat.le_of_ble_eq_true rfl) ⟨by show _ ≤ 600104; omega, by show _ ≤ 7301314; omega⟩ ?_
        rw [show C_now (nA G) (nT G) v r = nI m from by unfold C_now; rw [f0, hK0]]
        refine j_lc F hw (qX3_service (kl k) hst (kD k) G v r 0 (nI m)) lk_L_84 dL_law_516 ⟨(Nat.le_of_ble_eq_true rfl), (Nat.le_of_ble_eq_true rfl)⟩ rfl (Nat.le_of_ble_eq_true rfl) ⟨by show _ ≤ 600104; omega, by show _ ≤ 7301314; omega⟩ (serviceE (by rw [f0]; exact hK1) (by rw [f0]; exact hK2) hoc hc24 hm) ?_
        have hAN := AN_small (o := o_) (c := c_) hm
        refine j_icle F (tgt := 524) dL_law_519 (by decide) (fun _ => ?_) (fun z => absurd (Int32.le_iff_toInt_le.mpr (by rw [nI_toInt (by omega)]; omega)) z)
        refine j_aloadn F dL_law_524 rfl ?_
        refine j_iload F dL_law_525 rfl ?_
        refine j_lc F hw (qX3_all (kl k) hst (kD k) G v r (v 24 t) hG) lk_L_87 dL_law_527 ⟨(Nat.le_of_ble_eq_true rfl), (Nat.le_of_ble_eq_true rfl)⟩ rfl (Nat.le_of_ble_eq_true rfl) ⟨by show _ ≤ 600104; omega, by show _ ≤ 7301314; omega⟩ (st_all q7) ?_
        refine j_iload F dL_law_530 rfl ?_
        refine j_ishr F dL_law_532 ?_
        refine j_iconst F (v := 1) dL_law_533 (by decide) ?_
        refine j_iand F dL_law_534 ?_
        refine j_ifne F (tgt := 540) dL_law_535 (by decide) (fun _ => ?_) (fun z => absurd ((all_ok hG.nT h rfl).symm.trans z) (by decide))
        refine j_iincN F [some (.ref b), some (.ref ((G.1 0 0))), some (.ref dd), some (.int so), some (.int (nI time)), some (.int z5), some (.int z6), some (.int z7), some (.int z8), some (.int z9), some (.int z10), some (.int ((sumI (v 26) t) + (v 26 t))), some (.int (nI (t + 1))), some (.int (v 24 t)), some (.int z14), some (.int (v 26 t))] dL_law_540 rfl rfl rfl rfl ?_
        refine j_goto F (tgt := 341) dL_law_543 (by decide) ?_
        exact law_D F hw hst hG hna hnt g3 g4 hI hC hK hK0 hK1 hK2 hoc hc24 hm hc hn KK_ fu (t + 1) _ _ _ _ _ (by omega) (by omega) (by omega) (by omega)
      have key2 : ∀ (c n : Nat), c ≤ c0 + 30 * t + 12 → n ≤ n0 + 180 * t + 72 → J k (ain (kD k) dd 350 g :: CW (kD k) G v r) c n 469 [some (.ref b), some (.ref ((G.1 0 0))), some (.ref dd), some (.int so), some (.int (nI time)), some (.int z5), some (.int z6), some (.int z7), some (.int z8), some (.int z9), some (.int z10), some (.int ((sumI (v 26) t) + (v 26 t))), some (.int (nI t)), some (.int (v 24 t)), some (.int z14), some (.int (v 26 t))] [] := by
        intro c n h5 h6
        refine j_iload F dL_law_469 rfl ?_
        refine j_ifle F (tgt := 485) dL_law_471 (by decide) (fun _ => key3 c n (by omega) (by omega)) (fun z => ?_)
        have z2 : 0 < (v 26 t).toInt := Int.lt_of_not_ge fun y => z (Int32.le_iff_toInt_le.mpr y)
        refine j_aloadn F dL_law_474 rfl ?_
        refine j_iload F dL_law_475 rfl ?_
        refine j_bipush F (v := 6) dL_law_477 (by decide) ?_
        refine j_tk F hw hst hG hC (t := t) h (by decide) (by decide) (z := v 27 t) tT6 dL_law_479 (Nat.le_of_ble_eq_true rfl) ⟨by omega, by omega⟩ ?_
        refine j_iflt F (tgt := 522) dL_law_482 (by decide) (fun y => absurd (Int32.lt_iff_toInt_lt.mp y) (Int.not_lt.mpr (q3 z2))) (fun _ => key3 _ _ (by omega) (by omega))
      refine j_iload F dL_law_438 rfl ?_
      refine j_iconst F (v := 3) dL_law_440 (by decide) ?_
      refine j_icne F (tgt := 448) dL_law_441 (by decide) (fun w => ?_) (fun w => ?_)
      · refine j_iconst F (v := 0) dL_law_448 (by decide) ?_
        refine j_iload F dL_law_449 rfl ?_
        refine j_aloadn F dL_law_451 rfl ?_
        refine j_iload F dL_law_452 rfl ?_
        refine j_iconst F (v := 5) dL_law_454 (by decide) ?_
        refine j_tk F hw hst hG hC (t := t) h (by decide) (by decide) (z := v 23 t) tT5 dL_law_455 (Nat.le_of_ble_eq_true rfl) ⟨by omega, by omega⟩ ?_
        refine j_icne F (tgt := 465) dL_law_458 (by decide) (fun _ => ?_) (fun z => absurd (q2.mpr z) w)
        refine j_iconst F (v := 0) dL_law_465 (by decide) ?_
        refine j_icne F (tgt := 522) dL_law_466 (by decide) (fun z => absurd rfl z) (fun _ => key2 _ _ (by omega) (by omega))
      · refine j_iconst F (v := 1) dL_law_444 (by decide) ?_
        refine j_goto F (tgt := 449) dL_law_445 (by decide) ?_
        refine j_iload F dL_law_449 rfl ?_
        refine j_aloadn F dL_law_451 rfl ?_
        refine j_iload F dL_law_452 rfl ?_
        refine j_iconst F (v := 5) dL_law_454 (by decide) ?_
        refine j_tk F hw hst hG hC (t := t) h (by decide) (by decide) (z := v 23 t) tT5 dL_law_455 (Nat.le_of_ble_eq_true rfl) ⟨by omega, by omega⟩ ?_
        refine j_icne F (tgt := 465) dL_law_458 (by decide) (fun z => absurd (q2.mp w) z) (fun _ => ?_)
        refine j_iconst F (v := 1) dL_law_461 (by decide) ?_
        refine j_goto F (tgt := 466) dL_law_462 (by decide) ?_
        refine j_icne F (tgt := 522) dL_law_466 (by decide) (fun z => absurd rfl z) (fun _ => key2 _ _ (by omega) (by omega))
    refine j_aloadn F dL_law_349 rfl ?_
    refine j_iload F dL_law_350 rfl ?_
    refine j_iconst F (v := 0) dL_law_352 (by decide) ?_
    refine j_tk F hw hst hG hC (t := t) h (by decide) (by decide) (z := v 24 t) tT0 dL_law_353 (Nat.le_of_ble_eq_true rfl) ⟨by omega, by omega⟩ ?_
    refine j_istore F [some (.ref b), some (.ref ((G.1 0 0))), some (.ref dd), some (.int so), some (.int (nI time)), some (.int z5), some (.int z6), some (.int z7), some (.int z8), some (.int z9), some (.int z10), some (.int (sumI (v 26) t)), some (.int (nI t)), some (.int (v 24 t)), y14, y15] dL_law_356 rfl rfl rfl ?_
    refine j_aloadn F dL_law_358 rfl ?_
    refine j_iload F dL_law_359 rfl ?_
    refine j_iconst F (v := 1) dL_law_361 (by decide) ?_
    cases e : r 32 t with
    | none =>
      have h24 : ¬ v 24 t = 1 := fun z => (hI.1.2.2 t h).mp z e
      refine j_tk F hw hst hG hC (t := t) h (by decide) (by decide) (z := (-1)) (tdT_none e) dL_law_362 (Nat.le_of_ble_eq_true rfl) ⟨by omega, by omega⟩ ?_
      refine j_istore F [some (.ref b), some (.ref ((G.1 0 0))), some (.ref dd), some (.int so), some (.int (nI time)), some (.int z5), some (.int z6), some (.int z7), some (.int z8), some (.int z9), some (.int z10), some (.int (sumI (v 26) t)), some (.int (nI t)), some (.int (v 24 t)), some (.int ((-1))), y15] dL_law_365 rfl rfl rfl ?_
      refine j_iload F dL_law_367 rfl ?_
      refine j_iconst F (v := 1) dL_law_369 (by decide) ?_
      refine j_icne F (tgt := 377) dL_law_370 (by decide) (fun _ => ?_) (fun z => absurd z h24)
      refine j_iconst F (v := 0) dL_law_377 (by decide) ?_
      refine j_iload F dL_law_378 rfl ?_
      refine j_iflt F (tgt := 387) dL_law_380 (by decide) (fun _ => ?_) (fun z => absurd (show (-1 : Int32) < 0 by decide) z)
      refine j_iconst F (v := 0) dL_law_387 (by decide) ?_
      refine j_icne F (tgt := 408) dL_law_388 (by decide) (fun z => absurd rfl z) (fun _ => ?_)
      refine j_iload F dL_law_391 rfl ?_
      refine j_iflt F (tgt := 410) dL_law_393 (by decide) (fun _ => key _ _ _ _ (by omega) (by omega)) (fun z => absurd (show (-1 : Int32) < 0 by decide) z)
    | some a =>
      have h24 : v 24 t = 1 := (hI.1.2.2 t h).mpr (by rw [e]; intro z; cases z)
      obtain ⟨ha, h15⟩ := hI.1.2.1 t h a e
      refine j_tk F hw hst hG hC (t := t) h (by decide) (by decide) (z := nI a) (tdT_some e (g10 a ha)) dL_law_362 (Nat.le_of_ble_eq_true rfl) ⟨by omega, by omega⟩ ?_
      refine j_istore F [some (.ref b), some (.ref ((G.1 0 0))), some (.ref dd), some (.int so), some (.int (nI time)), some (.int z5), some (.int z6), some (.int z7), some (.int z8), some (.int z9), some (.int z10), some (.int (sumI (v 26) t)), some (.int (nI t)), some (.int (v 24 t)), some (.int (nI a)), y15] dL_law_365 rfl rfl rfl ?_
      refine j_iload F dL_law_367 rfl ?_
      refine j_iconst F (v := 1) dL_law_369 (by decide) ?_
      refine j_icne F (tgt := 377) dL_law_370 (by decide) (fun z => absurd h24 z) (fun _ => ?_)
      refine j_iconst F (v := 1) dL_law_373 (by decide) ?_
      refine j_goto F (tgt := 378) dL_law_374 (by decide) ?_
      refine j_iload F dL_law_378 rfl ?_
      refine j_iflt F (tgt := 387) dL_law_380 (by decide) (fun z => absurd z (nI_nlt (b := 0) (by omega) (by omega))) (fun _ => ?_)
      refine j_iconst F (v := 1) dL_law_383 (by decide) ?_
      refine j_goto F (tgt := 388) dL_law_384 (by decide) ?_
      refine j_icne F (tgt := 408) dL_law_388 (by decide) (fun z => absurd rfl z) (fun _ => ?_)
      refine j_iload F dL_law_391 rfl ?_
      refine j_iflt F (tgt := 410) dL_law_393 (by decide) (fun z => absurd z (nI_nlt (b := 0) (by omega) (by omega))) (fun _ => ?_)
      refine j_aloadn F dL_law_396 rfl ?_
      refine j_iload F dL_law_397 rfl ?_
      refine j_iconst F (v := 0) dL_law_399 (by decide) ?_
      refine j_ag F hw hst hG hC (t := a) ha (by decide) (by decide) (z := nI t) (tdA_some h15 (g20 t h)) dL_law_400 (Nat.le_of_ble_eq_true rfl) ⟨by omega, by omega⟩ ?_
      refine j_iload F dL_law_403 rfl ?_
      refine j_iceq F (tgt := 410) dL_law_405 (by decide) (fun _ => key _ _ _ _ (by omega) (by omega)) (fun z => absurd rfl z)
set_option maxRecDepth 100000 in
set_option maxHeartbeats 4000000 in
theorem law_M {k : Kx} (F : Fx k code RL room_1 16) (hw : kw k = true) (hst : (kl k).stackTraces = false) {b Ls : Nat} {xs : Nat → Int32} (hX : va_X b Ls xs (ks k) (ks k).heap) (hbl : b < (ks k).heap.size) (hbA : ¬ kA k b) (hL : Ls ≤ 260) {dd : Nat} {g : Nat → Int32} {G : CG} (hG : GI (kD k) G) (hna : nA G ≤ 4) (hnt1 : 1 ≤ nT G) (hnt : nT G ≤ 14) (g3 : g 3 = nI (nA G)) (g4 : g 4 = nI (nT G)) {o_ c_ : Nat} (hoc : o_ < c_) (hc24 : c_ ≤ 1440) (hret : ∀ (ws : va_W) (c n : Nat) (lv : List (Option Value)), c ≤ 600104 → n ≤ 7301314 → J k ws c n 562 lv [.int 1]) : ∀ (fu time m c n : Nat) (so : Int32) (K v : S2) (r : R2) (y5 y6 y7 y8 y9 y10 y11 y12 y13 y14 y15 : Option Value), 30 - time < fu → time ≤ 30 → m ≤ 9 * time → c ≤ 100 + 480 * time → n ≤ 2000 + 2900 * time → Iv (nA G) (nT G) K v r (25 + 20 * time : Int) (AN o_ c_ m : Int) (m : Int) so → CI G v r → GK (nA G) (nT G) g K → K 0 0 = nI m → K 0 1 = nI o_ → K 0 2 = nI c_ → J k (ain (kD k) dd 350 g :: CW (kD k) G v r) c n 28 [some (.ref b), some (.ref ((G.1 0 0))), some (.ref dd), some (.int so), some (.int (nI time)), y5, y6, y7, y8, y9, y10, y11, y12, y13, y14, y15] []
  | 0, time, m, c, n, so, K, v, r, y5, y6, y7, y8, y9, y10, y11, y12, y13, y14, y15, h1, h2, h3, h5, h6, hI, hC, hK, k0, k1, k2 => absurd h1 (Nat.not_lt_zero _)
  | fu + 1, time, m, c, n, so, K, v, r, y5, y6, y7, y8, y9, y10, y11, y12, y13, y14, y15, h1, h2, h3, h5, h6, hI, hC, hK, k0, k1, k2 => by
    refine j_iload F dL_law_28 rfl ?_
    refine j_bipush F (v := 30) dL_law_30 (by decide) ?_
    refine j_icgeN F (x := time) (y := 30) (tgt := 561) dL_law_32 (by decide) ⟨by omega, by omega⟩ (fun h => ?_) (fun h => ?_)
    · refine j_iconst F (v := 1) dL_law_561 (by decide) ?_
      exact hret _ _ _ _ (by omega) (by omega)
    refine law_A F hw hst hX hbl hbA hL hG hna hnt1 hnt g3 g4 hI hC k0 (by omega) (by omega) (by omega) (by omega) h (fun v r c' n' z5 z6 z7 z8 hI hC hc' hn' => ?_)
    refine j_iloadn F dL_law_197 rfl ?_
    refine j_aloadn F dL_law_198 rfl ?_
    refine j_iconst F (v := 1) dL_law_199 (by decide) ?_
    refine j_iload F dL_law_200 rfl ?_
    refine j_iconst F (v := 4) dL_law_202 (by decide) ?_
    refine j_ishr F dL_law_203 ?_
    refine j_bipush F (v := 9) dL_law_204 (by decide) ?_
    refine j_bel F hst (N := 9) (by omega) dL_law_206 ⟨(Nat.le_of_ble_eq_true rfl), (Nat.le_of_ble_eq_true rfl)⟩ (Nat.le_of_ble_eq_true rfl) ⟨(by show _ ≤ 600104; omega), (by show _ ≤ 7301314; omega)⟩ (fun j206 hj206 => ?_)
    refine j_iaddN F (a := 1) (b := j206) dL_law_209 ?_
    have hp := passE (na := nA G) (nt := nT G) (v := v) (r := r) (p := 1 + j206) (m := m) (by omega) (by omega) (by rw [hI.2.2.1.1, k0]) (by omega)
    have hI3 := hI.passL hoc hc24 k1 k2 k0 (1 + j206) (by omega)
    have hC3 := CI_passL hC (1 + j206)
    refine j_lc F hw (qX3_pass (kl k) hst (kD k) G v r (nI (1 + j206)) hG hC) lk_L_74 dL_law_210 ⟨(Nat.le_of_ble_eq_true rfl), (Nat.le_of_ble_eq_true rfl)⟩ rfl (Nat.le_of_ble_eq_true rfl) ⟨by show _ ≤ 600104; omega, by show _ ≤ 7301314; omega⟩ hp ?_
    generalize (C_passL (nA G) (nT G) v r (1 + j206)).1 = zz at hI3 ⊢
    generalize (C_passL (nA G) (nT G) v r (1 + j206)).2.1 = v3 at hI3 hC3 ⊢
    generalize (C_passL (nA G) (nT G) v r (1 + j206)).2.2 = r3 at hI3 hC3 ⊢
    refine j_iadd F dL_law_213 ?_
    refine j_istoren F [some (.ref b), some (.ref ((G.1 0 0))), some (.ref dd), some (.int (so + zz)), some (.int (nI time)), some (.int z5), some (.int z6), some (.int z7), some (.int z8), y9, y10, y11, y12, y13, y14, y15] dL_law_214 rfl rfl rfl ?_
    refine j_iconst F (v := 0) dL_law_215 (by decide) ?_
    refine j_istore F [some (.ref b), some (.ref ((G.1 0 0))), some (.ref dd), some (.int (so + zz)), some (.int (nI time)), some (.int z5), some (.int z6), some (.int z7), some (.int z8), some (.int 0), y10, y11, y12, y13, y14, y15] dL_law_216 rfl rfl rfl ?_
    refine j_iconst F (v := 0) dL_law_218 (by decide) ?_
    refine j_istore F [some (.ref b), some (.ref ((G.1 0 0))), some (.ref dd), some (.int (so + zz)), some (.int (nI time)), some (.int z5), some (.int z6), some (.int z7), some (.int z8), some (.int 0), some (.int 0), y11, y12, y13, y14, y15] dL_law_219 rfl rfl rfl ?_
    refine j_iconst F (v := 0) dL_law_221 (by decide) ?_
    refine j_istore F [some (.ref b), some (.ref ((G.1 0 0))), some (.ref dd), some (.int (so + zz)), some (.int (nI time)), some (.int z5), some (.int z6), some (.int z7), some (.int z8), some (.int 0), some (.int 0), some (.int 0), y12, y13, y14, y15] dL_law_222 rfl rfl rfl ?_
    have hK3 : GK (nA G) (nT G) g (u2 K 0 0 (nI (m + (1 + j206)))) := hK.tick
    refine law_C F hw hst hG hna hnt g3 g4 hI3 hC3 hK3 (c0 := c' + 1) (n0 := n' + 6) (by omega) (by omega) (fun c n y12 hc1 hn1 => ?_) (nA G + 1) 0 _ _ _ (by omega) (by omega) (by omega) (by omega)
    refine j_iload F dL_law_327 rfl ?_
    refine j_iloadn F dL_law_329 rfl ?_
    refine j_iceq F (tgt := 335) dL_law_330 (by decide) (fun _ => ?_) (fun z => absurd hI3.2.2.2.2 z)
    refine j_iconst F (v := 0) dL_law_335 (by decide) ?_
    refine j_istore F [some (.ref b), some (.ref ((G.1 0 0))), some (.ref dd), some (.int (so + zz)), some (.int (nI time)), some (.int z5), some (.int z6), some (.int z7), some (.int z8), some (.int (sumI (v3 16) (nA G))), some (.int (sumI (v3 17) (nA G))), some (.int 0), y12, y13, y14, y15] dL_law_336 rfl rfl rfl ?_
    refine j_iconst F (v := 0) dL_law_338 (by decide) ?_
    refine j_istore F [some (.ref b), some (.ref ((G.1 0 0))), some (.ref dd), some (.int (so + zz)), some (.int (nI time)), some (.int z5), some (.int z6), some (.int z7), some (.int z8), some (.int (sumI (v3 16) (nA G))), some (.int (sumI (v3 17) (nA G))), some (.int 0), some (.int 0), y13, y14, y15] dL_law_339 rfl rfl rfl ?_
    have p0 : u2 K 0 0 (nI (m + (1 + j206))) 0 0 = nI (m + (1 + j206)) := u2_same _ _ _ _
    have p1 : u2 K 0 0 (nI (m + (1 + j206))) 0 1 = nI o_ := by rw [u2_o (by decide)]; exact k1
    have p2 : u2 K 0 0 (nI (m + (1 + j206))) 0 2 = nI c_ := by rw [u2_o (by decide)]; exact k2
    refine law_D F hw hst hG hna hnt g3 g4 hI3 hC3 hK3 p0 p1 p2 hoc hc24 (by omega) (c0 := c' + 1 + 10 * nA G) (n0 := n' + 6 + 60 * nA G) (by omega) (by omega) (fun c2 n2 y13 y14 y15 hc2 hn2 => ?_) (nT G + 1) 0 _ _ _ _ _ (by omega) (by omega) (by omega) (by omega)
    refine j_iload F dL_law_546 rfl ?_
    refine j_iload F dL_law_548 rfl ?_
    refine j_iceq F (tgt := 555) dL_law_550 (by decide) (fun _ => ?_) (fun z => absurd hI3.2.2.2.1.symm z)
    refine j_iincN F [some (.ref b), some (.ref ((G.1 0 0))), some (.ref dd), some (.int (so + zz)), some (.int (nI (time + 1))), some (.int z5), some (.int z6), some (.int z7), some (.int z8), some (.int (sumI (v3 16) (nA G))), some (.int (sumI (v3 17) (nA G))), some (.int (sumI (v3 26) (nT G))), some (.int (nI (nT G))), y13, y14, y15] dL_law_555 rfl rfl rfl rfl ?_
    refine j_goto F (tgt := 28) dL_law_558 (by decide) ?_
    exact law_M F hw hst hX hbl hbA hL hG hna hnt1 hnt g3 g4 hoc hc24 hret fu (time + 1) (m + (1 + j206)) c2 n2 (so + zz) _ v3 r3 _ _ _ _ _ _ _ _ _ _ _ (by omega) (by omega) (by omega) (by omega) (by omega) (hI3.mono (by omega) (Int.le_refl _) (Int.le_refl _)) hC3 hK3 p0 p1 p2
