/-! THE LAW'S open AND build, by program -/
theorem j_iorN {k : Kx} {cc : ByteArray} {own : String} {R : Room} {nL : Nat} {ws : va_W} {c n pc : Nat} {lv : List (Option Value)} {st : List Value} (F : Fx k cc own R nL) {a e : Nat} (hd : decode cc pc = .ok (.ior, 1)) (K : J k ws c n (pc + 1) lv (.int (nI (a ||| e)) :: st)) : J k ws c n pc lv (.int (nI e) :: .int (nI a) :: st) := j_ior F hd (by rw [fa_or]; exact K)
set_option maxRecDepth 100000 in
set_option maxHeartbeats 4000000 in
theorem qL_open (l : Launch) (hst : l.stackTraces = false) (D : va_G) (G : CG) (v : S2) (r : R2) (dd : Nat) (g : Nat → Int32) (x : Int32) (hG : GI D G) (hC : CI G v r) (hB : BI (nA G) (nT G) g v r) (hna : nA G ≤ 4) (hnt : nT G < 14) (h4 : g 4 = nI (nT G)) : CM l D yL_open cL_open 4 (some .boolean) 8 226 2 45 (ain D dd 350 g :: CW D G v r) [.ref (G.1 0 0), .ref dd, .int x] (fun u w => u = some (.int (b1 true)) ∧ ∃ g' G' v' r', w = ain D dd 350 g' :: CW D G' v' r' ∧ Gx D G G' 0 1 ∧ CI G' v' r' ∧ BI (nA G') (nT G') g' v' r' ∧ g' 3 = g 3 ∧ g' 4 = nI (nT G + 1) ∧ v' 0 = v 0) := by
  refine CM_of [some (.ref (G.1 0 0)), some (.ref dd), some (.int x), none] hst (by decide +kernel) rfl (Nat.le_of_ble_eq_true rfl) (fun k F hl hD _ hR => ?_)
  subst hl hD
  refine j_bipush F (v := 70) dL_open_0 (by decide) ?_
  refine j_bipush F (v := 14) dL_open_2 (by decide) ?_
  refine j_aloadn F dL_open_4 rfl ?_
  refine j_iconst F (v := 4) dL_open_5 (by decide) ?_
  refine j_dld F (i := 4) (z := nI (nT G)) dL_open_6 (by omega) h4 ?_
  refine j_imulN F (a := 14) (e := nT G) dL_open_7 ?_
  refine j_iaddN F (a := 70) (b := 14 * (nT G)) dL_open_8 ?_
  refine j_istoren F [some (.ref (G.1 0 0)), some (.ref dd), some (.int x), some (.int (nI (70 + (14 * (nT G)))))] dL_open_9 rfl rfl rfl ?_
  refine j_aloadn F dL_open_10 rfl ?_
  refine j_iloadn F dL_open_11 rfl ?_
  refine j_iloadn F dL_open_12 rfl ?_
  refine j_iconst F (v := 3) dL_open_13 (by decide) ?_
  refine j_bel F hst (N := 3) (by omega) dL_open_14 ⟨(Nat.le_of_ble_eq_true rfl), (Nat.le_of_ble_eq_true rfl)⟩ (Nat.le_of_ble_eq_true rfl) ⟨(Nat.le_of_ble_eq_true rfl), (Nat.le_of_ble_eq_true rfl)⟩ (fun j14 hj14 => ?_)
  refine j_dst F hR.1 (i := 70 + (14 * (nT G))) dL_open_17 (by omega) (fun g17 hg17 => ?_)
  refine j_aloadn F dL_open_18 rfl ?_
  refine j_iloadn F dL_open_19 rfl ?_
  refine j_iconst F (v := 1) dL_open_20 (by decide) ?_
  refine j_iaddN F (a := 70 + (14 * (nT G))) (b := 1) dL_open_21 ?_
  refine j_iloadn F dL_open_22 rfl ?_
  refine j_iconst F (v := 2) dL_open_23 (by decide) ?_
  refine j_ishr F dL_open_24 ?_
  refine j_iconst F (v := 4) dL_open_25 (by decide) ?_
  refine j_bel F hst (N := 4) (by omega) dL_open_26 ⟨(Nat.le_of_ble_eq_true rfl), (Nat.le_of_ble_eq_true rfl)⟩ (Nat.le_of_ble_eq_true rfl) ⟨(Nat.le_of_ble_eq_true rfl), (Nat.le_of_ble_eq_true rfl)⟩ (fun j26 hj26 => ?_)
  refine j_dst F hR.1 (i := (70 + (14 * (nT G))) + 1) dL_open_29 (by omega) (fun g29 hg29 => ?_)
  refine j_aloadn F dL_open_30 rfl ?_
  refine j_iloadn F dL_open_31 rfl ?_
  refine j_iconst F (v := 2) dL_open_32 (by decide) ?_
  refine j_iaddN F (a := 70 + (14 * (nT G))) (b := 2) dL_open_33 ?_
  refine j_iconst F (v := 1) dL_open_34 (by decide) ?_
  refine j_iloadn F dL_open_35 rfl ?_
  refine j_iconst F (v := 4) dL_open_36 (by decide) ?_
  refine j_ishr F dL_open_37 ?_
  refine j_bipush F (v := 25) dL_open_38 (by decide) ?_
  refine j_bel F hst (N := 25) (by omega) dL_open_40 ⟨(Nat.le_of_ble_eq_true rfl), (Nat.le_of_ble_eq_true rfl)⟩ (Nat.le_of_ble_eq_true rfl) ⟨(Nat.le_of_ble_eq_true rfl), (Nat.le_of_ble_eq_true rfl)⟩ (fun j40 hj40 => ?_)
  refine j_iaddN F (a := 1) (b := j40) dL_open_43 ?_
  refine j_dst F hR.1 (i := (70 + (14 * (nT G))) + 2) dL_open_44 (by omega) (fun g44 hg44 => ?_)
  refine j_aloadn F dL_open_45 rfl ?_
  refine j_iloadn F dL_open_46 rfl ?_
  refine j_iconst F (v := 3) dL_open_47 (by decide) ?_
  refine j_iaddN F (a := 70 + (14 * (nT G))) (b := 3) dL_open_48 ?_
  refine j_iloadn F dL_open_49 rfl ?_
  refine j_bipush F (v := 7) dL_open_50 (by decide) ?_
  refine j_ishr F dL_open_52 ?_
  refine j_bipush F (v := 10) dL_open_53 (by decide) ?_
  refine j_bel F hst (N := 10) (by omega) dL_open_55 ⟨(Nat.le_of_ble_eq_true rfl), (Nat.le_of_ble_eq_true rfl)⟩ (Nat.le_of_ble_eq_true rfl) ⟨(Nat.le_of_ble_eq_true rfl), (Nat.le_of_ble_eq_true rfl)⟩ (fun j55 hj55 => ?_)
  refine j_dst F hR.1 (i := (70 + (14 * (nT G))) + 3) dL_open_58 (by omega) (fun g58 hg58 => ?_)
  refine j_aloadn F dL_open_59 rfl ?_
  refine j_iloadn F dL_open_60 rfl ?_
  refine j_bipush F (v := 7) dL_open_61 (by decide) ?_
  refine j_iaddN F (a := 70 + (14 * (nT G))) (b := 7) dL_open_63 ?_
  refine j_iconst F (v := (-1)) dL_open_64 (by decide) ?_
  refine j_dst F hR.1 (i := (70 + (14 * (nT G))) + 7) dL_open_65 (by omega) (fun g65 hg65 => ?_)
  refine j_aloadn F dL_open_66 rfl ?_
  refine j_iloadn F dL_open_67 rfl ?_
  refine j_bipush F (v := 8) dL_open_68 (by decide) ?_
  refine j_iaddN F (a := 70 + (14 * (nT G))) (b := 8) dL_open_70 ?_
  refine j_iconst F (v := (-1)) dL_open_71 (by decide) ?_
  refine j_dst F hR.1 (i := (70 + (14 * (nT G))) + 8) dL_open_72 (by omega) (fun g72 hg72 => ?_)
  refine j_aloadn F dL_open_73 rfl ?_
  refine j_iconst F (v := 4) dL_open_74 (by decide) ?_
  refine j_dup2 F dL_open_75 rfl rfl ?_
  refine j_dld F (i := 4) (z := nI (nT G)) dL_open_76 (by omega) (by rw [hg72, upd_ne (by omega), hg65, upd_ne (by omega), hg58, upd_ne (by omega), hg44, upd_ne (by omega), hg29, upd_ne (by omega), hg17, upd_ne (by omega)]; exact h4) ?_
  refine j_iconst F (v := 1) dL_open_77 (by decide) ?_
  refine j_iaddN F (a := nT G) (b := 1) dL_open_78 ?_
  refine j_dst F hR.1 (i := 4) dL_open_79 (by omega) (fun g79 hg79 => ?_)
  refine j_aloadn F dL_open_80 rfl ?_
  refine j_aloadn F dL_open_81 rfl ?_
  refine j_iloadn F dL_open_82 rfl ?_
  refine j_dld F (i := 70 + (14 * (nT G))) (z := nI j14) dL_open_83 (by omega) (by rw [hg79, upd_ne (by omega), hg72, upd_ne (by omega), hg65, upd_ne (by omega), hg58, upd_ne (by omega), hg44, upd_ne (by omega), hg29, upd_ne (by omega), hg17, upd_self]) ?_
  refine j_aloadn F dL_open_84 rfl ?_
  refine j_iloadn F dL_open_85 rfl ?_
  refine j_iconst F (v := 1) dL_open_86 (by decide) ?_
  refine j_iaddN F (a := 70 + (14 * (nT G))) (b := 1) dL_open_87 ?_
  refine j_dld F (i := (70 + (14 * (nT G))) + 1) (z := nI j26) dL_open_88 (by omega) (by rw [hg79, upd_ne (by omega), hg72, upd_ne (by omega), hg65, upd_ne (by omega), hg58, upd_ne (by omega), hg44, upd_ne (by omega), hg29, upd_self]) ?_
  refine j_aloadn F dL_open_89 rfl ?_
  refine j_iloadn F dL_open_90 rfl ?_
  refine j_iconst F (v := 2) dL_open_91 (by decide) ?_
  refine j_iaddN F (a := 70 + (14 * (nT G))) (b := 2) dL_open_92 ?_
  refine j_dld F (i := (70 + (14 * (nT G))) + 2) (z := nI (1 + j40)) dL_open_93 (by omega) (by rw [hg79, upd_ne (by omega), hg72, upd_ne (by omega), hg65, upd_ne (by omega), hg58, upd_ne (by omega), hg44, upd_self]) ?_
  refine j_aloadn F dL_open_94 rfl ?_
  refine j_iloadn F dL_open_95 rfl ?_
  refine j_iconst F (v := 3) dL_open_96 (by decide) ?_
  refine j_iaddN F (a := 70 + (14 * (nT G))) (b := 3) dL_open_97 ?_
  refine j_dld F (i := (70 + (14 * (nT G))) + 3) (z := nI j55) dL_open_98 (by omega) (by rw [hg79, upd_ne (by omega), hg72, upd_ne (by omega), hg65, upd_ne (by omega), hg58, upd_self]) ?_
  have hE := openE (na := nA G) (nt := nT G) (v := v) (r := r) (a := j14) (p := j26) (e := 1 + j40) (q := j55) (by omega) (by omega) (by omega) (by omega) (by omega)
  refine j_lcx F hR.1 (qX3_open (kl k) hst (kD k) G v r (nI j14) (nI j26) (nI (1 + j40)) (nI j55) hG hC) lk_L_37 dL_open_99 ⟨(Nat.le_of_ble_eq_true rfl), (Nat.le_of_ble_eq_true rfl)⟩ rfl (Nat.le_of_ble_eq_true rfl) ⟨(Nat.le_of_ble_eq_true rfl), (Nat.le_of_ble_eq_true rfl)⟩ (fun E h => h.1 (by rw [hE])) (fun u w h => ?_)
  obtain ⟨_, G', hx, rfl, rfl⟩ := h
  rw [hE]
  refine j_st [.int (nI (nT G))] rfl ?_
  refine j_aloadn F dL_open_102 rfl ?_
  refine j_iconst F (v := 4) dL_open_103 (by decide) ?_
  refine j_dld F (i := 4) (z := nI ((nT G) + 1)) dL_open_104 (by omega) (by rw [hg79, upd_self]) ?_
  refine j_iconst F (v := 1) dL_open_105 (by decide) ?_
  refine j_isubN F (a := (nT G) + 1) (e := 1) dL_open_106 (by omega) ?_
  refine j_icne F (tgt := 114) dL_open_107 (by decide) (fun z => absurd (congrArg nI (show nT G = nT G + 1 - 1 by omega)) z) (fun _ => ?_)
  refine j_iconst F (v := 1) dL_open_110 (by decide) ?_
  refine j_goto F (tgt := 115) dL_open_111 (by decide) ?_
  refine j_zret F (b := true) hR dL_open_115 (Nat.le_of_ble_eq_true rfl) (Nat.le_of_ble_eq_true rfl) rfl ⟨rfl, g79, G', _, _, rfl, hx, CI_nT hx hC (vp_in_nI (by omega) (by decide)), ?_, ?_, (by rw [hg79, upd_self]), rfl⟩
  · rw [hx.2.1, hx.2.2.1]
    exact hB.nT (fun a q => by rw [hg79, upd_ne (by omega), hg72, upd_ne (by omega), hg65, upd_ne (by omega), hg58, upd_ne (by omega), hg44, upd_ne (by omega), hg29, upd_ne (by omega), hg17, upd_ne (by omega)]) (fun t q => by rw [hg79, upd_ne (by omega), hg72, upd_ne (by omega), hg65, upd_ne (by omega), hg58, upd_ne (by omega), hg44, upd_ne (by omega), hg29, upd_ne (by omega), hg17, upd_ne (by omega)]) (by rw [hg79, upd_ne (by omega), hg72, upd_ne (by omega), hg65, upd_ne (by omega), hg58, upd_ne (by omega), hg44, upd_ne (by omega), hg29, upd_ne (by omega), hg17, upd_self]) (vp_in_nI (by omega) (by decide)) ⟨by rw [nI_toInt (by omega)]; omega, by rw [nI_toInt (by omega)]; omega⟩
  · rw [hg79, upd_ne (by omega), hg72, upd_ne (by omega), hg65, upd_ne (by omega), hg58, upd_ne (by omega), hg44, upd_ne (by omega), hg29, upd_ne (by omega), hg17, upd_ne (by omega)]
set_option maxRecDepth 100000 in
set_option maxHeartbeats 4000000 in
theorem bld_L1 {k : Kx} (F : Fx k cL_build RL (rm4 9 42 1190 249) 8) (hw : kw k = true) (hst : (kl k).stackTraces = false) {b Ls : Nat} {xs : Nat → Int32} (hX : va_X b Ls xs (ks k) (ks k).heap) (hbl : b < (ks k).heap.size) (hbA : ¬ kA k b) (hL : Ls ≤ 260) {dd : Nat} {v00 : Nat → Int32} {x5 : Int32} {G : CG} {r : R2} (K : ∀ (g : Nat → Int32) (v : S2) (c n : Nat), g 4 = 0 → v 0 = v00 → CI G v r → c ≤ 6 → n ≤ 380 → J k (ain (kD k) dd 350 g :: CW (kD k) G v r) c n 187 [some (.ref (G.1 0 0)), some (.ref b), some (.int 0), some (.int 14), some (.ref dd), some (.int x5), some (.int (nI 4)), none] []) : ∀ (fu p : Nat) (g : Nat → Int32) (v : S2) (c n : Nat), 4 - p < fu → p ≤ 4 → (∀ q, p ≤ q → q < 4 → v 2 q = C_sol0 q) → g 4 = 0 → v 0 = v00 → CI G v r → c ≤ 2 + p → n ≤ 356 + 6 * p → J k (ain (kD k) dd 350 g :: CW (kD k) G v r) c n 66 [some (.ref (G.1 0 0)), some (.ref b), some (.int 0), some (.int 14), some (.ref dd), some (.int x5), some (.int (nI p)), none] []
  | 0, p, g, v, c, n, h1, h2, hs2, h4, hv, hC, h5, h6 => absurd h1 (Nat.not_lt_zero _)
  | fu + 1, p, g, v, c, n, h1, h2, hs2, h4, hv, hC, h5, h6 => by
    refine j_iload F dL_build_66 rfl ?_
    refine j_iconst F (v := 4) dL_build_68 (by decide) ?_
    refine j_icgeN F (x := p) (y := 4) (tgt := 187) dL_build_69 (by decide) ⟨by omega, by omega⟩ (fun h => ?_) (fun h => ?_)
    · obtain rfl : p = 4 := by omega
      exact K g v c n h4 hv hC (by omega) (by omega)
    refine j_aload F dL_build_72 rfl ?_
    refine j_bipush F (v := 10) dL_build_74 (by decide) ?_
    refine j_iconst F (v := 2) dL_build_76 (by decide) ?_
    refine j_iload F dL_build_77 rfl ?_
    refine j_imulN F (a := 2) (e := p) dL_build_79 ?_
    refine j_iaddN F (a := 10) (b := 2 * p) dL_build_80 ?_
    refine j_iconst F (v := 2) dL_build_81 (by decide) ?_
    refine j_iload F dL_build_82 rfl ?_
    refine j_iconst F (v := 3) dL_build_84 (by decide) ?_
    refine j_iconst F (v := 5) dL_build_85 (by decide) ?_
    refine j_iload F dL_build_86 rfl ?_
    refine j_imulN F (a := 5) (e := p) dL_build_88 ?_
    refine j_iaddN F (a := 3) (b := 5 * p) dL_build_89 ?_
    refine j_ishr F dL_build_90 ?_
    refine j_bipush F (v := 12) dL_build_91 (by decide) ?_
    refine j_bel F hst (N := 12) (by omega) dL_build_93 ⟨(Nat.le_of_ble_eq_true rfl), (Nat.le_of_ble_eq_true rfl)⟩ (Nat.le_of_ble_eq_true rfl) ⟨(by show c ≤ 42; omega), (by show n ≤ 1190; omega)⟩ (fun j93 hj93 => ?_)
    refine j_iload F dL_build_96 rfl ?_
    refine j_iconst F (v := 1) dL_build_98 (by decide) ?_
    refine j_iaddN F (a := p) (b := 1) dL_build_99 ?_
    refine j_imulN F (a := j93) (e := p + 1) dL_build_100 ?_
    refine j_iaddN F (a := 2) (b := j93 * (p + 1)) dL_build_101 ?_
    refine j_dst F hw (i := 10 + (2 * p)) dL_build_102 (by omega) (fun g102 hg102 => ?_)
    refine j_aload F dL_build_103 rfl ?_
    refine j_bipush F (v := 11) dL_build_105 (by decide) ?_
    refine j_iconst F (v := 2) dL_build_107 (by decide) ?_
    refine j_iload F dL_build_108 rfl ?_
    refine j_imulN F (a := 2) (e := p) dL_build_110 ?_
    refine j_iaddN F (a := 11) (b := 2 * p) dL_build_111 ?_
    refine j_aload F dL_build_112 rfl ?_
    refine j_bipush F (v := 10) dL_build_114 (by decide) ?_
    refine j_iconst F (v := 2) dL_build_116 (by decide) ?_
    refine j_iload F dL_build_117 rfl ?_
    refine j_imulN F (a := 2) (e := p) dL_build_119 ?_
    refine j_iaddN F (a := 10) (b := 2 * p) dL_build_120 ?_
    refine j_dld F (i := 10 + (2 * p)) (z := nI (2 + (j93 * (p + 1)))) dL_build_121 (by omega) (by rw [hg102, upd_self]) ?_
    refine j_iload F dL_build_122 rfl ?_
    refine j_bipush F (v := 6) dL_build_124 (by decide) ?_
    refine j_iconst F (v := 5) dL_build_126 (by decide) ?_
    refine j_iload F dL_build_127 rfl ?_
    refine j_imulN F (a := 5) (e := p) dL_build_129 ?_
    refine j_iaddN F (a := 6) (b := 5 * p) dL_build_130 ?_
    refine j_ishr F dL_build_131 ?_
    refine j_bipush F (v := 30) dL_build_132 (by decide) ?_
    refine j_bel F hst (N := 30) (by omega) dL_build_134 ⟨(Nat.le_of_ble_eq_true rfl), (Nat.le_of_ble_eq_true rfl)⟩ (Nat.le_of_ble_eq_true rfl) ⟨(by show c ≤ 42; omega), (by show n ≤ 1190; omega)⟩ (fun j134 hj134 => ?_)
    refine j_iload F dL_build_137 rfl ?_
    refine j_iconst F (v := 1) dL_build_139 (by decide) ?_
    refine j_iaddN F (a := p) (b := 1) dL_build_140 ?_
    refine j_imulN F (a := j134) (e := p + 1) dL_build_141 ?_
    refine j_iaddN F (a := 2 + (j93 * (p + 1))) (b := j134 * (p + 1)) dL_build_142 ?_
    refine j_dst F hw (i := 11 + (2 * p)) dL_build_143 (by omega) (fun g143 hg143 => ?_)
    refine j_aloadn F dL_build_144 rfl ?_
    refine j_iload F dL_build_145 rfl ?_
    refine j_aload F dL_build_147 rfl ?_
    refine j_bipush F (v := 10) dL_build_149 (by decide) ?_
    refine j_iconst F (v := 2) dL_build_151 (by decide) ?_
    refine j_iload F dL_build_152 rfl ?_
    refine j_imulN F (a := 2) (e := p) dL_build_154 ?_
    refine j_iaddN F (a := 10) (b := 2 * p) dL_build_155 ?_
    refine j_dld F (i := 10 + (2 * p)) (z := nI (2 + (j93 * (p + 1)))) dL_build_156 (by omega) (by rw [hg143, upd_ne (by omega), hg102, upd_self]) ?_
    refine j_aload F dL_build_157 rfl ?_
    refine j_bipush F (v := 11) dL_build_159 (by decide) ?_
    refine j_iconst F (v := 2) dL_build_161 (by decide) ?_
    refine j_iload F dL_build_162 rfl ?_
    refine j_imulN F (a := 2) (e := p) dL_build_164 ?_
    refine j_iaddN F (a := 11) (b := 2 * p) dL_build_165 ?_
    refine j_dld F (i := 11 + (2 * p)) (z := nI ((2 + (j93 * (p + 1))) + (j134 * (p + 1)))) dL_build_166 (by omega) (by rw [hg143, upd_self]) ?_
    have hq1 : j93 * (p + 1) ≤ 11 * 4 := Nat.mul_le_mul (by omega) (by omega)
    have hq2 : j134 * (p + 1) ≤ 29 * 4 := Nat.mul_le_mul (by omega) (by omega)
    have hE := setTargetsE (na := nA G) (nt := nT G) (v := v) (r := r) (p := p) (a := 2 + (j93 * (p + 1))) (s := (2 + (j93 * (p + 1))) + (j134 * (p + 1))) h (by omega) (by omega) (by omega)
    refine j_lc F hw (qX3_setTargets (kl k) hst (kD k) G v r (nI p) (nI (2 + (j93 * (p + 1)))) (nI ((2 + (j93 * (p + 1))) + (j134 * (p + 1))))) lk_L_25 dL_build_167 ⟨(Nat.le_of_ble_eq_true rfl), (Nat.le_of_ble_eq_true rfl)⟩ rfl (Nat.le_of_ble_eq_true rfl) ⟨by show c + 1 ≤ 42; omega, by show n + 6 ≤ 1190; omega⟩ hE ?_
    refine j_sipush F (v := 240) dL_build_170 (by decide) ?_
    refine j_iload F dL_build_173 rfl ?_
    refine j_ishl F dL_build_175 ?_
    refine j_iceq F (tgt := 181) dL_build_176 (by decide) (fun _ => ?_) (fun z => absurd ((hs2 p (Nat.le_refl p) h).trans (shl_sol p h).symm) z)
    refine j_iincN F [some (.ref ((G.1 0 0))), some (.ref b), some (.int 0), some (.int 14), some (.ref dd), some (.int x5), some (.int (nI (p + 1))), none] dL_build_181 rfl rfl rfl rfl ?_
    refine j_goto F (tgt := 66) dL_build_184 (by decide) ?_
    exact bld_L1 F hw hst hX hbl hbA hL K fu (p + 1) g143 _ _ _ (by omega) (by omega) (fun q q1 q2 => by rw [u2_o (by omega), u2_o (by omega)]; exact hs2 q (by omega) q2) (by rw [hg143, upd_ne (by omega), hg102, upd_ne (by omega)]; exact h4) (by rw [u2_ne1 (by decide), u2_ne1 (by decide)]; exact hv) (CI_v (by decide) (CI_v (by decide) hC)) (by omega) (by omega)
set_option maxRecDepth 100000 in
set_option maxHeartbeats 4000000 in
theorem bld_L2 {k : Kx} (F : Fx k cL_build RL (rm4 9 42 1190 249) 8) (hw : kw k = true) (hst : (kl k).stackTraces = false) {b Ls : Nat} {xs : Nat → Int32} (hX : va_X b Ls xs (ks k) (ks k).heap) (hbl : b < (ks k).heap.size) (hbA : ¬ kA k b) (hL : Ls ≤ 260) {dd h0 : Nat} {v00 : Nat → Int32} {x5 : Int32} {m3 : Nat} (hm3 : m3 ≤ 4) (K : ∀ (G : CG) (g : Nat → Int32) (v : S2) (r : R2) (c n : Nat) (x7 : Option Value), nA G = m3 → nT G = 0 → GI (kD k) G → G.1 0 0 = h0 → CI G v r → BI (nA G) 0 g v r → g 3 = nI m3 → g 4 = 0 → v 0 = v00 → c ≤ 14 → n ≤ 560 → J k (ain (kD k) dd 350 g :: CW (kD k) G v r) c n 410 [some (.ref h0), some (.ref b), some (.int 0), some (.int 14), some (.ref dd), some (.int x5), some (.int (nI (nA G))), x7] []) : ∀ (fu : Nat) (G : CG) (g : Nat → Int32) (v : S2) (r : R2) (c n : Nat) (x7 : Option Value), m3 - nA G < fu → nA G ≤ m3 → nT G = 0 → GI (kD k) G → G.1 0 0 = h0 → CI G v r → BI (nA G) 0 g v r → g 3 = nI m3 → g 4 = 0 → v 0 = v00 → c ≤ 6 + 2 * nA G → n ≤ 380 + 45 * nA G → J k (ain (kD k) dd 350 g :: CW (kD k) G v r) c n 207 [some (.ref h0), some (.ref b), some (.int 0), some (.int 14), some (.ref dd), some (.int x5), some (.int (nI (nA G))), x7] []
  | 0, G, g, v, r, c, n, x7, h1, h2, ht0, hG, hg0, hC, hB, h3, h4, hv, h5, h6 => absurd h1 (Nat.not_lt_zero _)
  | fu + 1, G, g, v, r, c, n, x7, h1, h2, ht0, hG, hg0, hC, hB, h3, h4, hv, h5, h6 => by
    subst hg0
    refine j_iload F dL_build_207 rfl ?_
    refine j_aload F dL_build_209 rfl ?_
    refine j_iconst F (v := 3) dL_build_211 (by decide) ?_
    refine j_dld F (i := 3) (z := nI m3) dL_build_212 (by omega) h3 ?_
    refine j_icgeN F (x := nA G) (y := m3) (tgt := 410) dL_build_213 (by decide) ⟨by omega, by omega⟩ (fun h => ?_) (fun h => ?_)
    · exact K G g v r c n _ (by omega) ht0 hG rfl hC hB h3 h4 hv (by omega) (by omega)
    refine j_aloadn F dL_build_216 rfl ?_
    refine j_iloadn F dL_build_217 rfl ?_
    refine j_iconst F (v := 1) dL_build_218 (by decide) ?_
    refine j_iaddN F (a := 0) (b := 1) dL_build_219 ?_
    refine j_cel F hst hX hbl hbA hL (i := 0 + 1) (by omega) dL_build_220 ⟨(Nat.le_of_ble_eq_true rfl), (Nat.le_of_ble_eq_true rfl)⟩ (Nat.le_of_ble_eq_true rfl) ⟨(by show c ≤ 42; omega), (by show n ≤ 1190; omega)⟩ (fun x220 => ?_)
    refine j_iconst F (v := 2) dL_build_223 (by decide) ?_
    refine j_bipush F (v := 7) dL_build_224 (by decide) ?_
    refine j_iload F dL_build_226 rfl ?_
    refine j_imulN F (a := 7) (e := nA G) dL_build_228 ?_
    refine j_iaddN F (a := 2) (b := 7 * (nA G)) dL_build_229 ?_
    refine j_ishr F dL_build_230 ?_
    refine j_istore F [some (.ref ((G.1 0 0))), some (.ref b), some (.int 0), some (.int 14), some (.ref dd), some (.int x5), some (.int (nI (nA G))), some (.int (x220 >>> ((nI (2 + (7 * (nA G)))) &&& 31)))] dL_build_231 rfl rfl rfl ?_
    refine j_aload F dL_build_233 rfl ?_
    refine j_bipush F (v := 20) dL_build_235 (by decide) ?_
    refine j_bipush F (v := 8) dL_build_237 (by decide) ?_
    refine j_iload F dL_build_239 rfl ?_
    refine j_imulN F (a := 8) (e := nA G) dL_build_241 ?_
    refine j_iaddN F (a := 20) (b := 8 * (nA G)) dL_build_242 ?_
    refine j_iconst F (v := 1) dL_build_243 (by decide) ?_
    refine j_iload F dL_build_244 rfl ?_
    refine j_bipush F (v := 8) dL_build_246 (by decide) ?_
    refine j_bel F hst (N := 8) (by omega) dL_build_248 ⟨(Nat.le_of_ble_eq_true rfl), (Nat.le_of_ble_eq_true rfl)⟩ (Nat.le_of_ble_eq_true rfl) ⟨(by show c ≤ 42; omega), (by show n ≤ 1190; omega)⟩ (fun j248 hj248 => ?_)
    refine j_iorN F (a := 1) (e := j248) dL_build_251 ?_
    refine j_dst F hw (i := 20 + (8 * (nA G))) dL_build_252 (by omega) (fun g252 hg252 => ?_)
    refine j_aload F dL_build_253 rfl ?_
    refine j_bipush F (v := 21) dL_build_255 (by decide) ?_
    refine j_bipush F (v := 8) dL_build_257 (by decide) ?_
    refine j_iload F dL_build_259 rfl ?_
    refine j_imulN F (a := 8) (e := nA G) dL_build_261 ?_
    refine j_iaddN F (a := 21) (b := 8 * (nA G)) dL_build_262 ?_
    refine j_iload F dL_build_263 rfl ?_
    refine j_iconst F (v := 3) dL_build_265 (by decide) ?_
    refine j_ishr F dL_build_266 ?_
    refine j_bipush F (v := 6) dL_build_267 (by decide) ?_
    refine j_bel F hst (N := 6) (by omega) dL_build_269 ⟨(Nat.le_of_ble_eq_true rfl), (Nat.le_of_ble_eq_true rfl)⟩ (Nat.le_of_ble_eq_true rfl) ⟨(by show c ≤ 42; omega), (by show n ≤ 1190; omega)⟩ (fun j269 hj269 => ?_)
    have ho8 : 1 ||| j248 < 2 ^ 3 := Nat.or_lt_two_pow (by decide) (by omega)
    have key : ∀ w : Nat, 1 ≤ w → w ≤ 127 → J k (ain (kD k) dd 350 g252 :: CW (kD k) G v r) c n 281 [some (.ref ((G.1 0 0))), some (.ref b), some (.int 0), some (.int 14), some (.ref dd), some (.int x5), some (.int (nI (nA G))), some (.int (x220 >>> ((nI (2 + (7 * (nA G)))) &&& 31)))] [.int (nI w), .int (nI (21 + (8 * (nA G)))), .ref dd] := by
      intro w hw1 hw2
      refine j_dst F hw (i := 21 + (8 * (nA G))) dL_build_281 (by omega) (fun g281 hg281 => ?_)
      refine j_aload F dL_build_282 rfl ?_
      refine j_bipush F (v := 22) dL_build_284 (by decide) ?_
      refine j_bipush F (v := 8) dL_build_286 (by decide) ?_
      refine j_iload F dL_build_288 rfl ?_
      refine j_imulN F (a := 8) (e := nA G) dL_build_290 ?_
      refine j_iaddN F (a := 22) (b := 8 * (nA G)) dL_build_291 ?_
      refine j_iload F dL_build_292 rfl ?_
      refine j_iconst F (v := 4) dL_build_294 (by decide) ?_
      refine j_ishr F dL_build_295 ?_
      refine j_bipush F (v := 25) dL_build_296 (by decide) ?_
      refine j_bel F hst (N := 25) (by omega) dL_build_298 ⟨(Nat.le_of_ble_eq_true rfl), (Nat.le_of_ble_eq_true rfl)⟩ (Nat.le_of_ble_eq_true rfl) ⟨(by show c ≤ 42; omega), (by show n ≤ 1190; omega)⟩ (fun j298 hj298 => ?_)
      refine j_dst F hw (i := 22 + (8 * (nA G))) dL_build_301 (by omega) (fun g301 hg301 => ?_)
      refine j_aload F dL_build_302 rfl ?_
      refine j_bipush F (v := 23) dL_build_304 (by decide) ?_
      refine j_bipush F (v := 8) dL_build_306 (by decide) ?_
      refine j_iload F dL_build_308 rfl ?_
      refine j_imulN F (a := 8) (e := nA G) dL_build_310 ?_
      refine j_iaddN F (a := 23) (b := 8 * (nA G)) dL_build_311 ?_
      refine j_aload F dL_build_312 rfl ?_
      refine j_bipush F (v := 22) dL_build_314 (by decide) ?_
      refine j_bipush F (v := 8) dL_build_316 (by decide) ?_
      refine j_iload F dL_build_318 rfl ?_
      refine j_imulN F (a := 8) (e := nA G) dL_build_320 ?_
      refine j_iaddN F (a := 22) (b := 8 * (nA G)) dL_build_321 ?_
      refine j_dld F (i := 22 + (8 * (nA G))) (z := nI j298) dL_build_322 (by omega) (by rw [hg301, upd_self]) ?_
      refine j_bipush F (v := 15) dL_build_323 (by decide) ?_
      refine j_iaddN F (a := j298) (b := 15) dL_build_325 ?_
      refine j_iload F dL_build_326 rfl ?_
      refine j_iconst F (v := 5) dL_build_328 (by decide) ?_
      refine j_ishr F dL_build_329 ?_
      refine j_bipush F (v := 80) dL_build_330 (by decide) ?_
      refine j_bel F hst (N := 80) (by omega) dL_build_332 ⟨(Nat.le_of_ble_eq_true rfl), (Nat.le_of_ble_eq_true rfl)⟩ (Nat.le_of_ble_eq_true rfl) ⟨(by show c ≤ 42; omega), (by show n ≤ 1190; omega)⟩ (fun j332 hj332 => ?_)
      refine j_iaddN F (a := j298 + 15) (b := j332) dL_build_335 ?_
      refine j_dst F hw (i := 23 + (8 * (nA G))) dL_build_336 (by omega) (fun g336 hg336 => ?_)
      refine j_aload F dL_build_337 rfl ?_
      refine j_bipush F (v := 24) dL_build_339 (by decide) ?_
      refine j_bipush F (v := 8) dL_build_341 (by decide) ?_
      refine j_iload F dL_build_343 rfl ?_
      refine j_imulN F (a := 8) (e := nA G) dL_build_345 ?_
      refine j_iaddN F (a := 24) (b := 8 * (nA G)) dL_build_346 ?_
      refine j_iconst F (v := (-1)) dL_build_347 (by decide) ?_
      refine j_dst F hw (i := 24 + (8 * (nA G))) dL_build_348 (by omega) (fun g348 hg348 => ?_)
      refine j_aloadn F dL_build_349 rfl ?_
      refine j_aload F dL_build_350 rfl ?_
      refine j_bipush F (v := 20) dL_build_352 (by decide) ?_
      refine j_bipush F (v := 8) dL_build_354 (by decide) ?_
      refine j_iload F dL_build_356 rfl ?_
      refine j_imulN F (a := 8) (e := nA G) dL_build_358 ?_
      refine j_iaddN F (a := 20) (b := 8 * (nA G)) dL_build_359 ?_
      refine j_dld F (i := 20 + (8 * (nA G))) (z := nI (1 ||| j248)) dL_build_360 (by omega) (by rw [hg348, upd_ne (by omega), hg336, upd_ne (by omega), hg301, upd_ne (by omega), hg281, upd_ne (by omega), hg252, upd_self]) ?_
      refine j_aload F dL_build_361 rfl ?_
      refine j_bipush F (v := 21) dL_build_363 (by decide) ?_
      refine j_bipush F (v := 8) dL_build_365 (by decide) ?_
      refine j_iload F dL_build_367 rfl ?_
      refine j_imulN F (a := 8) (e := nA G) dL_build_369 ?_
      refine j_iaddN F (a := 21) (b := 8 * (nA G)) dL_build_370 ?_
      refine j_dld F (i := 21 + (8 * (nA G))) (z := nI w) dL_build_371 (by omega) (by rw [hg348, upd_ne (by omega), hg336, upd_ne (by omega), hg301, upd_ne (by omega), hg281, upd_self]) ?_
      refine j_aload F dL_build_372 rfl ?_
      refine j_bipush F (v := 22) dL_build_374 (by decide) ?_
      refine j_bipush F (v := 8) dL_build_376 (by decide) ?_
      refine j_iload F dL_build_378 rfl ?_
      refine j_imulN F (a := 8) (e := nA G) dL_build_380 ?_
      refine j_iaddN F (a := 22) (b := 8 * (nA G)) dL_build_381 ?_
      refine j_dld F (i := 22 + (8 * (nA G))) (z := nI j298) dL_build_382 (by omega) (by rw [hg348, upd_ne (by omega), hg336, upd_ne (by omega), hg301, upd_self]) ?_
      refine j_aload F dL_build_383 rfl ?_
      refine j_bipush F (v := 23) dL_build_385 (by decide) ?_
      refine j_bipush F (v := 8) dL_build_387 (by decide) ?_
      refine j_iload F dL_build_389 rfl ?_
      refine j_imulN F (a := 8) (e := nA G) dL_build_391 ?_
      refine j_iaddN F (a := 23) (b := 8 * (nA G)) dL_build_392 ?_
      refine j_dld F (i := 23 + (8 * (nA G))) (z := nI ((j298 + 15) + j332)) dL_build_393 (by omega) (by rw [hg348, upd_ne (by omega), hg336, upd_self]) ?_
      have hE := addAgentE (na := nA G) (nt := nT G) (v := v) (r := r) (s := 1 ||| j248) (d := w) (a := j298) (e := (j298 + 15) + j332) (by omega) (by omega) ⟨by omega, by omega⟩ (by omega) (by omega) (by omega)
      refine j_lcx F hw (qX3_addAgent (kl k) hst (kD k) G v r (nI (1 ||| j248)) (nI w) (nI j298) (nI ((j298 + 15) + j332)) hG hC) lk_L_29 dL_build_394 ⟨(Nat.le_of_ble_eq_true rfl), (Nat.le_of_ble_eq_true rfl)⟩ rfl (Nat.le_of_ble_eq_true rfl) ⟨by show c + 2 ≤ 42; omega, by show n + 45 ≤ 1190; omega⟩ (fun E h => h.1 (by rw [hE])) (fun u w1 h9 => ?_)
      obtain ⟨_, G', hx, rfl, rfl⟩ := h9
      rw [hE]
      refine j_st [.int (nI (nA G))] rfl ?_
      refine j_iload F dL_build_397 rfl ?_
      refine j_iceq F (tgt := 404) dL_build_399 (by decide) (fun _ => ?_) (fun z => absurd rfl z)
      refine j_iincN F [some (.ref ((G.1 0 0))), some (.ref b), some (.int 0), some (.int 14), some (.ref dd), some (.int x5), some (.int (nI ((nA G) + 1))), some (.int (x220 >>> ((nI (2 + (7 * (nA G)))) &&& 31)))] dL_build_404 rfl rfl rfl rfl ?_
      refine j_goto F (tgt := 207) dL_build_407 (by decide) ?_
      have e6 : nA G + 1 = nA G' := hx.2.1.symm
      rw [e6]
      exact bld_L2 F hw hst hX hbl hbA hL hm3 K fu G' g348 (C_nA v (nA G) (nI (1 ||| j248)) (nI (w)) (nI (j298)) (nI ((j298 + 15) + j332))) (C_rA r (nA G)) (c + 2) (n + 45) _ (by omega) (by omega) (hx.2.2.1.trans ht0) hx.2.2.2 (hx.1 0) (CI_nA hx hC) (by rw [hx.2.1]; exact hB.nA (fun a q => by rw [hg348, upd_ne (by omega), hg336, upd_ne (by omega), hg301, upd_ne (by omega), hg281, upd_ne (by omega), hg252, upd_ne (by omega)]) (fun t q => absurd q (Nat.not_lt_zero _)) (by rw [hg348, upd_ne (by omega), hg336, upd_ne (by omega), hg301, upd_ne (by omega), hg281, upd_ne (by omega), hg252, upd_self])) (by rw [hg348, upd_ne (by omega), hg336, upd_ne (by omega), hg301, upd_ne (by omega), hg281, upd_ne (by omega), hg252, upd_ne (by omega)]; exact h3) (by rw [hg348, upd_ne (by omega), hg336, upd_ne (by omega), hg301, upd_ne (by omega), hg281, upd_ne (by omega), hg252, upd_ne (by omega)]; exact h4) hv (by rw [hx.2.1]; omega) (by rw [hx.2.1]; omega)
    refine j_ifne F (tgt := 279) dL_build_272 (by decide) (fun _ => ?_) (fun _ => ?_)
    · refine j_bipush F (v := 127) dL_build_279 (by decide) ?_
      exact key 127 (by decide) (by decide)
    · refine j_iconst F (v := 2) dL_build_275 (by decide) ?_
      refine j_goto F (tgt := 281) dL_build_276 (by decide) ?_
      exact key 2 (by decide) (by decide)
set_option maxRecDepth 100000 in
set_option maxHeartbeats 4000000 in
theorem bld_L3 {k : Kx} (F : Fx k cL_build RL (rm4 9 42 1190 249) 8) (hw : kw k = true) (hst : (kl k).stackTraces = false) {b Ls : Nat} {xs : Nat → Int32} (hX : va_X b Ls xs (ks k) (ks k).heap) (hbl : b < (ks k).heap.size) (hbA : ¬ kA k b) (hL : Ls ≤ 260) {dd h0 : Nat} {v00 : Nat → Int32} {x5 : Int32} {m3 mn : Nat} (hm : mn ≤ 14) (hm3 : m3 ≤ 4) (K : ∀ (G : CG) (g : Nat → Int32) (v : S2) (r : R2) (c n : Nat), nT G = mn → GI (kD k) G → G.1 0 0 = h0 → CI G v r → BI (nA G) (nT G) g v r → nA G = m3 → g 3 = nI m3 → g 4 = nI (nT G) → v 0 = v00 → c ≤ 42 → n ≤ 1190 → J k (ain (kD k) dd 350 g :: CW (kD k) G v r) c n 471 [some (.ref h0), some (.ref b), some (.int 0), some (.int 14), some (.ref dd), some (.int x5), some (.int (nI mn)), some (.int (nI (nT G)))] []) : ∀ (fu : Nat) (G : CG) (g : Nat → Int32) (v : S2) (r : R2) (c n : Nat), mn - nT G < fu → nT G ≤ mn → GI (kD k) G → G.1 0 0 = h0 → CI G v r → BI (nA G) (nT G) g v r → nA G = m3 → g 3 = nI m3 → g 4 = nI (nT G) → v 0 = v00 → c ≤ 14 + 2 * nT G → n ≤ 560 + 45 * nT G → J k (ain (kD k) dd 350 g :: CW (kD k) G v r) c n 428 [some (.ref h0), some (.ref b), some (.int 0), some (.int 14), some (.ref dd), some (.int x5), some (.int (nI mn)), some (.int (nI (nT G)))] []
  | 0, G, g, v, r, c, n, h1, h2, hG, hg0, hC, hB, hna, h3, h4, hv, h5, h6 => absurd h1 (Nat.not_lt_zero _)
  | fu + 1, G, g, v, r, c, n, h1, h2, hG, hg0, hC, hB, hna, h3, h4, hv, h5, h6 => by
    subst hg0
    refine j_iload F dL_build_428 rfl ?_
    refine j_iload F dL_build_430 rfl ?_
    refine j_icgeN F (x := nT G) (y := mn) (tgt := 471) dL_build_432 (by decide) ⟨by omega, by omega⟩ (fun h => ?_) (fun h => ?_)
    · exact K G g v r c n (by omega) hG rfl hC hB hna h3 h4 hv (by omega) (by omega)
    refine j_aloadn F dL_build_435 rfl ?_
    refine j_aload F dL_build_436 rfl ?_
    refine j_aloadn F dL_build_438 rfl ?_
    refine j_iloadn F dL_build_439 rfl ?_
    refine j_iconst F (v := 3) dL_build_440 (by decide) ?_
    refine j_iaddN F (a := 0) (b := 3) dL_build_441 ?_
    refine j_iload F dL_build_442 rfl ?_
    refine j_iconst F (v := 4) dL_build_444 (by decide) ?_
    refine j_iremN F (a := nT G) (e := 4) dL_build_445 (by omega) (by omega) ?_
    refine j_iaddN F (a := 0 + 3) (b := (nT G) % 4) dL_build_446 ?_
    refine j_cel F hst hX hbl hbA hL (i := (0 + 3) + ((nT G) % 4)) (by omega) dL_build_447 ⟨(Nat.le_of_ble_eq_true rfl), (Nat.le_of_ble_eq_true rfl)⟩ (Nat.le_of_ble_eq_true rfl) ⟨(by show c ≤ 42; omega), (by show n ≤ 1190; omega)⟩ (fun x447 => ?_)
    refine j_iload F dL_build_450 rfl ?_
    refine j_iconst F (v := 4) dL_build_452 (by decide) ?_
    refine j_idivN F (a := nT G) (e := 4) dL_build_453 (by omega) (by omega) ?_
    refine j_iconst F (v := 5) dL_build_454 (by decide) ?_
    refine j_imulN F (a := (nT G) / 4) (e := 5) dL_build_455 ?_
    refine j_ishr F dL_build_456 ?_
    refine j_cmS0 F hw (qL_open (kl k) hst (kD k) G v r dd g (x447 >>> ((nI (((nT G) / 4) * 5)) &&& 31)) hG hC hB (by omega) (by omega) h4) lk_L_33 dL_build_457 ⟨(Nat.le_of_ble_eq_true rfl), (Nat.le_of_ble_eq_true rfl)⟩ rfl (Nat.le_of_ble_eq_true rfl) ⟨by show c + 2 ≤ 42; omega, by show n + 45 ≤ 1190; omega⟩ (fun u w1 h9 => ?_)
    obtain ⟨rfl, g', G', v', r', rfl, hx, hC', hB', h3', h4', hv'⟩ := h9
    refine j_st [.int (b1 true)] rfl ?_
    refine j_ifbne F (tgt := 465) dL_build_460 (by decide) (fun _ => ?_) (fun z => absurd rfl z)
    refine j_iincN F [some (.ref ((G.1 0 0))), some (.ref b), some (.int 0), some (.int 14), some (.ref dd), some (.int x5), some (.int (nI mn)), some (.int (nI ((nT G) + 1)))] dL_build_465 rfl rfl rfl rfl ?_
    refine j_goto F (tgt := 428) dL_build_468 (by decide) ?_
    have e6 : nT G + 1 = nT G' := hx.2.2.1.symm
    rw [e6]
    exact bld_L3 F hw hst hX hbl hbA hL hm hm3 K fu G' g' v' r' (c + 2) (n + 45) (by omega) (by omega) hx.2.2.2 (hx.1 0) hC' hB' (hx.2.1.trans hna) (h3'.trans h3) (by rw [h4', e6]) (hv'.trans hv) (by omega) (by omega)
set_option maxRecDepth 100000 in
set_option maxHeartbeats 4000000 in
theorem qL_build (l : Launch) (hst : l.stackTraces = false) (D : va_G) (G : CG) (v : S2) (r : R2) (b Ls : Nat) (xs : Nat → Int32) (hL : Ls ≤ 260) (hG : GI D G) (hC : CI G v r) (ha0 : nA G = 0) (ht0 : nT G = 0) (hv0 : v 0 0 = 0) (hv1 : v 0 1 = 540) (hv2 : ∀ q, q < 4 → v 2 q = C_sol0 q) : CMX l D yL_build cL_build 8 (some (.array .int)) 9 249 42 1190 b Ls xs (CW D G v r) [.ref (G.1 0 0), .ref b, .int 0, .int 14] (fun u w => ∃ (dd : Nat) (g : Nat → Int32) (G' : CG) (v' : S2) (r' : R2) (o c : Nat), u = some (.ref dd) ∧ w = ain D dd 350 g :: CW D G' v' r' ∧ G'.1 0 0 = G.1 0 0 ∧ GI D G' ∧ CI G' v' r' ∧ BI (nA G') (nT G') g v' r' ∧ 1 ≤ nA G' ∧ nA G' ≤ 4 ∧ 1 ≤ nT G' ∧ nT G' ≤ 14 ∧ g 3 = nI (nA G') ∧ g 4 = nI (nT G') ∧ v' 0 0 = 0 ∧ v' 0 1 = nI o ∧ v' 0 2 = nI c ∧ o < c ∧ c ≤ 1440) := by
  refine CMX_of [some (.ref (G.1 0 0)), some (.ref b), some (.int 0), some (.int 14), none, none, none, none] hst (by decide +kernel) rfl (Nat.le_of_ble_eq_true rfl) (fun k F hl hD hR hX hbl hbA => ?_)
  subst hl hD
  refine j_sipush F (v := 350) dL_build_0 (by decide) ?_
  refine j_newa F hR.1 (N := 350) (by decide) (by decide) dL_build_3 (Nat.le_of_ble_eq_true rfl) (Nat.le_of_ble_eq_true rfl) (fun dd => ?_)
  refine j_perm (ain (kD k) dd 350 (fun _ => 0) :: CW (kD k) G v r) (List.perm_append_comm (l₂ := [ain (kD k) dd 350 (fun _ => 0)])) ?_
  refine j_astore F [some (.ref ((G.1 0 0))), some (.ref b), some (.int 0), some (.int 14), some (.ref dd), none, none, none] dL_build_5 rfl rfl rfl ?_
  refine j_aloadn F dL_build_7 rfl ?_
  refine j_iloadn F dL_build_8 rfl ?_
  refine j_cel F hst hX hbl hbA hL (i := 0) (by omega) dL_build_9 ⟨(Nat.le_of_ble_eq_true rfl), (Nat.le_of_ble_eq_true rfl)⟩ (Nat.le_of_ble_eq_true rfl) ⟨(Nat.le_of_ble_eq_true rfl), (Nat.le_of_ble_eq_true rfl)⟩ (fun x9 => ?_)
  refine j_istore F [some (.ref ((G.1 0 0))), some (.ref b), some (.int 0), some (.int 14), some (.ref dd), some (.int x9), none, none] dL_build_12 rfl rfl rfl ?_
  refine j_aload F dL_build_14 rfl ?_
  refine j_iconst F (v := 1) dL_build_16 (by decide) ?_
  refine j_iload F dL_build_17 rfl ?_
  refine j_bipush F (v := 30) dL_build_19 (by decide) ?_
  refine j_bel F hst (N := 30) (by omega) dL_build_21 ⟨(Nat.le_of_ble_eq_true rfl), (Nat.le_of_ble_eq_true rfl)⟩ (Nat.le_of_ble_eq_true rfl) ⟨(Nat.le_of_ble_eq_true rfl), (Nat.le_of_ble_eq_true rfl)⟩ (fun j21 hj21 => ?_)
  refine j_dst F hR.1 (i := 1) dL_build_24 (by omega) (fun g24 hg24 => ?_)
  refine j_aload F dL_build_25 rfl ?_
  refine j_iconst F (v := 2) dL_build_27 (by decide) ?_
  refine j_aload F dL_build_28 rfl ?_
  refine j_iconst F (v := 1) dL_build_30 (by decide) ?_
  refine j_dld F (i := 1) (z := nI j21) dL_build_31 (by omega) (by rw [hg24, upd_self]) ?_
  refine j_bipush F (v := 20) dL_build_32 (by decide) ?_
  refine j_iaddN F (a := j21) (b := 20) dL_build_34 ?_
  refine j_iload F dL_build_35 rfl ?_
  refine j_iconst F (v := 5) dL_build_37 (by decide) ?_
  refine j_ishr F dL_build_38 ?_
  refine j_bipush F (v := 60) dL_build_39 (by decide) ?_
  refine j_bel F hst (N := 60) (by omega) dL_build_41 ⟨(Nat.le_of_ble_eq_true rfl), (Nat.le_of_ble_eq_true rfl)⟩ (Nat.le_of_ble_eq_true rfl) ⟨(Nat.le_of_ble_eq_true rfl), (Nat.le_of_ble_eq_true rfl)⟩ (fun j41 hj41 => ?_)
  refine j_iaddN F (a := j21 + 20) (b := j41) dL_build_44 ?_
  refine j_dst F hR.1 (i := 2) dL_build_45 (by omega) (fun g45 hg45 => ?_)
  refine j_aloadn F dL_build_46 rfl ?_
  refine j_aload F dL_build_47 rfl ?_
  refine j_iconst F (v := 1) dL_build_49 (by decide) ?_
  refine j_dld F (i := 1) (z := nI j21) dL_build_50 (by omega) (by rw [hg45, upd_ne (by omega), hg24, upd_self]) ?_
  refine j_aload F dL_build_51 rfl ?_
  refine j_iconst F (v := 2) dL_build_53 (by decide) ?_
  refine j_dld F (i := 2) (z := nI ((j21 + 20) + j41)) dL_build_54 (by omega) (by rw [hg45, upd_self]) ?_
  have hE := setHoursE (na := nA G) (nt := nT G) (v := v) (r := r) (o := j21) (c := (j21 + 20) + j41) (by omega) (by omega) (by omega) hv1
  refine j_lcx F hR.1 (qX3_setHours (kl k) hst (kD k) G v r (nI j21) (nI ((j21 + 20) + j41))) lk_L_19 dL_build_55 ⟨(Nat.le_of_ble_eq_true rfl), (Nat.le_of_ble_eq_true rfl)⟩ rfl (Nat.le_of_ble_eq_true rfl) ⟨(Nat.le_of_ble_eq_true rfl), (Nat.le_of_ble_eq_true rfl)⟩ (fun E h => h.1 (by rw [hE])) (fun u w1 h9 => ?_)
  obtain ⟨_, rfl, rfl⟩ := h9
  rw [hE]
  refine j_st [.int (b1 true)] rfl ?_
  refine j_ifbne F (tgt := 63) dL_build_58 (by decide) (fun _ => ?_) (fun z => absurd rfl z)
  refine j_iconst F (v := 0) dL_build_63 (by decide) ?_
  refine j_istore F [some (.ref ((G.1 0 0))), some (.ref b), some (.int 0), some (.int 14), some (.ref dd), some (.int x9), some (.int 0), none] dL_build_64 rfl rfl rfl ?_
  refine bld_L1 F hR.1 hst hX hbl hbA hL (v00 := u2 (u2 v 0 1 (nI j21)) 0 2 (nI ((j21 + 20) + j41)) 0) (fun ga va ca na_ g4a hva hCa hca hna_ => ?_) 5 0 g45 (u2 (u2 v 0 1 (nI j21)) 0 2 (nI ((j21 + 20) + j41))) _ _ (by decide) (by decide) (fun q _ hq => by rw [u2_ne1 (by decide), u2_ne1 (by decide)]; exact hv2 q hq) (by rw [hg45, upd_ne (by omega), hg24, upd_ne (by omega)]) rfl (CI_v (by decide) (CI_v (by decide) hC)) (Nat.le_of_ble_eq_true rfl) (Nat.le_of_ble_eq_true rfl)
  refine j_aload F dL_build_187 rfl ?_
  refine j_iconst F (v := 3) dL_build_189 (by decide) ?_
  refine j_iconst F (v := 1) dL_build_190 (by decide) ?_
  refine j_aloadn F dL_build_191 rfl ?_
  refine j_iloadn F dL_build_192 rfl ?_
  refine j_iconst F (v := 1) dL_build_193 (by decide) ?_
  refine j_iaddN F (a := 0) (b := 1) dL_build_194 ?_
  refine j_cel F hst hX hbl hbA hL (i := 0 + 1) (by omega) dL_build_195 ⟨(Nat.le_of_ble_eq_true rfl), (Nat.le_of_ble_eq_true rfl)⟩ (Nat.le_of_ble_eq_true rfl) ⟨(by show ca ≤ 42; omega), (by show na_ ≤ 1190; omega)⟩ (fun x195 => ?_)
  refine j_iconst F (v := 4) dL_build_198 (by decide) ?_
  refine j_bel F hst (N := 4) (by omega) dL_build_199 ⟨(Nat.le_of_ble_eq_true rfl), (Nat.le_of_ble_eq_true rfl)⟩ (Nat.le_of_ble_eq_true rfl) ⟨(by show ca ≤ 42; omega), (by show na_ ≤ 1190; omega)⟩ (fun j199 hj199 => ?_)
  refine j_iaddN F (a := 1) (b := j199) dL_build_202 ?_
  refine j_dst F hR.1 (i := 3) dL_build_203 (by omega) (fun g203 hg203 => ?_)
  refine j_iconst F (v := 0) dL_build_204 (by decide) ?_
  refine j_istore F [some (.ref ((G.1 0 0))), some (.ref b), some (.int 0), some (.int 14), some (.ref dd), some (.int x9), some (.int 0), none] dL_build_205 rfl rfl rfl ?_
  obtain ⟨m3, hm3, em3⟩ : ∃ m3, (1 ≤ m3 ∧ m3 ≤ 4) ∧ 1 + j199 = m3 := ⟨_, by omega, rfl⟩
  have h3b : g203 3 = nI m3 := by rw [← em3]; exact (by rw [hg203, upd_self])
  have h4b : g203 4 = 0 := by rw [hg203, upd_ne (by omega)]; exact g4a
  refine j_lv [some (.ref (G.1 0 0)), some (.ref b), some (.int 0), some (.int 14), some (.ref dd), some (.int (x9)), some (.int (nI (nA G))), none] ?_ ?_
  · rw [ha0]; exact fun i v h => h
  refine bld_L2 F hR.1 hst hX hbl hbA hL hm3.2 (h0 := G.1 0 0) (v00 := u2 (u2 v 0 1 (nI j21)) 0 2 (nI ((j21 + 20) + j41)) 0) (fun Gb gc vb rb cb nb x7 hab htb hGb hgb hCb hBb h3c h4c hvb hcb hnb => ?_) 5 G g203 va r ca na_ none (by omega) (by omega) ht0 hG rfl hCa (by rw [ha0]; exact ⟨fun a q => absurd q (Nat.not_lt_zero _), fun a q => absurd q (Nat.not_lt_zero _)⟩) h3b h4b hva (by omega) (by omega)
  refine j_iconst F (v := 1) dL_build_410 (by decide) ?_
  refine j_aloadn F dL_build_411 rfl ?_
  refine j_iloadn F dL_build_412 rfl ?_
  refine j_iconst F (v := 2) dL_build_413 (by decide) ?_
  refine j_iaddN F (a := 0) (b := 2) dL_build_414 ?_
  refine j_cel F hst hX hbl hbA hL (i := 0 + 2) (by omega) dL_build_415 ⟨(Nat.le_of_ble_eq_true rfl), (Nat.le_of_ble_eq_true rfl)⟩ (Nat.le_of_ble_eq_true rfl) ⟨(by show cb ≤ 42; omega), (by show nb ≤ 1190; omega)⟩ (fun x415 => ?_)
  refine j_iloadn F dL_build_418 rfl ?_
  refine j_bel F hst (N := 14) (by omega) dL_build_419 ⟨(Nat.le_of_ble_eq_true rfl), (Nat.le_of_ble_eq_true rfl)⟩ (Nat.le_of_ble_eq_true rfl) ⟨(by show cb ≤ 42; omega), (by show nb ≤ 1190; omega)⟩ (fun j419 hj419 => ?_)
  refine j_iaddN F (a := 1) (b := j419) dL_build_422 ?_
  obtain ⟨mn, hmn, emn⟩ : ∃ mn, (1 ≤ mn ∧ mn ≤ 14) ∧ 1 + j419 = mn := ⟨_, by omega, rfl⟩
  rw [emn]
  refine j_istore F [some (.ref ((G.1 0 0))), some (.ref b), some (.int 0), some (.int 14), some (.ref dd), some (.int x9), some (.int (nI mn)), x7] dL_build_423 rfl rfl rfl ?_
  refine j_iconst F (v := 0) dL_build_425 (by decide) ?_
  refine j_istore F [some (.ref ((G.1 0 0))), some (.ref b), some (.int 0), some (.int 14), some (.ref dd), some (.int x9), some (.int (nI mn)), some (.int 0)] dL_build_426 rfl rfl rfl ?_
  refine j_lv [some (.ref (G.1 0 0)), some (.ref b), some (.int 0), some (.int 14), some (.ref dd), some (.int (x9)), some (.int (nI mn)), some (.int (nI (nT Gb)))] ?_ ?_
  · rw [htb]; exact fun i v h => h
  refine bld_L3 F hR.1 hst hX hbl hbA hL hmn.2 hm3.2 (h0 := G.1 0 0) (v00 := u2 (u2 v 0 1 (nI j21)) 0 2 (nI ((j21 + 20) + j41)) 0) (fun Gd gd_ vd rd cd nd htd hGd hgd hCd hBd had h3d h4d hvd hcd hnd => ?_) 15 Gb gc vb rb cb nb (by omega) (by omega) hGb hgb hCb (by rw [htb]; exact hBb) hab h3c (by rw [htb]; exact h4c) hvb (by omega) (by omega)
  refine j_aload F dL_build_471 rfl ?_
  exact j_aret F (x := some dd) hR (Or.inr ⟨_, rfl⟩) dL_build_473 hcd hnd ⟨dd, gd_, Gd, vd, rd, j21, (j21 + 20) + j41, rfl, rfl, hgd, hGd, hCd, hBd, by omega, by omega, by omega, by omega, by rw [had]; exact h3d, h4d, by rw [hvd]; exact (u2_o (by decide) _).trans ((u2_o (by decide) _).trans hv0), by rw [hvd]; exact (u2_o (by decide) _).trans (u2_same _ _ _ _), by rw [hvd]; exact u2_same _ _ _ _, by omega, by omega⟩
