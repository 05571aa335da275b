/-! ROWS THAT MAKE ARRAYS; ArrayList's own methods that write -/
theorem u_gs39 : Cond.fieldLink RJx4a65c 39 "java/util/ArrayList" "DEFAULTCAPACITY_EMPTY_ELEMENTDATA" "[Ljava/lang/Object;" ∈ Uw := Uw_of (i := 72) (by decide +kernel) (by decide +kernel)
theorem un_getClass : Cond.instanceMethod (⟨"java/lang/Object", "getClass", "()Ljava/lang/Class;"⟩ : MethodName) ∈ Uw := Uw_of (i := 476) (by decide +kernel) (by decide +kernel)
theorem ut_getClass : Cond.native (⟨"java/lang/Object", "getClass", "()Ljava/lang/Class;"⟩ : MethodName) ∈ Uw := Uw_of (i := 486) (by decide +kernel) (by decide +kernel)
theorem ue_getClass : Cond.selects "[Ljava/lang/Object;" (⟨"java/lang/Object", "getClass", "()Ljava/lang/Class;"⟩ : MethodName) (⟨"java/lang/Object", "getClass", "()Ljava/lang/Class;"⟩ : MethodName) ∈ Uw := Uw_of (i := 578) (by decide +kernel) (by decide +kernel)
theorem us_arraycopy : Cond.static arraycopyName ∈ Uw := Uw_of (i := 495) (by decide +kernel) (by decide +kernel)
theorem ut_arraycopy : Cond.native arraycopyName ∈ Uw := Uw_of (i := 496) (by decide +kernel) (by decide +kernel)
theorem ui_System : Cond.initialized "java/lang/System" ∈ Uw := Uw_of (i := 33) (by decide +kernel) (by decide +kernel)
abbrev ain (D : va_G) (a N : Nat) (f : Nat → Int32) : Nat × va_E := (a, .inl (D.1 100, N, .inl f))
abbrev aob (D : va_G) (a N : Nat) (f : Nat → Option Nat) : Nat × va_E := (a, .inl (D.1 101, N, .inr (.inr (.inr (.inr f)))))
theorem nI_pos2 {N : Nat} (h : N ≤ 1000) : ¬ nI N < 0 := nI_pos (by omega)
section AROWS
variable {k : Kx} {cc : ByteArray} {own : String} {R : Room} {nL : Nat} {ws : va_W} {c n pc : Nat} {lv : List (Option Value)} {st : List Value}
theorem j_newa (F : Fx k cc own R nL) (hw : kw k = true) {N : Nat} {x : Int32} (hx : x = nI N) (hN : N ≤ 1000) (hd : decode cc pc = .ok (.newarray .int, 2)) (hc1 : c + 1 ≤ R.cells) (hn1 : n + N ≤ R.slots) (K : ∀ q, J k (ws ++ [ain (kD k) q N (fun _ => 0)]) (c + 1) (n + N) (pc + 2) lv (.ref q :: st)) : J k ws c n pc lv (.int x :: st) := fun H locs ls hP hL => by
  subst hx
  refine va_newa (atype := .int) F.hx F.hb (F.hts ua_int) rfl F.hK.1 hP.1 (hP.2.1 hw) hP.2.2.1 (F.hA hw) (a0 := (N, .inl fun _ => 0)) (fun _ => rfl) (nI_pos2 hN) (ix_nI (by omega)) (by show N * 4 ≤ _; omega) (by rw [F.hR]; exact hc1) (by rw [F.hR]; exact hn1) hd (fun q cA H1 h0 h1 h2 h3 => ?_)
  have a1 : (ks k).vm.findClass "[I" = some cA := (h0.2 2 _ rfl).2
  have a2 : (ks k).vm.findClass "[I" = some ((kD k).1 100) := (F.hK.1.2 0 _ rfl).2
  have e : cA = (kD k).1 100 := Option.some.inj (a1.symm.trans a2)
  subst e
  exact K q H1 locs ls (hP.put hw h1 h2 h3) hL
theorem j_newq (F : Fx k cc own R nL) (hw : kw k = true) {idx N : Nat} {x : Int32} (hx : x = nI N) (hN : N ≤ 1000) (hl : Cond.classLink own idx "java/lang/Object" ∈ Uw) (hd : decode cc pc = .ok (.anewarray idx, 3)) (hc1 : c + 1 ≤ R.cells) (hn1 : n + N ≤ R.slots) (K : ∀ q, J k (ws ++ [aob (kD k) q N (fun _ => none)]) (c + 1) (n + N) (pc + 3) lv (.ref q :: st)) : J k ws c n pc lv (.int x :: st) := fun H locs ls hP hL => by
  subst hx
  refine va_newq F.hx F.hb F.hown (F.hts hl) F.hK.2.2.2.2.1 F.hK.1 hP.1 (hP.2.1 hw) hP.2.2.1 (F.hA hw) (nI_pos2 hN) (ix_nI (by omega)) (by omega) (by rw [F.hR]; exact hc1) (by rw [F.hR]; exact hn1) hd (fun q cA H1 h0 h1 h2 h3 => ?_)
  obtain ⟨_, _, _, _, _, a1⟩ := (h0.2 2 _ rfl).2
  obtain ⟨_, _, _, _, _, a2⟩ := (F.hK.1.2 1 _ rfl).2
  have e : cA = (kD k).1 101 := Option.some.inj (a1.symm.trans a2)
  subst e
  exact K q H1 locs ls (hP.put hw h1 h2 h3) hL
theorem j_gs39 (F : Fx k cc RJx4a65c R nL) (hw : kw k = true) (hd : decode cc pc = .ok (.getstatic 39, 3)) (K : J k ws c n (pc + 3) lv (.ref (dE (kD k)) :: st)) : J k ws c n pc lv st := fun H locs ls hP hL =>
  va_gets F.hx F.hb (F.hZ hw).2.2.1 hP.2.2.1 F.hown (F.hts u_gs39) (fun _ h => h) hd (K H locs ls hP hL)
theorem j_tlen (F : Fx k cc own R nL) (hw : kw k = true) (hd : decode cc pc = .ok (.arraylength, 1)) (K : J k ws c n (pc + 1) lv (.int 0 :: st)) : J k ws c n pc lv (.ref (dE (kD k)) :: st) := fun H locs ls hP hL =>
  va_tlen F.hx F.hb (F.hZ hw).2.2.2 hP.2.2.1 (v := 0) rfl hd (K H locs ls hP hL)
theorem j_astq (F : Fx k cc own R nL) (hw : kw k = true) {ci a v N NN : Nat} {C : String} {T : u_T} {vs : List Value} {f : Nat → Option Nat} {i : Int32} (hd : decode cc pc = .ok (.aastore, 1)) (q : Nat) (hq : ws[q]? = some (aob (kD k) a N f)) (hca : (C, "java/lang/Object") ∈ cas) (hv : (v, .inr (ci, vs)) ∈ ws) (hc : vwCl[ci]? = some (C, T, NN)) (hin : vp_in i N) (ws' : va_W) (he : ws.set q (aob (kD k) a N (va_up f (ix i) (some v))) = ws') (K : J k ws' c n (pc + 1) lv st) : J k ws c n pc lv (.ref v :: .int i :: .ref a :: st) := fun H locs ls hP hL => by
  obtain ⟨qk, hqk⟩ := List.getElem?_of_mem hv
  subst he
  exact va_astqO F.hx F.hb F.hK.1 hP.1 (hP.2.1 hw) hP.2.2.1 q 1 qk ci hq rfl (F.hK.2.2.2.1 _ hca) hqk hc hin hd (fun H1 locs1 h1 h2 h3 => K H1 locs1 ls (hP.put hw h1 h2 h3) hL)
theorem j_getC (F : Fx k cc RJ7 R nL) {a N : Nat} {f : Nat → Option Nat} (hd : decode cc pc = .ok (.invokevirtual 86, 3)) (q : Nat) (hq : ws[q]? = some (aob (kD k) a N f)) (hR : 1 ≤ R.frames ∧ (st.map fun v => v.category).sum + 14 ≤ R.locals) (K : J k ws c n (pc + 3) lv (.ref (dM (kD k)) :: st)) : J k ws c n pc lv (.ref a :: st) := fun H locs ls hP hL => by
  obtain ⟨_, _, _, _, _, a2⟩ := (F.hK.1.2 1 _ rfl).2
  exact va_getC F.hx F.hb (F.hml.trans (F.hn.symm.trans hL.1.symm)) F.hown (F.hts um_J7_86) (va_Dc.use F.hK.2.2.2.2.2.2.1) (F.hts ue_getClass) (F.hts un_getClass) (F.hts ut_getClass) F.hK.2.2.2.2.2.1 ⟨_, hP.1 q _ hq, rfl, a2⟩ (by rw [F.hR]; exact hR.1) (by rw [F.hR]; exact hR.2) hd (K H locs ls hP hL)
theorem j_ldcM (F : Fx k cc RJ7 R nL) (hd : decode cc pc = .ok (.ldc 110, 2)) (K : J k ws c n (pc + 2) lv (.ref (dM (kD k)) :: st)) : J k ws c n pc lv st := fun H locs ls hP hL =>
  va_ldcM F.hx F.hb F.hown (F.hts ul_J7_110) F.hK.2.2.2.2.2.1 hd (K H locs ls hP hL)
theorem j_copyq (F : Fx k cc RJ7 R nL) (hw : kw k = true) {ci a0 a1 n0 n1 m NN : Nat} {C : String} {T : u_T} {f g : Nat → Option Nat} (hd : decode cc pc = .ok (.invokestatic 150, 3)) (q0 q1 : Nat) (h0 : ws[q0]? = some (aob (kD k) a0 n0 f)) (h1 : ws[q1]? = some (aob (kD k) a1 n1 g)) (hm : m ≤ n0 ∧ m ≤ n1 ∧ n1 ≤ 1000) (hca : (C, "java/lang/Object") ∈ cas) (hc : vwCl[ci]? = some (C, T, NN)) (hel : ∀ i, i < m → ∀ y, f i = some y → ∃ fs, (y, .inr (ci, fs)) ∈ ws)
    (hR : 1 ≤ R.frames ∧ (st.map fun v => v.category).sum + (nativeFrameWords "java/lang/System" "arraycopy" 5 + 11) ≤ R.locals) (ws' : va_W) (he : ws.set q1 (aob (kD k) a1 n1 (va_cpy f g 0 0 m)) = ws') (K : J k ws' c n (pc + 3) lv st) : J k ws c n pc lv (.int (nI m) :: .int 0 :: .ref a1 :: .int 0 :: .ref a0 :: st) := fun H locs ls hP hL => by
  subst he
  have em : (nI m).toNatClampNeg = m := ix_nI (by omega)
  have e0 : (0 : Int32).toNatClampNeg = 0 := by decide
  have hh := va_copyq (C := C) F.hx F.hb (F.hml.trans (F.hn.symm.trans hL.1.symm)) F.hown (F.hts um_J7_150) (F.hts ut_arraycopy) (F.hts us_arraycopy) (F.hts ui_System) F.hK.1 hP.1 (hP.2.1 hw) hP.2.2.1 q0 q1 1 1 h0 h1 rfl rfl (sp := 0) (dp := 0) (n := nI m) (by decide) (by decide) (nI_pos (by omega)) (by rw [em, e0]; omega) (by rw [em, e0]; omega)
    (fun i hi y hy => by
      rw [em] at hi
      rw [e0, Nat.zero_add] at hy
      obtain ⟨fs, hm⟩ := hel i hi y hy
      obtain ⟨qk, hqk⟩ := List.getElem?_of_mem hm
      exact hP.recv F hqk hc)
    (fun comp c0 hc1 hc2 => by
      obtain ⟨c3, t3, f1, f2, f3⟩ := Cond.castable_spec (va_Nw.use (A := kargs k) rfl (F.hK.2.2.2.1 _ hca))
      cases hc2.symm.trans f1
      cases hc1.symm.trans f2
      exact f3) (by rw [F.hR]; exact hR.1) (by rw [F.hR]; exact hR.2) hd (l := kl k) (e := ke k) (rest := st) (cells := c) (slots := n) (Q := kQ k) (R := kR k) (p := kp k) (below := kbelow k) (meth := kmeth k) (ls := ls)
  rw [em, e0] at hh
  exact hh (fun H1 locs1 p1 p2 p3 => K H1 locs1 ls (hP.put hw p1 p2 p3) hL)
theorem j_drop (ws' : va_W) (h : ws'.Sublist ws) (K : J k ws' c n pc lv st) : J k ws c n pc lv st := fun H locs ls hP hL =>
  K H locs ls ⟨fun i q hq => by
    obtain ⟨j, hj⟩ := List.getElem?_of_mem (h.mem (List.mem_of_getElem? hq))
    exact hP.1 j q hj, fun hw => by
    have hD := va_D.iff.mp (hP.2.1 hw)
    exact va_D.iff.mpr ⟨(h.map _).nodup hD.1, fun q hq => hD.2 q (h.mem hq)⟩, hP.2.2⟩ hL
end AROWS
