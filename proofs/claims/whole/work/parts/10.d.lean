/-! THE LAW'S WRAPPERS -/
abbrev xAO (ad : Nat → Nat) (og : Nat) : Nat → Prop := fun q9 => xAD ad q9 ∨ q9 = og
def xOut (D : va_G) (cL : ClassId) (og : Nat) (z : Int64) (H : Heap) : Prop := va_at D vwCl (og, .inl (cL, 1, .inr (.inl (fun _ => z)))) H
abbrev xKL (D : va_G) (cL : ClassId) (U : State) : Prop := va_K D vwCl [(cL, .long)] U
def xWL (D : va_G) (cI cC cL : ClassId) (P : Heap → Prop) (A : Nat → Prop) : State → Prop := fun U => P U.heap ∧ xK D cI cC U ∧ xKL D cL U ∧ xZ A U U.heap ∧ va_Nc xES xEI U ∧ va_Nc xEA xEI U ∧ va_Nc xES xEA U
theorem xXW_put {D : va_G} {cI cC : ClassId} {ad : Nat → Nat} {S : AS} {H H1 : Heap} (h : xXW D cI cC ad S H) (ho : ∀ i, i < 42 → H1[ad i]? = H[ad i]?) : xXW D cI cC ad S H1 := by
  obtain ⟨zr, zm, zs, fr, fm, fs, zf, h1, h2, h3, h4, h5, h6, h7, h8, h9, h10⟩ := h
  exact ⟨zr, zm, zs, fr, fm, fs, zf, va_at.kept h1 (ho 0 (by decide)), va_at.kept h2 (ho 1 (by decide)), ⟨va_at.kept h3.1 (ho 2 (by decide)), va_at.kept h3.2 (ho 3 (by decide))⟩, ⟨va_at.kept h4.1 (ho 4 (by decide)), va_at.kept h4.2 (ho 5 (by decide))⟩, h5, ⟨va_at.kept h6.1 (ho 6 (by decide)), va_at.kept h6.2 (ho 7 (by decide))⟩, h7, ⟨va_at.kept h8.1 (ho 8 (by decide)), va_at.kept h8.2 (ho 9 (by decide))⟩, fun k hk => ⟨va_at.kept (h9 k hk).1 (ho (10 + k) (by omega)), va_at.kept (h9 k hk).2 (ho (26 + k) (by omega))⟩, h10⟩
theorem x_lastO {p : Program} {l : Launch} {e : Env} {R : Room} {s : State} {m : MethodId} {args : Array Value} {below : List Frame} {meth : Method} {c : Code} {H : Heap} {locs : List Loc} {cells slots : Nat} {Q : State → Prop} {cc : ByteArray} {pc : Nat} {ls : Array Slot} {rest : List Value} {D : va_G} {cL : ClassId} {og : Nat} {z x : Int64} {A : Nat → Prop} {H0 : Heap} (hx : p.tables.exec = Jvm.exec) (hb : c.code = cc) (hKL : xKL D cL s) (hO : xOut D cL og z H) (hS : va_S A H0 H locs) (hA : A og) (hdg : decode cc pc = .ok (.lastore, 1))
    (kk : ∀ (H1 : Heap) (locs1 : List Loc), xOut D cL og x H1 → H1.size = H.size → (∀ q : Nat, q ≠ og → H1[q]? = H[q]?) → va_S A H0 H1 locs1 → W p l e R s m args below meth c H1 locs1 cells slots Q (F0 m (pc + 1) ls rest)) : W p l e R s m args below meth c H locs cells slots Q (F0 m pc ls (.long x :: .int (nI 0) :: .ref og :: rest)) := by
  refine W.last hx hb (x1 hO 0 _ rfl) ((hKL.2 0 _ rfl).1 1 (fun j => .long z)) (fun q => by cases q) (by show ¬ (nI 0 < 0 ∨ (arrV _ _ _).slots.size ≤ _); rw [arrV_size]; exact vp_in_nI (show 0 < 1 from Nat.one_pos) (show 1 < 2 ^ 31 by decide)) rfl rfl hdg fun H1 e z' oq => ?_
  refine kk H1 _ ?_ z' oq (hS.put z' oq hA)
  show H1[og]? = some (vp_cell _ _)
  rw [e]
  rw [vp_cell_l, vp_cell_l, arrV_store, nI_clamp (by decide)]
  refine congrArg some (arrV_cg (fun j hj => ?_))
  obtain rfl : j = 0 := by omega
  simp [updV]
theorem x_laldO {p : Program} {l : Launch} {e : Env} {R : Room} {s : State} {m : MethodId} {args : Array Value} {below : List Frame} {meth : Method} {c : Code} {H : Heap} {locs : List Loc} {cells slots : Nat} {Q : State → Prop} {cc : ByteArray} {pc : Nat} {ls : Array Slot} {rest : List Value} {D : va_G} {cL : ClassId} {og : Nat} {z : Int64} (hx : p.tables.exec = Jvm.exec) (hb : c.code = cc) (hKL : xKL D cL s) (hO : xOut D cL og z H) (hdg : decode cc pc = .ok (.laload, 1))
    (kk : W p l e R s m args below meth c H locs cells slots Q (F0 m (pc + 1) ls (.long z :: rest))) : W p l e R s m args below meth c H locs cells slots Q (F0 m pc ls (.int (nI 0) :: .ref og :: rest)) :=
  va_lald hx hb hKL (x1 hO) 0 0 rfl rfl (vp_in_nI (show 0 < 1 from Nat.one_pos) (show 1 < 2 ^ 31 by decide)) hdg kk
theorem xWL_PS {D : va_G} {cI cC cL : ClassId} {P : Heap → Prop} {A : Nat → Prop} {As : List Value} {s : State} {H : Heap} (hK : xK D cI cC s) (hKL : xKL D cL s) (hZ : xZ A s H) (h1 : va_Nc xES xEI s) (h2 : va_Nc xEA xEI s) (h3 : va_Nc xES xEA s) (hP : P H) : PreS s H (va_Pc As (xWL D cI cC cL P A)) As :=
  ⟨fun a U g mk q => by
    obtain ⟨q0, qP, qK, qL, qU, n1, n2, n3⟩ := q
    have qq := xBZ_blind (av := As) (D := D) (cI := cI) (cC := cC) (P := P) (A := A) a U g mk ⟨q0, qP, qK, qU⟩
    exact ⟨qq.1, qq.2.1, qq.2.2.1, va_K.moved (u := U) (U := U.calling g mk a) (Vm.Alike.refl U.vm) qL, qq.2.2.2, va_Nc.moved (u := U) (U := U.calling g mk a) (Vm.Alike.refl U.vm) n1, va_Nc.moved (u := U) (U := U.calling g mk a) (Vm.Alike.refl U.vm) n2, va_Nc.moved (u := U) (U := U.calling g mk a) (Vm.Alike.refl U.vm) n3⟩, fun U hU hW => ⟨rfl, by rw [hU]; exact hP, va_K.moved hW.alike hK, va_K.moved hW.alike hKL, by rw [hU]; exact hZ.warm hW, h1.moved hW.alike, h2.moved hW.alike, h3.moved hW.alike⟩⟩
set_option maxRecDepth 100000 in
set_option maxHeartbeats 4000000 in
theorem wSetBells_ (l : Launch) (hst9 : l.stackTraces = false) (D : va_G) (cI cC cL : ClassId) (ad : Nat → Nat) (hj : xInj ad) (S : AS) (hI : AI S) (og : Nat) (hog : ∀ i, i < 42 → ad i ≠ og) (z : Int64) (x : Int32) : vx_Met l yL_setBells wsL_setBells (xRm 16 10 60) (va_Pc [.ref (ad 0), .int x, .ref og] (xWL D cI cC cL (fun H => xXW D cI cC ad S H ∧ xOut D cL og z H) (xAO ad og))) (xI (fun r (u : Int64) => r = nI (tSet S x) ∧ (tSet S x = 0 → u = (rSet S x).toInt64)) (fun u H => xXW D cI cC ad (nSet S x) H ∧ xOut D cL og u H) (xAO ad og)) (xX xNo (fun _ _ => False)) 10 60 (xAO ad og) := by
  refine vx_ofWH (cc := cL_setBells) (maxL := 4) (ret := some .int) (hh := [(0, 9, 12, 13)]) (by decide) rfl ?_
  intro p e s m args below meth c s₁ B hml hv
  obtain ⟨rfl, ⟨hW, hOut⟩, hK, hKL, hZ, hN1, hN2, hN3⟩ := hv
  have hx := B.exec
  have hb := B.bytes
  have hr := B.returns
  have hts := atoms_spec (ws := wsL_setBells) B.pre
  have hown : s.vm.findClass RL = some m.cls := findClass_of_methodNamed B.named
  have hlocks := B.notSynchronized
  have htab := vx_table (x := yL_setBells) B (hts (Cond.codeWith yL_setBells cL_setBells 4 (some .int) [(0, 9, 12, 13)]) List.mem_cons_self)
  have hO : xXO D ad S.1 S.2.1 S.2.2.2.2.2 s.heap := hW.choose_spec.choose_spec.choose_spec.choose_spec.choose_spec.choose_spec.choose_spec.1
  have hS : va_S (xAO ad og) s.heap s.heap [] := va_S.rf
  have hl := lv_entry ([.ref (ad 0), .int x, .ref og]) (n := 4) (Nat.le_of_ble_eq_true rfl)
  rw [lg_entry_eq]
  generalize (lg_sl ([.ref (ad 0), .int x, .ref og]) ++ List.replicate (4 - (lg_sl ([.ref (ad 0), .int x, .ref og])).length) Slot.unset).toArray = ls at hl ⊢
  have hl : lv_has ls 4 [(0, .ref (ad 0)), (1, .int x), (2, .ref og)] := hl
  refine lv_aload_n hx hb dL_setBells_0 rfl (lv_at hl 2 rfl) ?_
  refine xn_iconst (v := 0) hx hb dL_setBells_1 (by decide) ?_
  refine lv_aload_n hx hb dL_setBells_2 rfl (lv_at hl 0 rfl) ?_
  refine lv_iload_n hx hb dL_setBells_3 rfl (lv_at hl 1 rfl) ?_
  refine xtI (As := [.int x]) (rest := [.int (nI 0), .ref og]) ⟨hx, hb, hml, hown, hts⟩ (kSetBells_ l hst9 D cI cC ad hj S hI x) (cwV 1 hts gL_setBells_X3_setBells rfl rfl rfl (by decide +kernel) ⟨Nat.le_of_ble_eq_true rfl, Nat.le_of_ble_eq_true rfl⟩) hK (hZ.narrow (fun _ h => Or.inl h)) hW (xRecv hK rfl hO) rfl hl.1 rfl (Nat.le_of_ble_eq_true rfl) dL_setBells_4 ⟨Nat.le_of_ble_eq_true rfl, Nat.le_of_ble_eq_true rfl⟩ hS (fun _ h => Or.inl h) (fun _ h => Or.inl h) (fun E ce q9 H1 locs1 hB hz9 hk9 hS h1 h2 h3 => ?_) (fun r0 u H1 locs1 hp hF hz9 hk9 hS => ?_)
  · have hOut : xOut D cL og z H1 := va_at.kept hOut (hk9 og (va_at.lt hOut) (fun h => by obtain ⟨i9, h8, h9⟩ := h; exact hog i9 h8 h9.symm))
    obtain ⟨⟨ht, rfl⟩, hW1⟩ := hB
    refine vx_catch hown [] _ _ htab (fun z9 hz => absurd hz List.not_mem_nil) (by decide) (by decide) (hts (.classLink RL 13 "java/lang/IllegalArgumentException") (by decide +kernel)) (va_Nw.use (xBad_tab (.castable xEA xEA) (by decide +kernel)) (hZ.2.2.2 (.castable xEA xEA) (by decide +kernel))) h1 h2 h3 ?_
    refine lv_astore_n (lv' := [(3, .ref q9), (0, .ref (ad 0)), (1, .int x), (2, .ref og)]) hx hb dL_setBells_12 rfl hl (by decide) rfl (fun ls hl => ?_)
    refine xn_iconst (v := 1) hx hb dL_setBells_13 (by decide) ?_
    have hnw : nSet S x = S := by
      unfold nSet
      rw [if_neg (by rw [ht]; decide)]
    refine W.widen (k := 10) (n := 60) (Nat.le_of_ble_eq_true rfl) (Nat.le_of_ble_eq_true rfl) ?_
    refine vx_ret ?_
    exact x_miret hx hb hr hlocks z ⟨(by rw [ht]), (fun h9 => absurd (ht.symm.trans h9) (by decide))⟩ (by show xXW D cI cC ad (nSet S x) _ ∧ _; rw [hnw]; exact ⟨hW1, hOut⟩) hS (fun _ h => h) dL_setBells_14
  · have hOut : xOut D cL og z H1 := va_at.kept hOut (hk9 og (va_at.lt hOut) (fun h => by obtain ⟨i9, h8, h9⟩ := h; exact hog i9 h8 h9.symm))
    have ht := hp.1
    have hrr := hp.2
    subst hrr
    refine lv_i2l hx hb dL_setBells_7 rfl ?_
    refine x_lastO hx hb hKL hOut hS (Or.inr rfl) dL_setBells_8 (fun H2 locs2 hOut hz oq hS => ?_)
    have hF := xXW_put hF (fun i9 h9 => oq _ (hog i9 h9))
    refine lv_goto (tgt := 15) hx hb dL_setBells_9 (by decide) ?_
    refine xn_iconst (v := 0) hx hb dL_setBells_15 (by decide) ?_
    refine W.widen (k := 10) (n := 60) (Nat.le_of_ble_eq_true rfl) (Nat.le_of_ble_eq_true rfl) ?_
    refine vx_ret ?_
    exact x_miret hx hb hr hlocks (rSet S x).toInt64 ⟨(by rw [ht]), (fun _ => rfl)⟩ ⟨hF, hOut⟩ hS (fun _ h => h) dL_setBells_16

set_option maxRecDepth 100000 in
set_option maxHeartbeats 4000000 in
theorem wWrite_ (l : Launch) (hst9 : l.stackTraces = false) (D : va_G) (cI cC cL : ClassId) (ad : Nat → Nat) (hj : xInj ad) (S : AS) (hI : AI S) (og : Nat) (hog : ∀ i, i < 42 → ad i ≠ og) (z : Int64) (x : Int32) : vx_Met l yL_write wsL_write (xRm 16 10 60) (va_Pc [.ref (ad 0), .int x, .ref og] (xWL D cI cC cL (fun H => xXW D cI cC ad S H ∧ xOut D cL og z H) (xAO ad og))) (xI (fun r (u : Int64) => r = nI (tWrite S x) ∧ (tWrite S x = 0 → u = (rWrite S x).toInt64)) (fun u H => xXW D cI cC ad (nWrite S x) H ∧ xOut D cL og u H) (xAO ad og)) (xX xNo (fun _ _ => False)) 10 60 (xAO ad og) := by
  refine vx_ofWH (cc := cL_write) (maxL := 4) (ret := some .int) (hh := [(0, 9, 12, 18), (0, 9, 15, 20)]) (by decide) rfl ?_
  intro p e s m args below meth c s₁ B hml hv
  obtain ⟨rfl, ⟨hW, hOut⟩, hK, hKL, hZ, hN1, hN2, hN3⟩ := hv
  have hx := B.exec
  have hb := B.bytes
  have hr := B.returns
  have hts := atoms_spec (ws := wsL_write) B.pre
  have hown : s.vm.findClass RL = some m.cls := findClass_of_methodNamed B.named
  have hlocks := B.notSynchronized
  have htab := vx_table (x := yL_write) B (hts (Cond.codeWith yL_write cL_write 4 (some .int) [(0, 9, 12, 18), (0, 9, 15, 20)]) List.mem_cons_self)
  have hO : xXO D ad S.1 S.2.1 S.2.2.2.2.2 s.heap := hW.choose_spec.choose_spec.choose_spec.choose_spec.choose_spec.choose_spec.choose_spec.1
  have hS : va_S (xAO ad og) s.heap s.heap [] := va_S.rf
  have hl := lv_entry ([.ref (ad 0), .int x, .ref og]) (n := 4) (Nat.le_of_ble_eq_true rfl)
  rw [lg_entry_eq]
  generalize (lg_sl ([.ref (ad 0), .int x, .ref og]) ++ List.replicate (4 - (lg_sl ([.ref (ad 0), .int x, .ref og])).length) Slot.unset).toArray = ls at hl ⊢
  have hl : lv_has ls 4 [(0, .ref (ad 0)), (1, .int x), (2, .ref og)] := hl
  refine lv_aload_n hx hb dL_write_0 rfl (lv_at hl 2 rfl) ?_
  refine xn_iconst (v := 0) hx hb dL_write_1 (by decide) ?_
  refine lv_aload_n hx hb dL_write_2 rfl (lv_at hl 0 rfl) ?_
  refine lv_iload_n hx hb dL_write_3 rfl (lv_at hl 1 rfl) ?_
  refine xtI (As := [.int x]) (rest := [.int (nI 0), .ref og]) ⟨hx, hb, hml, hown, hts⟩ (kWrite_ l hst9 D cI cC ad hj S hI x) (cwV 1 hts gL_write_X3_write rfl rfl rfl (by decide +kernel) ⟨Nat.le_of_ble_eq_true rfl, Nat.le_of_ble_eq_true rfl⟩) hK (hZ.narrow (fun _ h => Or.inl h)) hW (xRecv hK rfl hO) rfl hl.1 rfl (Nat.le_of_ble_eq_true rfl) dL_write_4 ⟨Nat.le_of_ble_eq_true rfl, Nat.le_of_ble_eq_true rfl⟩ hS (fun _ h => Or.inl h) (fun _ h => Or.inl h) (fun E ce q9 H1 locs1 hB hz9 hk9 hS h1 h2 h3 => ?_) (fun r0 u H1 locs1 hp hF hz9 hk9 hS => ?_)
  · have hOut : xOut D cL og z H1 := va_at.kept hOut (hk9 og (va_at.lt hOut) (fun h => by obtain ⟨i9, h8, h9⟩ := h; exact hog i9 h8 h9.symm))
    obtain ⟨hB, hW1⟩ := hB
    rcases hB with ⟨ht, rfl⟩ | ⟨ht, rfl⟩
    · refine vx_catch hown [] _ _ htab (fun z9 hz => absurd hz List.not_mem_nil) (by decide) (by decide) (hts (.classLink RL 18 "java/lang/IndexOutOfBoundsException") (by decide +kernel)) (va_Nw.use (xBad_tab (.castable xEI xEI) (by decide +kernel)) (hZ.2.2.2 (.castable xEI xEI) (by decide +kernel))) h1 h2 h3 ?_
      refine lv_astore_n (lv' := [(3, .ref q9), (0, .ref (ad 0)), (1, .int x), (2, .ref og)]) hx hb dL_write_12 rfl hl (by decide) rfl (fun ls hl => ?_)
      refine xn_iconst (v := 1) hx hb dL_write_13 (by decide) ?_
      have hnw : nWrite S x = S := by
        unfold nWrite
        rw [if_neg (by rw [ht]; decide)]
      refine W.widen (k := 10) (n := 60) (Nat.le_of_ble_eq_true rfl) (Nat.le_of_ble_eq_true rfl) ?_
      refine vx_ret ?_
      exact x_miret hx hb hr hlocks z ⟨(by rw [ht]), (fun h9 => absurd (ht.symm.trans h9) (by decide))⟩ (by show xXW D cI cC ad (nWrite S x) _ ∧ _; rw [hnw]; exact ⟨hW1, hOut⟩) hS (fun _ h => h) dL_write_14
    · refine vx_catch hown [_] _ _ htab (fun z9 hz => by
          have hz := List.mem_singleton.mp hz
          subst hz
          exact Or.inr ⟨by decide, _, hts (.classLink RL 18 "java/lang/IndexOutOfBoundsException") (by decide +kernel), hN1⟩) (by decide) (by decide) (hts (.classLink RL 20 "java/lang/IllegalStateException") (by decide +kernel)) (va_Nw.use (xBad_tab (.castable xES xES) (by decide +kernel)) (hZ.2.2.2 (.castable xES xES) (by decide +kernel))) h1 h2 h3 ?_
      refine lv_astore_n (lv' := [(3, .ref q9), (0, .ref (ad 0)), (1, .int x), (2, .ref og)]) hx hb dL_write_15 rfl hl (by decide) rfl (fun ls hl => ?_)
      refine xn_iconst (v := 2) hx hb dL_write_16 (by decide) ?_
      have hnw : nWrite S x = S := by
        unfold nWrite
        rw [if_neg (by rw [ht]; decide)]
      refine W.widen (k := 10) (n := 60) (Nat.le_of_ble_eq_true rfl) (Nat.le_of_ble_eq_true rfl) ?_
      refine vx_ret ?_
      exact x_miret hx hb hr hlocks z ⟨(by rw [ht]), (fun h9 => absurd (ht.symm.trans h9) (by decide))⟩ (by show xXW D cI cC ad (nWrite S x) _ ∧ _; rw [hnw]; exact ⟨hW1, hOut⟩) hS (fun _ h => h) dL_write_17
  · have hOut : xOut D cL og z H1 := va_at.kept hOut (hk9 og (va_at.lt hOut) (fun h => by obtain ⟨i9, h8, h9⟩ := h; exact hog i9 h8 h9.symm))
    have ht := hp.1
    have hrr := hp.2
    subst hrr
    refine lv_i2l hx hb dL_write_7 rfl ?_
    refine x_lastO hx hb hKL hOut hS (Or.inr rfl) dL_write_8 (fun H2 locs2 hOut hz oq hS => ?_)
    have hF := xXW_put hF (fun i9 h9 => oq _ (hog i9 h9))
    refine lv_goto (tgt := 18) hx hb dL_write_9 (by decide) ?_
    refine xn_iconst (v := 0) hx hb dL_write_18 (by decide) ?_
    refine W.widen (k := 10) (n := 60) (Nat.le_of_ble_eq_true rfl) (Nat.le_of_ble_eq_true rfl) ?_
    refine vx_ret ?_
    exact x_miret hx hb hr hlocks (rWrite S x).toInt64 ⟨(by rw [ht]), (fun _ => rfl)⟩ ⟨hF, hOut⟩ hS (fun _ h => h) dL_write_19

set_option maxRecDepth 100000 in
set_option maxHeartbeats 4000000 in
theorem wSwap_ (l : Launch) (hst9 : l.stackTraces = false) (D : va_G) (cI cC cL : ClassId) (ad : Nat → Nat) (hj : xInj ad) (S : AS) (hI : AI S) (og : Nat) (hog : ∀ i, i < 42 → ad i ≠ og) (z : Int64) (x : Int32) (y : Int32) : vx_Met l yL_swap wsL_swap (xRm 16 10 60) (va_Pc [.ref (ad 0), .int x, .int y, .ref og] (xWL D cI cC cL (fun H => xXW D cI cC ad S H ∧ xOut D cL og z H) (xAO ad og))) (xI (fun r (u : Int64) => r = nI (tSwap S x y) ∧ (tSwap S x y = 0 → u = (rSwap S x y).toInt64)) (fun u H => xXW D cI cC ad (nSwap S x y) H ∧ xOut D cL og u H) (xAO ad og)) (xX xNo (fun _ _ => False)) 10 60 (xAO ad og) := by
  refine vx_ofWH (cc := cL_swap) (maxL := 5) (ret := some .int) (hh := [(0, 10, 13, 18)]) (by decide) rfl ?_
  intro p e s m args below meth c s₁ B hml hv
  obtain ⟨rfl, ⟨hW, hOut⟩, hK, hKL, hZ, hN1, hN2, hN3⟩ := hv
  have hx := B.exec
  have hb := B.bytes
  have hr := B.returns
  have hts := atoms_spec (ws := wsL_swap) B.pre
  have hown : s.vm.findClass RL = some m.cls := findClass_of_methodNamed B.named
  have hlocks := B.notSynchronized
  have htab := vx_table (x := yL_swap) B (hts (Cond.codeWith yL_swap cL_swap 5 (some .int) [(0, 10, 13, 18)]) List.mem_cons_self)
  have hO : xXO D ad S.1 S.2.1 S.2.2.2.2.2 s.heap := hW.choose_spec.choose_spec.choose_spec.choose_spec.choose_spec.choose_spec.choose_spec.1
  have hS : va_S (xAO ad og) s.heap s.heap [] := va_S.rf
  have hl := lv_entry ([.ref (ad 0), .int x, .int y, .ref og]) (n := 5) (Nat.le_of_ble_eq_true rfl)
  rw [lg_entry_eq]
  generalize (lg_sl ([.ref (ad 0), .int x, .int y, .ref og]) ++ List.replicate (5 - (lg_sl ([.ref (ad 0), .int x, .int y, .ref og])).length) Slot.unset).toArray = ls at hl ⊢
  have hl : lv_has ls 5 [(0, .ref (ad 0)), (1, .int x), (2, .int y), (3, .ref og)] := hl
  refine lv_aload_n hx hb dL_swap_0 rfl (lv_at hl 3 rfl) ?_
  refine xn_iconst (v := 0) hx hb dL_swap_1 (by decide) ?_
  refine lv_aload_n hx hb dL_swap_2 rfl (lv_at hl 0 rfl) ?_
  refine lv_iload_n hx hb dL_swap_3 rfl (lv_at hl 1 rfl) ?_
  refine lv_iload_n hx hb dL_swap_4 rfl (lv_at hl 2 rfl) ?_
  refine xtI (As := [.int x, .int y]) (rest := [.int (nI 0), .ref og]) ⟨hx, hb, hml, hown, hts⟩ (kSwap_ l hst9 D cI cC ad hj S hI x y) (cwV 2 hts gL_swap_X3_swap rfl rfl rfl (by decide +kernel) ⟨Nat.le_of_ble_eq_true rfl, Nat.le_of_ble_eq_true rfl⟩) hK (hZ.narrow (fun _ h => Or.inl h)) hW (xRecv hK rfl hO) rfl hl.1 rfl (Nat.le_of_ble_eq_true rfl) dL_swap_5 ⟨Nat.le_of_ble_eq_true rfl, Nat.le_of_ble_eq_true rfl⟩ hS (fun _ h => Or.inl h) (fun _ h => Or.inl h) (fun E ce q9 H1 locs1 hB hz9 hk9 hS h1 h2 h3 => ?_) (fun r0 u H1 locs1 hp hF hz9 hk9 hS => ?_)
  · have hOut : xOut D cL og z H1 := va_at.kept hOut (hk9 og (va_at.lt hOut) (fun h => by obtain ⟨i9, h8, h9⟩ := h; exact hog i9 h8 h9.symm))
    obtain ⟨⟨ht, rfl⟩, hW1⟩ := hB
    refine vx_catch hown [] _ _ htab (fun z9 hz => absurd hz List.not_mem_nil) (by decide) (by decide) (hts (.classLink RL 18 "java/lang/IndexOutOfBoundsException") (by decide +kernel)) (va_Nw.use (xBad_tab (.castable xEI xEI) (by decide +kernel)) (hZ.2.2.2 (.castable xEI xEI) (by decide +kernel))) h1 h2 h3 ?_
    refine lv_astore (lv' := [(4, .ref q9), (0, .ref (ad 0)), (1, .int x), (2, .int y), (3, .ref og)]) hx hb dL_swap_13 hl (by decide) rfl (fun ls hl => ?_)
    refine xn_iconst (v := 1) hx hb dL_swap_15 (by decide) ?_
    have hnw : nSwap S x y = S := by
      unfold nSwap
      rw [if_neg (by rw [ht]; decide)]
    refine W.widen (k := 10) (n := 60) (Nat.le_of_ble_eq_true rfl) (Nat.le_of_ble_eq_true rfl) ?_
    refine vx_ret ?_
    exact x_miret hx hb hr hlocks z ⟨(by rw [ht]), (fun h9 => absurd (ht.symm.trans h9) (by decide))⟩ (by show xXW D cI cC ad (nSwap S x y) _ ∧ _; rw [hnw]; exact ⟨hW1, hOut⟩) hS (fun _ h => h) dL_swap_16
  · have hOut : xOut D cL og z H1 := va_at.kept hOut (hk9 og (va_at.lt hOut) (fun h => by obtain ⟨i9, h8, h9⟩ := h; exact hog i9 h8 h9.symm))
    have ht := hp.1
    have hrr := hp.2
    subst hrr
    refine lv_i2l hx hb dL_swap_8 rfl ?_
    refine x_lastO hx hb hKL hOut hS (Or.inr rfl) dL_swap_9 (fun H2 locs2 hOut hz oq hS => ?_)
    have hF := xXW_put hF (fun i9 h9 => oq _ (hog i9 h9))
    refine lv_goto (tgt := 17) hx hb dL_swap_10 (by decide) ?_
    refine xn_iconst (v := 0) hx hb dL_swap_17 (by decide) ?_
    refine W.widen (k := 10) (n := 60) (Nat.le_of_ble_eq_true rfl) (Nat.le_of_ble_eq_true rfl) ?_
    refine vx_ret ?_
    exact x_miret hx hb hr hlocks (rSwap S x y).toInt64 ⟨(by rw [ht]), (fun _ => rfl)⟩ ⟨hF, hOut⟩ hS (fun _ h => h) dL_swap_18

set_option maxRecDepth 100000 in
set_option maxHeartbeats 4000000 in
theorem wNext_ (l : Launch) (hst9 : l.stackTraces = false) (D : va_G) (cI cC cL : ClassId) (ad : Nat → Nat) (hj : xInj ad) (S : AS) (hI : AI S) (og : Nat) (hog : ∀ i, i < 42 → ad i ≠ og) (z : Int64) (x : Int32) : vx_Met l yL_next wsL_next (xRm 16 10 60) (va_Pc [.ref (ad 0), .int x, .ref og] (xWL D cI cC cL (fun H => xXW D cI cC ad S H ∧ xOut D cL og z H) (xAO ad og))) (xI (fun r (u : Int64) => r = nI (tIn S x) ∧ (tIn S x = 0 → u = (rNext S x).toInt64)) (fun u H => xXW D cI cC ad (nNext S x) H ∧ xOut D cL og u H) (xAO ad og)) (xX xNo (fun _ _ => False)) 10 60 (xAO ad og) := by
  refine vx_ofWH (cc := cL_next) (maxL := 4) (ret := some .int) (hh := [(0, 9, 12, 18)]) (by decide) rfl ?_
  intro p e s m args below meth c s₁ B hml hv
  obtain ⟨rfl, ⟨hW, hOut⟩, hK, hKL, hZ, hN1, hN2, hN3⟩ := hv
  have hx := B.exec
  have hb := B.bytes
  have hr := B.returns
  have hts := atoms_spec (ws := wsL_next) B.pre
  have hown : s.vm.findClass RL = some m.cls := findClass_of_methodNamed B.named
  have hlocks := B.notSynchronized
  have htab := vx_table (x := yL_next) B (hts (Cond.codeWith yL_next cL_next 4 (some .int) [(0, 9, 12, 18)]) List.mem_cons_self)
  have hO : xXO D ad S.1 S.2.1 S.2.2.2.2.2 s.heap := hW.choose_spec.choose_spec.choose_spec.choose_spec.choose_spec.choose_spec.choose_spec.1
  have hS : va_S (xAO ad og) s.heap s.heap [] := va_S.rf
  have hl := lv_entry ([.ref (ad 0), .int x, .ref og]) (n := 4) (Nat.le_of_ble_eq_true rfl)
  rw [lg_entry_eq]
  generalize (lg_sl ([.ref (ad 0), .int x, .ref og]) ++ List.replicate (4 - (lg_sl ([.ref (ad 0), .int x, .ref og])).length) Slot.unset).toArray = ls at hl ⊢
  have hl : lv_has ls 4 [(0, .ref (ad 0)), (1, .int x), (2, .ref og)] := hl
  refine lv_aload_n hx hb dL_next_0 rfl (lv_at hl 2 rfl) ?_
  refine xn_iconst (v := 0) hx hb dL_next_1 (by decide) ?_
  refine lv_aload_n hx hb dL_next_2 rfl (lv_at hl 0 rfl) ?_
  refine lv_iload_n hx hb dL_next_3 rfl (lv_at hl 1 rfl) ?_
  refine xtI (As := [.int x]) (rest := [.int (nI 0), .ref og]) ⟨hx, hb, hml, hown, hts⟩ (kNext_ l hst9 D cI cC ad hj S hI x) (cwV 1 hts gL_next_X3_next rfl rfl rfl (by decide +kernel) ⟨Nat.le_of_ble_eq_true rfl, Nat.le_of_ble_eq_true rfl⟩) hK (hZ.narrow (fun _ h => Or.inl h)) hW (xRecv hK rfl hO) rfl hl.1 rfl (Nat.le_of_ble_eq_true rfl) dL_next_4 ⟨Nat.le_of_ble_eq_true rfl, Nat.le_of_ble_eq_true rfl⟩ hS (fun _ h => Or.inl h) (fun _ h => Or.inl h) (fun E ce q9 H1 locs1 hB hz9 hk9 hS h1 h2 h3 => ?_) (fun r0 u H1 locs1 hp hF hz9 hk9 hS => ?_)
  · have hOut : xOut D cL og z H1 := va_at.kept hOut (hk9 og (va_at.lt hOut) (fun h => by obtain ⟨i9, h8, h9⟩ := h; exact hog i9 h8 h9.symm))
    obtain ⟨⟨ht, rfl⟩, hW1⟩ := hB
    refine vx_catch hown [] _ _ htab (fun z9 hz => absurd hz List.not_mem_nil) (by decide) (by decide) (hts (.classLink RL 18 "java/lang/IndexOutOfBoundsException") (by decide +kernel)) (va_Nw.use (xBad_tab (.castable xEI xEI) (by decide +kernel)) (hZ.2.2.2 (.castable xEI xEI) (by decide +kernel))) h1 h2 h3 ?_
    refine lv_astore_n (lv' := [(3, .ref q9), (0, .ref (ad 0)), (1, .int x), (2, .ref og)]) hx hb dL_next_12 rfl hl (by decide) rfl (fun ls hl => ?_)
    refine xn_iconst (v := 1) hx hb dL_next_13 (by decide) ?_
    have hnw : nNext S x = S := by
      unfold nNext
      rw [if_neg (by rw [ht]; decide)]
    refine W.widen (k := 10) (n := 60) (Nat.le_of_ble_eq_true rfl) (Nat.le_of_ble_eq_true rfl) ?_
    refine vx_ret ?_
    exact x_miret hx hb hr hlocks z ⟨(by rw [ht]), (fun h9 => absurd (ht.symm.trans h9) (by decide))⟩ (by show xXW D cI cC ad (nNext S x) _ ∧ _; rw [hnw]; exact ⟨hW1, hOut⟩) hS (fun _ h => h) dL_next_14
  · have hOut : xOut D cL og z H1 := va_at.kept hOut (hk9 og (va_at.lt hOut) (fun h => by obtain ⟨i9, h8, h9⟩ := h; exact hog i9 h8 h9.symm))
    have ht := hp.1
    have hrr := hp.2
    subst hrr
    refine lv_i2l hx hb dL_next_7 rfl ?_
    refine x_lastO hx hb hKL hOut hS (Or.inr rfl) dL_next_8 (fun H2 locs2 hOut hz oq hS => ?_)
    have hF := xXW_put hF (fun i9 h9 => oq _ (hog i9 h9))
    refine lv_goto (tgt := 15) hx hb dL_next_9 (by decide) ?_
    refine xn_iconst (v := 0) hx hb dL_next_15 (by decide) ?_
    refine W.widen (k := 10) (n := 60) (Nat.le_of_ble_eq_true rfl) (Nat.le_of_ble_eq_true rfl) ?_
    refine vx_ret ?_
    exact x_miret hx hb hr hlocks (rNext S x).toInt64 ⟨(by rw [ht]), (fun _ => rfl)⟩ ⟨hF, hOut⟩ hS (fun _ h => h) dL_next_16

set_option maxRecDepth 100000 in
set_option maxHeartbeats 4000000 in
theorem wBehind_ (l : Launch) (hst9 : l.stackTraces = false) (D : va_G) (cI cC cL : ClassId) (ad : Nat → Nat) (hj : xInj ad) (S : AS) (hI : AI S) (og : Nat) (hog : ∀ i, i < 42 → ad i ≠ og) (z : Int64) (x : Int32) (y : Int32) : vx_Met l yL_behind wsL_behind (xRm 16 10 60) (va_Pc [.ref (ad 0), .int x, .int y, .ref og] (xWL D cI cC cL (fun H => xXW D cI cC ad S H ∧ xOut D cL og z H) (xAO ad og))) (xI (fun r (u : Int64) => r = nI (tBehind S x y) ∧ (tBehind S x y = 0 → u = (rBehind S x y).toInt64)) (fun u H => xXW D cI cC ad (nBehind S x y) H ∧ xOut D cL og u H) (xAO ad og)) (xX xNo (fun _ _ => False)) 10 60 (xAO ad og) := by
  refine vx_ofWH (cc := cL_behind) (maxL := 5) (ret := some .int) (hh := [(0, 10, 13, 18), (0, 10, 17, 20)]) (by decide) rfl ?_
  intro p e s m args below meth c s₁ B hml hv
  obtain ⟨rfl, ⟨hW, hOut⟩, hK, hKL, hZ, hN1, hN2, hN3⟩ := hv
  have hx := B.exec
  have hb := B.bytes
  have hr := B.returns
  have hts := atoms_spec (ws := wsL_behind) B.pre
  have hown : s.vm.findClass RL = some m.cls := findClass_of_methodNamed B.named
  have hlocks := B.notSynchronized
  have htab := vx_table (x := yL_behind) B (hts (Cond.codeWith yL_behind cL_behind 5 (some .int) [(0, 10, 13, 18), (0, 10, 17, 20)]) List.mem_cons_self)
  have hO : xXO D ad S.1 S.2.1 S.2.2.2.2.2 s.heap := hW.choose_spec.choose_spec.choose_spec.choose_spec.choose_spec.choose_spec.choose_spec.1
  have hS : va_S (xAO ad og) s.heap s.heap [] := va_S.rf
  have hl := lv_entry ([.ref (ad 0), .int x, .int y, .ref og]) (n := 5) (Nat.le_of_ble_eq_true rfl)
  rw [lg_entry_eq]
  generalize (lg_sl ([.ref (ad 0), .int x, .int y, .ref og]) ++ List.replicate (5 - (lg_sl ([.ref (ad 0), .int x, .int y, .ref og])).length) Slot.unset).toArray = ls at hl ⊢
  have hl : lv_has ls 5 [(0, .ref (ad 0)), (1, .int x), (2, .int y), (3, .ref og)] := hl
  refine lv_aload_n hx hb dL_behind_0 rfl (lv_at hl 3 rfl) ?_
  refine xn_iconst (v := 0) hx hb dL_behind_1 (by decide) ?_
  refine lv_aload_n hx hb dL_behind_2 rfl (lv_at hl 0 rfl) ?_
  refine lv_iload_n hx hb dL_behind_3 rfl (lv_at hl 1 rfl) ?_
  refine lv_iload_n hx hb dL_behind_4 rfl (lv_at hl 2 rfl) ?_
  refine xtI (As := [.int x, .int y]) (rest := [.int (nI 0), .ref og]) ⟨hx, hb, hml, hown, hts⟩ (kBehind_ l hst9 D cI cC ad hj S hI x y) (cwV 2 hts gL_behind_X3_behind rfl rfl rfl (by decide +kernel) ⟨Nat.le_of_ble_eq_true rfl, Nat.le_of_ble_eq_true rfl⟩) hK (hZ.narrow (fun _ h => Or.inl h)) hW (xRecv hK rfl hO) rfl hl.1 rfl (Nat.le_of_ble_eq_true rfl) dL_behind_5 ⟨Nat.le_of_ble_eq_true rfl, Nat.le_of_ble_eq_true rfl⟩ hS (fun _ h => Or.inl h) (fun _ h => Or.inl h) (fun E ce q9 H1 locs1 hB hz9 hk9 hS h1 h2 h3 => ?_) (fun r0 u H1 locs1 hp hF hz9 hk9 hS => ?_)
  · have hOut : xOut D cL og z H1 := va_at.kept hOut (hk9 og (va_at.lt hOut) (fun h => by obtain ⟨i9, h8, h9⟩ := h; exact hog i9 h8 h9.symm))
    obtain ⟨hB, hW1⟩ := hB
    rcases hB with ⟨ht, rfl⟩ | ⟨ht, rfl⟩
    · refine vx_catch hown [] _ _ htab (fun z9 hz => absurd hz List.not_mem_nil) (by decide) (by decide) (hts (.classLink RL 18 "java/lang/IndexOutOfBoundsException") (by decide +kernel)) (va_Nw.use (xBad_tab (.castable xEI xEI) (by decide +kernel)) (hZ.2.2.2 (.castable xEI xEI) (by decide +kernel))) h1 h2 h3 ?_
      refine lv_astore (lv' := [(4, .ref q9), (0, .ref (ad 0)), (1, .int x), (2, .int y), (3, .ref og)]) hx hb dL_behind_13 hl (by decide) rfl (fun ls hl => ?_)
      refine xn_iconst (v := 1) hx hb dL_behind_15 (by decide) ?_
      have hnw : nBehind S x y = S := by
        unfold nBehind
        rw [if_neg (by rw [ht]; decide)]
      refine W.widen (k := 10) (n := 60) (Nat.le_of_ble_eq_true rfl) (Nat.le_of_ble_eq_true rfl) ?_
      refine vx_ret ?_
      exact x_miret hx hb hr hlocks z ⟨(by rw [ht]), (fun h9 => absurd (ht.symm.trans h9) (by decide))⟩ (by show xXW D cI cC ad (nBehind S x y) _ ∧ _; rw [hnw]; exact ⟨hW1, hOut⟩) hS (fun _ h => h) dL_behind_16
    · refine vx_catch hown [_] _ _ htab (fun z9 hz => by
          have hz := List.mem_singleton.mp hz
          subst hz
          exact Or.inr ⟨by decide, _, hts (.classLink RL 18 "java/lang/IndexOutOfBoundsException") (by decide +kernel), hN1⟩) (by decide) (by decide) (hts (.classLink RL 20 "java/lang/IllegalStateException") (by decide +kernel)) (va_Nw.use (xBad_tab (.castable xES xES) (by decide +kernel)) (hZ.2.2.2 (.castable xES xES) (by decide +kernel))) h1 h2 h3 ?_
      refine lv_astore (lv' := [(4, .ref q9), (0, .ref (ad 0)), (1, .int x), (2, .int y), (3, .ref og)]) hx hb dL_behind_17 hl (by decide) rfl (fun ls hl => ?_)
      refine xn_iconst (v := 2) hx hb dL_behind_19 (by decide) ?_
      have hnw : nBehind S x y = S := by
        unfold nBehind
        rw [if_neg (by rw [ht]; decide)]
      refine W.widen (k := 10) (n := 60) (Nat.le_of_ble_eq_true rfl) (Nat.le_of_ble_eq_true rfl) ?_
      refine vx_ret ?_
      exact x_miret hx hb hr hlocks z ⟨(by rw [ht]), (fun h9 => absurd (ht.symm.trans h9) (by decide))⟩ (by show xXW D cI cC ad (nBehind S x y) _ ∧ _; rw [hnw]; exact ⟨hW1, hOut⟩) hS (fun _ h => h) dL_behind_20
  · have hOut : xOut D cL og z H1 := va_at.kept hOut (hk9 og (va_at.lt hOut) (fun h => by obtain ⟨i9, h8, h9⟩ := h; exact hog i9 h8 h9.symm))
    have ht := hp.1
    have hrr := hp.2
    subst hrr
    refine lv_i2l hx hb dL_behind_8 rfl ?_
    refine x_lastO hx hb hKL hOut hS (Or.inr rfl) dL_behind_9 (fun H2 locs2 hOut hz oq hS => ?_)
    have hF := xXW_put hF (fun i9 h9 => oq _ (hog i9 h9))
    refine lv_goto (tgt := 21) hx hb dL_behind_10 (by decide) ?_
    refine xn_iconst (v := 0) hx hb dL_behind_21 (by decide) ?_
    refine W.widen (k := 10) (n := 60) (Nat.le_of_ble_eq_true rfl) (Nat.le_of_ble_eq_true rfl) ?_
    refine vx_ret ?_
    exact x_miret hx hb hr hlocks (rBehind S x y).toInt64 ⟨(by rw [ht]), (fun _ => rfl)⟩ ⟨hF, hOut⟩ hS (fun _ h => h) dL_behind_22

set_option maxRecDepth 100000 in
set_option maxHeartbeats 4000000 in
theorem wBack_ (l : Launch) (hst9 : l.stackTraces = false) (D : va_G) (cI cC cL : ClassId) (ad : Nat → Nat) (hj : xInj ad) (S : AS) (hI : AI S) (og : Nat) (hog : ∀ i, i < 42 → ad i ≠ og) (z : Int64) (x : Int32) : vx_Met l yL_back wsL_back (xRm 16 10 60) (va_Pc [.ref (ad 0), .int x, .ref og] (xWL D cI cC cL (fun H => xXW D cI cC ad S H ∧ xOut D cL og z H) (xAO ad og))) (xI (fun r (u : Int64) => r = nI (tIn S x) ∧ (tIn S x = 0 → u = (rBack S x).toInt64)) (fun u H => xXW D cI cC ad (nBack S x) H ∧ xOut D cL og u H) (xAO ad og)) (xX xNo (fun _ _ => False)) 10 60 (xAO ad og) := by
  refine vx_ofWH (cc := cL_back) (maxL := 4) (ret := some .int) (hh := [(0, 9, 12, 18)]) (by decide) rfl ?_
  intro p e s m args below meth c s₁ B hml hv
  obtain ⟨rfl, ⟨hW, hOut⟩, hK, hKL, hZ, hN1, hN2, hN3⟩ := hv
  have hx := B.exec
  have hb := B.bytes
  have hr := B.returns
  have hts := atoms_spec (ws := wsL_back) B.pre
  have hown : s.vm.findClass RL = some m.cls := findClass_of_methodNamed B.named
  have hlocks := B.notSynchronized
  have htab := vx_table (x := yL_back) B (hts (Cond.codeWith yL_back cL_back 4 (some .int) [(0, 9, 12, 18)]) List.mem_cons_self)
  have hO : xXO D ad S.1 S.2.1 S.2.2.2.2.2 s.heap := hW.choose_spec.choose_spec.choose_spec.choose_spec.choose_spec.choose_spec.choose_spec.1
  have hS : va_S (xAO ad og) s.heap s.heap [] := va_S.rf
  have hl := lv_entry ([.ref (ad 0), .int x, .ref og]) (n := 4) (Nat.le_of_ble_eq_true rfl)
  rw [lg_entry_eq]
  generalize (lg_sl ([.ref (ad 0), .int x, .ref og]) ++ List.replicate (4 - (lg_sl ([.ref (ad 0), .int x, .ref og])).length) Slot.unset).toArray = ls at hl ⊢
  have hl : lv_has ls 4 [(0, .ref (ad 0)), (1, .int x), (2, .ref og)] := hl
  refine lv_aload_n hx hb dL_back_0 rfl (lv_at hl 2 rfl) ?_
  refine xn_iconst (v := 0) hx hb dL_back_1 (by decide) ?_
  refine lv_aload_n hx hb dL_back_2 rfl (lv_at hl 0 rfl) ?_
  refine lv_iload_n hx hb dL_back_3 rfl (lv_at hl 1 rfl) ?_
  refine xtI (As := [.int x]) (rest := [.int (nI 0), .ref og]) ⟨hx, hb, hml, hown, hts⟩ (kBack_ l hst9 D cI cC ad hj S hI x) (cwV 1 hts gL_back_X3_back rfl rfl rfl (by decide +kernel) ⟨Nat.le_of_ble_eq_true rfl, Nat.le_of_ble_eq_true rfl⟩) hK (hZ.narrow (fun _ h => Or.inl h)) hW (xRecv hK rfl hO) rfl hl.1 rfl (Nat.le_of_ble_eq_true rfl) dL_back_4 ⟨Nat.le_of_ble_eq_true rfl, Nat.le_of_ble_eq_true rfl⟩ hS (fun _ h => Or.inl h) (fun _ h => Or.inl h) (fun E ce q9 H1 locs1 hB hz9 hk9 hS h1 h2 h3 => ?_) (fun r0 u H1 locs1 hp hF hz9 hk9 hS => ?_)
  · have hOut : xOut D cL og z H1 := va_at.kept hOut (hk9 og (va_at.lt hOut) (fun h => by obtain ⟨i9, h8, h9⟩ := h; exact hog i9 h8 h9.symm))
    obtain ⟨⟨ht, rfl⟩, hW1⟩ := hB
    refine vx_catch hown [] _ _ htab (fun z9 hz => absurd hz List.not_mem_nil) (by decide) (by decide) (hts (.classLink RL 18 "java/lang/IndexOutOfBoundsException") (by decide +kernel)) (va_Nw.use (xBad_tab (.castable xEI xEI) (by decide +kernel)) (hZ.2.2.2 (.castable xEI xEI) (by decide +kernel))) h1 h2 h3 ?_
    refine lv_astore_n (lv' := [(3, .ref q9), (0, .ref (ad 0)), (1, .int x), (2, .ref og)]) hx hb dL_back_12 rfl hl (by decide) rfl (fun ls hl => ?_)
    refine xn_iconst (v := 1) hx hb dL_back_13 (by decide) ?_
    have hnw : nBack S x = S := by
      unfold nBack
      rw [if_neg (by rw [ht]; decide)]
    refine W.widen (k := 10) (n := 60) (Nat.le_of_ble_eq_true rfl) (Nat.le_of_ble_eq_true rfl) ?_
    refine vx_ret ?_
    exact x_miret hx hb hr hlocks z ⟨(by rw [ht]), (fun h9 => absurd (ht.symm.trans h9) (by decide))⟩ (by show xXW D cI cC ad (nBack S x) _ ∧ _; rw [hnw]; exact ⟨hW1, hOut⟩) hS (fun _ h => h) dL_back_14
  · have hOut : xOut D cL og z H1 := va_at.kept hOut (hk9 og (va_at.lt hOut) (fun h => by obtain ⟨i9, h8, h9⟩ := h; exact hog i9 h8 h9.symm))
    have ht := hp.1
    have hrr := hp.2
    subst hrr
    refine lv_i2l hx hb dL_back_7 rfl ?_
    refine x_lastO hx hb hKL hOut hS (Or.inr rfl) dL_back_8 (fun H2 locs2 hOut hz oq hS => ?_)
    have hF := xXW_put hF (fun i9 h9 => oq _ (hog i9 h9))
    refine lv_goto (tgt := 15) hx hb dL_back_9 (by decide) ?_
    refine xn_iconst (v := 0) hx hb dL_back_15 (by decide) ?_
    refine W.widen (k := 10) (n := 60) (Nat.le_of_ble_eq_true rfl) (Nat.le_of_ble_eq_true rfl) ?_
    refine vx_ret ?_
    exact x_miret hx hb hr hlocks (rBack S x).toInt64 ⟨(by rw [ht]), (fun _ => rfl)⟩ ⟨hF, hOut⟩ hS (fun _ h => h) dL_back_16

set_option maxRecDepth 100000 in
set_option maxHeartbeats 4000000 in
theorem wRepeat_ (l : Launch) (hst9 : l.stackTraces = false) (D : va_G) (cI cC cL : ClassId) (ad : Nat → Nat) (hj : xInj ad) (S : AS) (hI : AI S) (og : Nat) (hog : ∀ i, i < 42 → ad i ≠ og) (z : Int64) (x : Int32) (y : Int32) : vx_Met l yL_repeat wsL_repeat (xRm 16 10 60) (va_Pc [.ref (ad 0), .int x, .int y, .ref og] (xWL D cI cC cL (fun H => xXW D cI cC ad S H ∧ xOut D cL og z H) (xAO ad og))) (xI (fun r (u : Int64) => r = nI (tRepeat S x y) ∧ (tRepeat S x y = 0 → u = (rRepeat S x y).toInt64)) (fun u H => xXW D cI cC ad (nRepeat S x y) H ∧ xOut D cL og u H) (xAO ad og)) (xX xNo (fun _ _ => False)) 10 60 (xAO ad og) := by
  refine vx_ofWH (cc := cL_repeat) (maxL := 5) (ret := some .int) (hh := [(0, 10, 13, 18), (0, 10, 17, 13)]) (by decide) rfl ?_
  intro p e s m args below meth c s₁ B hml hv
  obtain ⟨rfl, ⟨hW, hOut⟩, hK, hKL, hZ, hN1, hN2, hN3⟩ := hv
  have hx := B.exec
  have hb := B.bytes
  have hr := B.returns
  have hts := atoms_spec (ws := wsL_repeat) B.pre
  have hown : s.vm.findClass RL = some m.cls := findClass_of_methodNamed B.named
  have hlocks := B.notSynchronized
  have htab := vx_table (x := yL_repeat) B (hts (Cond.codeWith yL_repeat cL_repeat 5 (some .int) [(0, 10, 13, 18), (0, 10, 17, 13)]) List.mem_cons_self)
  have hO : xXO D ad S.1 S.2.1 S.2.2.2.2.2 s.heap := hW.choose_spec.choose_spec.choose_spec.choose_spec.choose_spec.choose_spec.choose_spec.1
  have hS : va_S (xAO ad og) s.heap s.heap [] := va_S.rf
  have hl := lv_entry ([.ref (ad 0), .int x, .int y, .ref og]) (n := 5) (Nat.le_of_ble_eq_true rfl)
  rw [lg_entry_eq]
  generalize (lg_sl ([.ref (ad 0), .int x, .int y, .ref og]) ++ List.replicate (5 - (lg_sl ([.ref (ad 0), .int x, .int y, .ref og])).length) Slot.unset).toArray = ls at hl ⊢
  have hl : lv_has ls 5 [(0, .ref (ad 0)), (1, .int x), (2, .int y), (3, .ref og)] := hl
  refine lv_aload_n hx hb dL_repeat_0 rfl (lv_at hl 3 rfl) ?_
  refine xn_iconst (v := 0) hx hb dL_repeat_1 (by decide) ?_
  refine lv_aload_n hx hb dL_repeat_2 rfl (lv_at hl 0 rfl) ?_
  refine lv_iload_n hx hb dL_repeat_3 rfl (lv_at hl 1 rfl) ?_
  refine lv_iload_n hx hb dL_repeat_4 rfl (lv_at hl 2 rfl) ?_
  refine xtI (As := [.int x, .int y]) (rest := [.int (nI 0), .ref og]) ⟨hx, hb, hml, hown, hts⟩ (kRepeat_ l hst9 D cI cC ad hj S hI x y) (cwV 2 hts gL_repeat_X3_repeat rfl rfl rfl (by decide +kernel) ⟨Nat.le_of_ble_eq_true rfl, Nat.le_of_ble_eq_true rfl⟩) hK (hZ.narrow (fun _ h => Or.inl h)) hW (xRecv hK rfl hO) rfl hl.1 rfl (Nat.le_of_ble_eq_true rfl) dL_repeat_5 ⟨Nat.le_of_ble_eq_true rfl, Nat.le_of_ble_eq_true rfl⟩ hS (fun _ h => Or.inl h) (fun _ h => Or.inl h) (fun E ce q9 H1 locs1 hB hz9 hk9 hS h1 h2 h3 => ?_) (fun r0 u H1 locs1 hp hF hz9 hk9 hS => ?_)
  · have hOut : xOut D cL og z H1 := va_at.kept hOut (hk9 og (va_at.lt hOut) (fun h => by obtain ⟨i9, h8, h9⟩ := h; exact hog i9 h8 h9.symm))
    obtain ⟨hB, hW1⟩ := hB
    rcases hB with ⟨ht, rfl⟩ | ⟨ht, rfl⟩
    · refine vx_catch hown [] _ _ htab (fun z9 hz => absurd hz List.not_mem_nil) (by decide) (by decide) (hts (.classLink RL 18 "java/lang/IndexOutOfBoundsException") (by decide +kernel)) (va_Nw.use (xBad_tab (.castable xEI xEI) (by decide +kernel)) (hZ.2.2.2 (.castable xEI xEI) (by decide +kernel))) h1 h2 h3 ?_
      refine lv_astore (lv' := [(4, .ref q9), (0, .ref (ad 0)), (1, .int x), (2, .int y), (3, .ref og)]) hx hb dL_repeat_13 hl (by decide) rfl (fun ls hl => ?_)
      refine xn_iconst (v := 1) hx hb dL_repeat_15 (by decide) ?_
      have hnw : nRepeat S x y = S := by
        unfold nRepeat
        rw [if_neg (by rw [ht]; decide)]
      refine W.widen (k := 10) (n := 60) (Nat.le_of_ble_eq_true rfl) (Nat.le_of_ble_eq_true rfl) ?_
      refine vx_ret ?_
      exact x_miret hx hb hr hlocks z ⟨(by rw [ht]), (fun h9 => absurd (ht.symm.trans h9) (by decide))⟩ (by show xXW D cI cC ad (nRepeat S x y) _ ∧ _; rw [hnw]; exact ⟨hW1, hOut⟩) hS (fun _ h => h) dL_repeat_16
    · refine vx_catch hown [_] _ _ htab (fun z9 hz => by
          have hz := List.mem_singleton.mp hz
          subst hz
          exact Or.inr ⟨by decide, _, hts (.classLink RL 18 "java/lang/IndexOutOfBoundsException") (by decide +kernel), hN2⟩) (by decide) (by decide) (hts (.classLink RL 13 "java/lang/IllegalArgumentException") (by decide +kernel)) (va_Nw.use (xBad_tab (.castable xEA xEA) (by decide +kernel)) (hZ.2.2.2 (.castable xEA xEA) (by decide +kernel))) h1 h2 h3 ?_
      refine lv_astore (lv' := [(4, .ref q9), (0, .ref (ad 0)), (1, .int x), (2, .int y), (3, .ref og)]) hx hb dL_repeat_17 hl (by decide) rfl (fun ls hl => ?_)
      refine xn_iconst (v := 2) hx hb dL_repeat_19 (by decide) ?_
      have hnw : nRepeat S x y = S := by
        unfold nRepeat
        rw [if_neg (by rw [ht]; decide)]
      refine W.widen (k := 10) (n := 60) (Nat.le_of_ble_eq_true rfl) (Nat.le_of_ble_eq_true rfl) ?_
      refine vx_ret ?_
      exact x_miret hx hb hr hlocks z ⟨(by rw [ht]), (fun h9 => absurd (ht.symm.trans h9) (by decide))⟩ (by show xXW D cI cC ad (nRepeat S x y) _ ∧ _; rw [hnw]; exact ⟨hW1, hOut⟩) hS (fun _ h => h) dL_repeat_20
  · have hOut : xOut D cL og z H1 := va_at.kept hOut (hk9 og (va_at.lt hOut) (fun h => by obtain ⟨i9, h8, h9⟩ := h; exact hog i9 h8 h9.symm))
    have ht := hp.1
    have hrr := hp.2
    subst hrr
    refine lv_i2l hx hb dL_repeat_8 rfl ?_
    refine x_lastO hx hb hKL hOut hS (Or.inr rfl) dL_repeat_9 (fun H2 locs2 hOut hz oq hS => ?_)
    have hF := xXW_put hF (fun i9 h9 => oq _ (hog i9 h9))
    refine lv_goto (tgt := 21) hx hb dL_repeat_10 (by decide) ?_
    refine xn_iconst (v := 0) hx hb dL_repeat_21 (by decide) ?_
    refine W.widen (k := 10) (n := 60) (Nat.le_of_ble_eq_true rfl) (Nat.le_of_ble_eq_true rfl) ?_
    refine vx_ret ?_
    exact x_miret hx hb hr hlocks (rRepeat S x y).toInt64 ⟨(by rw [ht]), (fun _ => rfl)⟩ ⟨hF, hOut⟩ hS (fun _ h => h) dL_repeat_22

set_option maxRecDepth 100000 in
set_option maxHeartbeats 4000000 in
theorem wStep_ (l : Launch) (hst9 : l.stackTraces = false) (D : va_G) (cI cC cL : ClassId) (ad : Nat → Nat) (hj : xInj ad) (S : AS) (hI : AI S) (og : Nat) (hog : ∀ i, i < 42 → ad i ≠ og) (z : Int64) (x : Int32) : vx_Met l yL_step wsL_step (xRm 16 10 60) (va_Pc [.ref (ad 0), .int x, .ref og] (xWL D cI cC cL (fun H => xXW D cI cC ad S H ∧ xOut D cL og z H) (xAO ad og))) (xI (fun r (u : Int64) => r = nI (tStep S x) ∧ (tStep S x = 0 → u = (rStep S x).toInt64)) (fun u H => xXW D cI cC ad (nStep S x) H ∧ xOut D cL og u H) (xAO ad og)) (xX xNo (fun _ _ => False)) 10 60 (xAO ad og) := by
  refine vx_ofWH (cc := cL_step) (maxL := 4) (ret := some .int) (hh := [(0, 9, 12, 13), (0, 9, 15, 20)]) (by decide) rfl ?_
  intro p e s m args below meth c s₁ B hml hv
  obtain ⟨rfl, ⟨hW, hOut⟩, hK, hKL, hZ, hN1, hN2, hN3⟩ := hv
  have hx := B.exec
  have hb := B.bytes
  have hr := B.returns
  have hts := atoms_spec (ws := wsL_step) B.pre
  have hown : s.vm.findClass RL = some m.cls := findClass_of_methodNamed B.named
  have hlocks := B.notSynchronized
  have htab := vx_table (x := yL_step) B (hts (Cond.codeWith yL_step cL_step 4 (some .int) [(0, 9, 12, 13), (0, 9, 15, 20)]) List.mem_cons_self)
  have hO : xXO D ad S.1 S.2.1 S.2.2.2.2.2 s.heap := hW.choose_spec.choose_spec.choose_spec.choose_spec.choose_spec.choose_spec.choose_spec.1
  have hS : va_S (xAO ad og) s.heap s.heap [] := va_S.rf
  have hl := lv_entry ([.ref (ad 0), .int x, .ref og]) (n := 4) (Nat.le_of_ble_eq_true rfl)
  rw [lg_entry_eq]
  generalize (lg_sl ([.ref (ad 0), .int x, .ref og]) ++ List.replicate (4 - (lg_sl ([.ref (ad 0), .int x, .ref og])).length) Slot.unset).toArray = ls at hl ⊢
  have hl : lv_has ls 4 [(0, .ref (ad 0)), (1, .int x), (2, .ref og)] := hl
  refine lv_aload_n hx hb dL_step_0 rfl (lv_at hl 2 rfl) ?_
  refine xn_iconst (v := 0) hx hb dL_step_1 (by decide) ?_
  refine lv_aload_n hx hb dL_step_2 rfl (lv_at hl 0 rfl) ?_
  refine lv_iload_n hx hb dL_step_3 rfl (lv_at hl 1 rfl) ?_
  refine xtI (As := [.int x]) (rest := [.int (nI 0), .ref og]) ⟨hx, hb, hml, hown, hts⟩ (kStep_ l hst9 D cI cC ad hj S hI x) (cwV 1 hts gL_step_X3_step rfl rfl rfl (by decide +kernel) ⟨Nat.le_of_ble_eq_true rfl, Nat.le_of_ble_eq_true rfl⟩) hK (hZ.narrow (fun _ h => Or.inl h)) hW (xRecv hK rfl hO) rfl hl.1 rfl (Nat.le_of_ble_eq_true rfl) dL_step_4 ⟨Nat.le_of_ble_eq_true rfl, Nat.le_of_ble_eq_true rfl⟩ hS (fun _ h => Or.inl h) (fun _ h => Or.inl h) (fun E ce q9 H1 locs1 hB hz9 hk9 hS h1 h2 h3 => ?_) (fun r0 u H1 locs1 hp hF hz9 hk9 hS => ?_)
  · have hOut : xOut D cL og z H1 := va_at.kept hOut (hk9 og (va_at.lt hOut) (fun h => by obtain ⟨i9, h8, h9⟩ := h; exact hog i9 h8 h9.symm))
    obtain ⟨hB, hW1⟩ := hB
    rcases hB with ⟨ht, rfl⟩ | ⟨ht, rfl⟩
    · refine vx_catch hown [] _ _ htab (fun z9 hz => absurd hz List.not_mem_nil) (by decide) (by decide) (hts (.classLink RL 13 "java/lang/IllegalArgumentException") (by decide +kernel)) (va_Nw.use (xBad_tab (.castable xEA xEA) (by decide +kernel)) (hZ.2.2.2 (.castable xEA xEA) (by decide +kernel))) h1 h2 h3 ?_
      refine lv_astore_n (lv' := [(3, .ref q9), (0, .ref (ad 0)), (1, .int x), (2, .ref og)]) hx hb dL_step_12 rfl hl (by decide) rfl (fun ls hl => ?_)
      refine xn_iconst (v := 1) hx hb dL_step_13 (by decide) ?_
      have hnw : nStep S x = S := by
        unfold nStep
        rw [if_neg (by rw [ht]; decide)]
      refine W.widen (k := 10) (n := 60) (Nat.le_of_ble_eq_true rfl) (Nat.le_of_ble_eq_true rfl) ?_
      refine vx_ret ?_
      exact x_miret hx hb hr hlocks z ⟨(by rw [ht]), (fun h9 => absurd (ht.symm.trans h9) (by decide))⟩ (by show xXW D cI cC ad (nStep S x) _ ∧ _; rw [hnw]; exact ⟨hW1, hOut⟩) hS (fun _ h => h) dL_step_14
    · refine vx_catch hown [_] _ _ htab (fun z9 hz => by
          have hz := List.mem_singleton.mp hz
          subst hz
          exact Or.inr ⟨by decide, _, hts (.classLink RL 13 "java/lang/IllegalArgumentException") (by decide +kernel), hN3⟩) (by decide) (by decide) (hts (.classLink RL 20 "java/lang/IllegalStateException") (by decide +kernel)) (va_Nw.use (xBad_tab (.castable xES xES) (by decide +kernel)) (hZ.2.2.2 (.castable xES xES) (by decide +kernel))) h1 h2 h3 ?_
      refine lv_astore_n (lv' := [(3, .ref q9), (0, .ref (ad 0)), (1, .int x), (2, .ref og)]) hx hb dL_step_15 rfl hl (by decide) rfl (fun ls hl => ?_)
      refine xn_iconst (v := 2) hx hb dL_step_16 (by decide) ?_
      have hnw : nStep S x = S := by
        unfold nStep
        rw [if_neg (by rw [ht]; decide)]
      refine W.widen (k := 10) (n := 60) (Nat.le_of_ble_eq_true rfl) (Nat.le_of_ble_eq_true rfl) ?_
      refine vx_ret ?_
      exact x_miret hx hb hr hlocks z ⟨(by rw [ht]), (fun h9 => absurd (ht.symm.trans h9) (by decide))⟩ (by show xXW D cI cC ad (nStep S x) _ ∧ _; rw [hnw]; exact ⟨hW1, hOut⟩) hS (fun _ h => h) dL_step_17
  · have hOut : xOut D cL og z H1 := va_at.kept hOut (hk9 og (va_at.lt hOut) (fun h => by obtain ⟨i9, h8, h9⟩ := h; exact hog i9 h8 h9.symm))
    have ht := hp.1
    have hrr := hp.2
    subst hrr
    refine lv_i2l hx hb dL_step_7 rfl ?_
    refine x_lastO hx hb hKL hOut hS (Or.inr rfl) dL_step_8 (fun H2 locs2 hOut hz oq hS => ?_)
    have hF := xXW_put hF (fun i9 h9 => oq _ (hog i9 h9))
    refine lv_goto (tgt := 18) hx hb dL_step_9 (by decide) ?_
    refine xn_iconst (v := 0) hx hb dL_step_18 (by decide) ?_
    refine W.widen (k := 10) (n := 60) (Nat.le_of_ble_eq_true rfl) (Nat.le_of_ble_eq_true rfl) ?_
    refine vx_ret ?_
    exact x_miret hx hb hr hlocks (rStep S x).toInt64 ⟨(by rw [ht]), (fun _ => rfl)⟩ ⟨hF, hOut⟩ hS (fun _ h => h) dL_step_19

set_option maxRecDepth 100000 in
set_option maxHeartbeats 4000000 in
theorem wRing_ (l : Launch) (hst9 : l.stackTraces = false) (D : va_G) (cI cC cL : ClassId) (ad : Nat → Nat) (hj : xInj ad) (S : AS) (hI : AI S) (og : Nat) (hog : ∀ i, i < 42 → ad i ≠ og) (z : Int64) (x : Int32) (y : Int32) : vx_Met l yL_ring wsL_ring (xRm 16 10 60) (va_Pc [.ref (ad 0), .int x, .int y, .ref og] (xWL D cI cC cL (fun H => xXW D cI cC ad S H ∧ xOut D cL og z H) (xAO ad og))) (xI (fun r (u : Int64) => r = nI (tRing S x y) ∧ (tRing S x y = 0 → u = (rRing S x y).toInt64)) (fun u H => xXW D cI cC ad (nRing S x y) H ∧ xOut D cL og u H) (xAO ad og)) (xX xNo (fun _ _ => False)) 10 60 (xAO ad og) := by
  refine vx_ofWH (cc := cL_ring) (maxL := 5) (ret := some .int) (hh := [(0, 10, 13, 18), (0, 10, 17, 13)]) (by decide) rfl ?_
  intro p e s m args below meth c s₁ B hml hv
  obtain ⟨rfl, ⟨hW, hOut⟩, hK, hKL, hZ, hN1, hN2, hN3⟩ := hv
  have hx := B.exec
  have hb := B.bytes
  have hr := B.returns
  have hts := atoms_spec (ws := wsL_ring) B.pre
  have hown : s.vm.findClass RL = some m.cls := findClass_of_methodNamed B.named
  have hlocks := B.notSynchronized
  have htab := vx_table (x := yL_ring) B (hts (Cond.codeWith yL_ring cL_ring 5 (some .int) [(0, 10, 13, 18), (0, 10, 17, 13)]) List.mem_cons_self)
  have hO : xXO D ad S.1 S.2.1 S.2.2.2.2.2 s.heap := hW.choose_spec.choose_spec.choose_spec.choose_spec.choose_spec.choose_spec.choose_spec.1
  have hS : va_S (xAO ad og) s.heap s.heap [] := va_S.rf
  have hl := lv_entry ([.ref (ad 0), .int x, .int y, .ref og]) (n := 5) (Nat.le_of_ble_eq_true rfl)
  rw [lg_entry_eq]
  generalize (lg_sl ([.ref (ad 0), .int x, .int y, .ref og]) ++ List.replicate (5 - (lg_sl ([.ref (ad 0), .int x, .int y, .ref og])).length) Slot.unset).toArray = ls at hl ⊢
  have hl : lv_has ls 5 [(0, .ref (ad 0)), (1, .int x), (2, .int y), (3, .ref og)] := hl
  refine lv_aload_n hx hb dL_ring_0 rfl (lv_at hl 3 rfl) ?_
  refine xn_iconst (v := 0) hx hb dL_ring_1 (by decide) ?_
  refine lv_aload_n hx hb dL_ring_2 rfl (lv_at hl 0 rfl) ?_
  refine lv_iload_n hx hb dL_ring_3 rfl (lv_at hl 1 rfl) ?_
  refine lv_iload_n hx hb dL_ring_4 rfl (lv_at hl 2 rfl) ?_
  refine xtI (As := [.int x, .int y]) (rest := [.int (nI 0), .ref og]) ⟨hx, hb, hml, hown, hts⟩ (kRing_ l hst9 D cI cC ad hj S hI x y) (cwV 2 hts gL_ring_X3_ring rfl rfl rfl (by decide +kernel) ⟨Nat.le_of_ble_eq_true rfl, Nat.le_of_ble_eq_true rfl⟩) hK (hZ.narrow (fun _ h => Or.inl h)) hW (xRecv hK rfl hO) rfl hl.1 rfl (Nat.le_of_ble_eq_true rfl) dL_ring_5 ⟨Nat.le_of_ble_eq_true rfl, Nat.le_of_ble_eq_true rfl⟩ hS (fun _ h => Or.inl h) (fun _ h => Or.inl h) (fun E ce q9 H1 locs1 hB hz9 hk9 hS h1 h2 h3 => ?_) (fun r0 u H1 locs1 hp hF hz9 hk9 hS => ?_)
  · have hOut : xOut D cL og z H1 := va_at.kept hOut (hk9 og (va_at.lt hOut) (fun h => by obtain ⟨i9, h8, h9⟩ := h; exact hog i9 h8 h9.symm))
    obtain ⟨hB, hW1⟩ := hB
    rcases hB with ⟨ht, rfl⟩ | ⟨ht, rfl⟩
    · refine vx_catch hown [] _ _ htab (fun z9 hz => absurd hz List.not_mem_nil) (by decide) (by decide) (hts (.classLink RL 18 "java/lang/IndexOutOfBoundsException") (by decide +kernel)) (va_Nw.use (xBad_tab (.castable xEI xEI) (by decide +kernel)) (hZ.2.2.2 (.castable xEI xEI) (by decide +kernel))) h1 h2 h3 ?_
      refine lv_astore (lv' := [(4, .ref q9), (0, .ref (ad 0)), (1, .int x), (2, .int y), (3, .ref og)]) hx hb dL_ring_13 hl (by decide) rfl (fun ls hl => ?_)
      refine xn_iconst (v := 1) hx hb dL_ring_15 (by decide) ?_
      have hnw : nRing S x y = S := by
        unfold nRing
        rw [if_neg (by rw [ht]; decide)]
      refine W.widen (k := 10) (n := 60) (Nat.le_of_ble_eq_true rfl) (Nat.le_of_ble_eq_true rfl) ?_
      refine vx_ret ?_
      exact x_miret hx hb hr hlocks z ⟨(by rw [ht]), (fun h9 => absurd (ht.symm.trans h9) (by decide))⟩ (by show xXW D cI cC ad (nRing S x y) _ ∧ _; rw [hnw]; exact ⟨hW1, hOut⟩) hS (fun _ h => h) dL_ring_16
    · refine vx_catch hown [_] _ _ htab (fun z9 hz => by
          have hz := List.mem_singleton.mp hz
          subst hz
          exact Or.inr ⟨by decide, _, hts (.classLink RL 18 "java/lang/IndexOutOfBoundsException") (by decide +kernel), hN2⟩) (by decide) (by decide) (hts (.classLink RL 13 "java/lang/IllegalArgumentException") (by decide +kernel)) (va_Nw.use (xBad_tab (.castable xEA xEA) (by decide +kernel)) (hZ.2.2.2 (.castable xEA xEA) (by decide +kernel))) h1 h2 h3 ?_
      refine lv_astore (lv' := [(4, .ref q9), (0, .ref (ad 0)), (1, .int x), (2, .int y), (3, .ref og)]) hx hb dL_ring_17 hl (by decide) rfl (fun ls hl => ?_)
      refine xn_iconst (v := 2) hx hb dL_ring_19 (by decide) ?_
      have hnw : nRing S x y = S := by
        unfold nRing
        rw [if_neg (by rw [ht]; decide)]
      refine W.widen (k := 10) (n := 60) (Nat.le_of_ble_eq_true rfl) (Nat.le_of_ble_eq_true rfl) ?_
      refine vx_ret ?_
      exact x_miret hx hb hr hlocks z ⟨(by rw [ht]), (fun h9 => absurd (ht.symm.trans h9) (by decide))⟩ (by show xXW D cI cC ad (nRing S x y) _ ∧ _; rw [hnw]; exact ⟨hW1, hOut⟩) hS (fun _ h => h) dL_ring_20
  · have hOut : xOut D cL og z H1 := va_at.kept hOut (hk9 og (va_at.lt hOut) (fun h => by obtain ⟨i9, h8, h9⟩ := h; exact hog i9 h8 h9.symm))
    have ht := hp.1
    have hrr := hp.2
    subst hrr
    refine lv_i2l hx hb dL_ring_8 rfl ?_
    refine x_lastO hx hb hKL hOut hS (Or.inr rfl) dL_ring_9 (fun H2 locs2 hOut hz oq hS => ?_)
    have hF := xXW_put hF (fun i9 h9 => oq _ (hog i9 h9))
    refine lv_goto (tgt := 21) hx hb dL_ring_10 (by decide) ?_
    refine xn_iconst (v := 0) hx hb dL_ring_21 (by decide) ?_
    refine W.widen (k := 10) (n := 60) (Nat.le_of_ble_eq_true rfl) (Nat.le_of_ble_eq_true rfl) ?_
    refine vx_ret ?_
    exact x_miret hx hb hr hlocks (rRing S x y).toInt64 ⟨(by rw [ht]), (fun _ => rfl)⟩ ⟨hF, hOut⟩ hS (fun _ h => h) dL_ring_22

set_option maxRecDepth 100000 in
set_option maxHeartbeats 4000000 in
theorem wBell_ (l : Launch) (hst9 : l.stackTraces = false) (D : va_G) (cI cC cL : ClassId) (ad : Nat → Nat) (hj : xInj ad) (S : AS) (hI : AI S) (og : Nat) (hog : ∀ i, i < 42 → ad i ≠ og) (z : Int64) (x : Int32) (y : Int32) : vx_Met l yL_bell wsL_bell (xRm 16 10 60) (va_Pc [.ref (ad 0), .int x, .int y, .ref og] (xWL D cI cC cL (fun H => xXW D cI cC ad S H ∧ xOut D cL og z H) (xAO ad og))) (xI (fun r (u : Int64) => r = nI (tBell S x y) ∧ (tBell S x y = 0 → u = (rBell S x y).toInt64)) (fun u H => xXW D cI cC ad (S) H ∧ xOut D cL og u H) (xAO ad og)) (xX xNo (fun _ _ => False)) 10 60 (xAO ad og) := by
  refine vx_ofWH (cc := cL_bell) (maxL := 5) (ret := some .int) (hh := [(0, 10, 13, 18)]) (by decide) rfl ?_
  intro p e s m args below meth c s₁ B hml hv
  obtain ⟨rfl, ⟨hW, hOut⟩, hK, hKL, hZ, hN1, hN2, hN3⟩ := hv
  have hx := B.exec
  have hb := B.bytes
  have hr := B.returns
  have hts := atoms_spec (ws := wsL_bell) B.pre
  have hown : s.vm.findClass RL = some m.cls := findClass_of_methodNamed B.named
  have hlocks := B.notSynchronized
  have htab := vx_table (x := yL_bell) B (hts (Cond.codeWith yL_bell cL_bell 5 (some .int) [(0, 10, 13, 18)]) List.mem_cons_self)
  have hO : xXO D ad S.1 S.2.1 S.2.2.2.2.2 s.heap := hW.choose_spec.choose_spec.choose_spec.choose_spec.choose_spec.choose_spec.choose_spec.1
  have hS : va_S (xAO ad og) s.heap s.heap [] := va_S.rf
  have hl := lv_entry ([.ref (ad 0), .int x, .int y, .ref og]) (n := 5) (Nat.le_of_ble_eq_true rfl)
  rw [lg_entry_eq]
  generalize (lg_sl ([.ref (ad 0), .int x, .int y, .ref og]) ++ List.replicate (5 - (lg_sl ([.ref (ad 0), .int x, .int y, .ref og])).length) Slot.unset).toArray = ls at hl ⊢
  have hl : lv_has ls 5 [(0, .ref (ad 0)), (1, .int x), (2, .int y), (3, .ref og)] := hl
  refine lv_aload_n hx hb dL_bell_0 rfl (lv_at hl 3 rfl) ?_
  refine xn_iconst (v := 0) hx hb dL_bell_1 (by decide) ?_
  refine lv_aload_n hx hb dL_bell_2 rfl (lv_at hl 0 rfl) ?_
  refine lv_iload_n hx hb dL_bell_3 rfl (lv_at hl 1 rfl) ?_
  refine lv_iload_n hx hb dL_bell_4 rfl (lv_at hl 2 rfl) ?_
  refine xtI (As := [.int x, .int y]) (rest := [.int (nI 0), .ref og]) ⟨hx, hb, hml, hown, hts⟩ (kBell_ l hst9 D cI cC ad hj S hI x y) (cwV 2 hts gL_bell_X3_bell rfl rfl rfl (by decide +kernel) ⟨Nat.le_of_ble_eq_true rfl, Nat.le_of_ble_eq_true rfl⟩) hK (hZ.narrow (fun _ h => Or.inl h)) hW (xRecv hK rfl hO) rfl hl.1 rfl (Nat.le_of_ble_eq_true rfl) dL_bell_5 ⟨Nat.le_of_ble_eq_true rfl, Nat.le_of_ble_eq_true rfl⟩ hS (fun _ h => Or.inl h) (fun _ h => Or.inl h) (fun E ce q9 H1 locs1 hB hz9 hk9 hS h1 h2 h3 => ?_) (fun r0 u H1 locs1 hp hF hz9 hk9 hS => ?_)
  · have hOut : xOut D cL og z H1 := va_at.kept hOut (hk9 og (va_at.lt hOut) (fun h => by obtain ⟨i9, h8, h9⟩ := h; exact hog i9 h8 h9.symm))
    obtain ⟨⟨ht, rfl⟩, hW1⟩ := hB
    refine vx_catch hown [] _ _ htab (fun z9 hz => absurd hz List.not_mem_nil) (by decide) (by decide) (hts (.classLink RL 18 "java/lang/IndexOutOfBoundsException") (by decide +kernel)) (va_Nw.use (xBad_tab (.castable xEI xEI) (by decide +kernel)) (hZ.2.2.2 (.castable xEI xEI) (by decide +kernel))) h1 h2 h3 ?_
    refine lv_astore (lv' := [(4, .ref q9), (0, .ref (ad 0)), (1, .int x), (2, .int y), (3, .ref og)]) hx hb dL_bell_13 hl (by decide) rfl (fun ls hl => ?_)
    refine xn_iconst (v := 1) hx hb dL_bell_15 (by decide) ?_
    refine W.widen (k := 10) (n := 60) (Nat.le_of_ble_eq_true rfl) (Nat.le_of_ble_eq_true rfl) ?_
    refine vx_ret ?_
    exact x_miret hx hb hr hlocks z ⟨(by rw [ht]), (fun h9 => absurd (ht.symm.trans h9) (by decide))⟩ ⟨hW1, hOut⟩ hS (fun _ h => h) dL_bell_16
  · have hOut : xOut D cL og z H1 := va_at.kept hOut (hk9 og (va_at.lt hOut) (fun h => by obtain ⟨i9, h8, h9⟩ := h; exact hog i9 h8 h9.symm))
    have ht := hp.1
    have hrr := hp.2
    subst hrr
    refine lv_i2l hx hb dL_bell_8 rfl ?_
    refine x_lastO hx hb hKL hOut hS (Or.inr rfl) dL_bell_9 (fun H2 locs2 hOut hz oq hS => ?_)
    have hF := xXW_put hF (fun i9 h9 => oq _ (hog i9 h9))
    refine lv_goto (tgt := 17) hx hb dL_bell_10 (by decide) ?_
    refine xn_iconst (v := 0) hx hb dL_bell_17 (by decide) ?_
    refine W.widen (k := 10) (n := 60) (Nat.le_of_ble_eq_true rfl) (Nat.le_of_ble_eq_true rfl) ?_
    refine vx_ret ?_
    exact x_miret hx hb hr hlocks (rBell S x y).toInt64 ⟨(by rw [ht]), (fun _ => rfl)⟩ ⟨hF, hOut⟩ hS (fun _ h => h) dL_bell_18

set_option maxRecDepth 100000 in
set_option maxHeartbeats 4000000 in
theorem wTold_ (l : Launch) (hst9 : l.stackTraces = false) (D : va_G) (cI cC cL : ClassId) (ad : Nat → Nat) (hj : xInj ad) (S : AS) (hI : AI S) (og : Nat) (hog : ∀ i, i < 42 → ad i ≠ og) (z : Int64) (x : Int32) (y : Int32) : vx_Met l yL_told wsL_told (xRm 16 10 60) (va_Pc [.ref (ad 0), .int x, .int y, .ref og] (xWL D cI cC cL (fun H => xXW D cI cC ad S H ∧ xOut D cL og z H) (xAO ad og))) (xI (fun r (u : Int64) => r = nI (tTold S x y) ∧ (tTold S x y = 0 → u = (rTold S x y).toInt64)) (fun u H => xXW D cI cC ad (S) H ∧ xOut D cL og u H) (xAO ad og)) (xX xNo (fun _ _ => False)) 10 60 (xAO ad og) := by
  refine vx_ofWH (cc := cL_told) (maxL := 5) (ret := some .int) (hh := [(0, 10, 13, 18)]) (by decide) rfl ?_
  intro p e s m args below meth c s₁ B hml hv
  obtain ⟨rfl, ⟨hW, hOut⟩, hK, hKL, hZ, hN1, hN2, hN3⟩ := hv
  have hx := B.exec
  have hb := B.bytes
  have hr := B.returns
  have hts := atoms_spec (ws := wsL_told) B.pre
  have hown : s.vm.findClass RL = some m.cls := findClass_of_methodNamed B.named
  have hlocks := B.notSynchronized
  have htab := vx_table (x := yL_told) B (hts (Cond.codeWith yL_told cL_told 5 (some .int) [(0, 10, 13, 18)]) List.mem_cons_self)
  have hO : xXO D ad S.1 S.2.1 S.2.2.2.2.2 s.heap := hW.choose_spec.choose_spec.choose_spec.choose_spec.choose_spec.choose_spec.choose_spec.1
  have hS : va_S (xAO ad og) s.heap s.heap [] := va_S.rf
  have hl := lv_entry ([.ref (ad 0), .int x, .int y, .ref og]) (n := 5) (Nat.le_of_ble_eq_true rfl)
  rw [lg_entry_eq]
  generalize (lg_sl ([.ref (ad 0), .int x, .int y, .ref og]) ++ List.replicate (5 - (lg_sl ([.ref (ad 0), .int x, .int y, .ref og])).length) Slot.unset).toArray = ls at hl ⊢
  have hl : lv_has ls 5 [(0, .ref (ad 0)), (1, .int x), (2, .int y), (3, .ref og)] := hl
  refine lv_aload_n hx hb dL_told_0 rfl (lv_at hl 3 rfl) ?_
  refine xn_iconst (v := 0) hx hb dL_told_1 (by decide) ?_
  refine lv_aload_n hx hb dL_told_2 rfl (lv_at hl 0 rfl) ?_
  refine lv_iload_n hx hb dL_told_3 rfl (lv_at hl 1 rfl) ?_
  refine lv_iload_n hx hb dL_told_4 rfl (lv_at hl 2 rfl) ?_
  refine xtI (As := [.int x, .int y]) (rest := [.int (nI 0), .ref og]) ⟨hx, hb, hml, hown, hts⟩ (kTold_ l hst9 D cI cC ad hj S hI x y) (cwV 2 hts gL_told_X3_told rfl rfl rfl (by decide +kernel) ⟨Nat.le_of_ble_eq_true rfl, Nat.le_of_ble_eq_true rfl⟩) hK (hZ.narrow (fun _ h => Or.inl h)) hW (xRecv hK rfl hO) rfl hl.1 rfl (Nat.le_of_ble_eq_true rfl) dL_told_5 ⟨Nat.le_of_ble_eq_true rfl, Nat.le_of_ble_eq_true rfl⟩ hS (fun _ h => Or.inl h) (fun _ h => Or.inl h) (fun E ce q9 H1 locs1 hB hz9 hk9 hS h1 h2 h3 => ?_) (fun r0 u H1 locs1 hp hF hz9 hk9 hS => ?_)
  · have hOut : xOut D cL og z H1 := va_at.kept hOut (hk9 og (va_at.lt hOut) (fun h => by obtain ⟨i9, h8, h9⟩ := h; exact hog i9 h8 h9.symm))
    obtain ⟨⟨ht, rfl⟩, hW1⟩ := hB
    refine vx_catch hown [] _ _ htab (fun z9 hz => absurd hz List.not_mem_nil) (by decide) (by decide) (hts (.classLink RL 18 "java/lang/IndexOutOfBoundsException") (by decide +kernel)) (va_Nw.use (xBad_tab (.castable xEI xEI) (by decide +kernel)) (hZ.2.2.2 (.castable xEI xEI) (by decide +kernel))) h1 h2 h3 ?_
    refine lv_astore (lv' := [(4, .ref q9), (0, .ref (ad 0)), (1, .int x), (2, .int y), (3, .ref og)]) hx hb dL_told_13 hl (by decide) rfl (fun ls hl => ?_)
    refine xn_iconst (v := 1) hx hb dL_told_15 (by decide) ?_
    refine W.widen (k := 10) (n := 60) (Nat.le_of_ble_eq_true rfl) (Nat.le_of_ble_eq_true rfl) ?_
    refine vx_ret ?_
    exact x_miret hx hb hr hlocks z ⟨(by rw [ht]), (fun h9 => absurd (ht.symm.trans h9) (by decide))⟩ ⟨hW1, hOut⟩ hS (fun _ h => h) dL_told_16
  · have hOut : xOut D cL og z H1 := va_at.kept hOut (hk9 og (va_at.lt hOut) (fun h => by obtain ⟨i9, h8, h9⟩ := h; exact hog i9 h8 h9.symm))
    have ht := hp.1
    have hrr := hp.2
    subst hrr
    refine lv_i2l hx hb dL_told_8 rfl ?_
    refine x_lastO hx hb hKL hOut hS (Or.inr rfl) dL_told_9 (fun H2 locs2 hOut hz oq hS => ?_)
    have hF := xXW_put hF (fun i9 h9 => oq _ (hog i9 h9))
    refine lv_goto (tgt := 17) hx hb dL_told_10 (by decide) ?_
    refine xn_iconst (v := 0) hx hb dL_told_17 (by decide) ?_
    refine W.widen (k := 10) (n := 60) (Nat.le_of_ble_eq_true rfl) (Nat.le_of_ble_eq_true rfl) ?_
    refine vx_ret ?_
    exact x_miret hx hb hr hlocks (rTold S x y).toInt64 ⟨(by rw [ht]), (fun _ => rfl)⟩ ⟨hF, hOut⟩ hS (fun _ h => h) dL_told_18

set_option maxRecDepth 100000 in
set_option maxHeartbeats 4000000 in
theorem wRound_ (l : Launch) (hst9 : l.stackTraces = false) (D : va_G) (cI cC cL : ClassId) (ad : Nat → Nat) (hj : xInj ad) (S : AS) (hI : AI S) (og : Nat) (hog : ∀ i, i < 42 → ad i ≠ og) (z : Int64) (x : Int32) (y : Int32) : vx_Met l yL_round wsL_round (xRm 16 10 60) (va_Pc [.ref (ad 0), .int x, .int y, .ref og] (xWL D cI cC cL (fun H => xXW D cI cC ad S H ∧ xOut D cL og z H) (xAO ad og))) (xI (fun r (u : Int64) => r = nI (tBell S x y) ∧ (tBell S x y = 0 → u = (rRound S x y).toInt64)) (fun u H => xXW D cI cC ad (S) H ∧ xOut D cL og u H) (xAO ad og)) (xX xNo (fun _ _ => False)) 10 60 (xAO ad og) := by
  refine vx_ofWH (cc := cL_round) (maxL := 5) (ret := some .int) (hh := [(0, 10, 13, 18)]) (by decide) rfl ?_
  intro p e s m args below meth c s₁ B hml hv
  obtain ⟨rfl, ⟨hW, hOut⟩, hK, hKL, hZ, hN1, hN2, hN3⟩ := hv
  have hx := B.exec
  have hb := B.bytes
  have hr := B.returns
  have hts := atoms_spec (ws := wsL_round) B.pre
  have hown : s.vm.findClass RL = some m.cls := findClass_of_methodNamed B.named
  have hlocks := B.notSynchronized
  have htab := vx_table (x := yL_round) B (hts (Cond.codeWith yL_round cL_round 5 (some .int) [(0, 10, 13, 18)]) List.mem_cons_self)
  have hO : xXO D ad S.1 S.2.1 S.2.2.2.2.2 s.heap := hW.choose_spec.choose_spec.choose_spec.choose_spec.choose_spec.choose_spec.choose_spec.1
  have hS : va_S (xAO ad og) s.heap s.heap [] := va_S.rf
  have hl := lv_entry ([.ref (ad 0), .int x, .int y, .ref og]) (n := 5) (Nat.le_of_ble_eq_true rfl)
  rw [lg_entry_eq]
  generalize (lg_sl ([.ref (ad 0), .int x, .int y, .ref og]) ++ List.replicate (5 - (lg_sl ([.ref (ad 0), .int x, .int y, .ref og])).length) Slot.unset).toArray = ls at hl ⊢
  have hl : lv_has ls 5 [(0, .ref (ad 0)), (1, .int x), (2, .int y), (3, .ref og)] := hl
  refine lv_aload_n hx hb dL_round_0 rfl (lv_at hl 3 rfl) ?_
  refine xn_iconst (v := 0) hx hb dL_round_1 (by decide) ?_
  refine lv_aload_n hx hb dL_round_2 rfl (lv_at hl 0 rfl) ?_
  refine lv_iload_n hx hb dL_round_3 rfl (lv_at hl 1 rfl) ?_
  refine lv_iload_n hx hb dL_round_4 rfl (lv_at hl 2 rfl) ?_
  refine xtI (As := [.int x, .int y]) (rest := [.int (nI 0), .ref og]) ⟨hx, hb, hml, hown, hts⟩ (kRound_ l hst9 D cI cC ad hj S hI x y) (cwV 2 hts gL_round_X3_round rfl rfl rfl (by decide +kernel) ⟨Nat.le_of_ble_eq_true rfl, Nat.le_of_ble_eq_true rfl⟩) hK (hZ.narrow (fun _ h => Or.inl h)) hW (xRecv hK rfl hO) rfl hl.1 rfl (Nat.le_of_ble_eq_true rfl) dL_round_5 ⟨Nat.le_of_ble_eq_true rfl, Nat.le_of_ble_eq_true rfl⟩ hS (fun _ h => Or.inl h) (fun _ h => Or.inl h) (fun E ce q9 H1 locs1 hB hz9 hk9 hS h1 h2 h3 => ?_) (fun r0 u H1 locs1 hp hF hz9 hk9 hS => ?_)
  · have hOut : xOut D cL og z H1 := va_at.kept hOut (hk9 og (va_at.lt hOut) (fun h => by obtain ⟨i9, h8, h9⟩ := h; exact hog i9 h8 h9.symm))
    obtain ⟨⟨ht, rfl⟩, hW1⟩ := hB
    refine vx_catch hown [] _ _ htab (fun z9 hz => absurd hz List.not_mem_nil) (by decide) (by decide) (hts (.classLink RL 18 "java/lang/IndexOutOfBoundsException") (by decide +kernel)) (va_Nw.use (xBad_tab (.castable xEI xEI) (by decide +kernel)) (hZ.2.2.2 (.castable xEI xEI) (by decide +kernel))) h1 h2 h3 ?_
    refine lv_astore (lv' := [(4, .ref q9), (0, .ref (ad 0)), (1, .int x), (2, .int y), (3, .ref og)]) hx hb dL_round_13 hl (by decide) rfl (fun ls hl => ?_)
    refine xn_iconst (v := 1) hx hb dL_round_15 (by decide) ?_
    refine W.widen (k := 10) (n := 60) (Nat.le_of_ble_eq_true rfl) (Nat.le_of_ble_eq_true rfl) ?_
    refine vx_ret ?_
    exact x_miret hx hb hr hlocks z ⟨(by rw [ht]), (fun h9 => absurd (ht.symm.trans h9) (by decide))⟩ ⟨hW1, hOut⟩ hS (fun _ h => h) dL_round_16
  · have hOut : xOut D cL og z H1 := va_at.kept hOut (hk9 og (va_at.lt hOut) (fun h => by obtain ⟨i9, h8, h9⟩ := h; exact hog i9 h8 h9.symm))
    have ht := hp.1
    have hrr := hp.2
    subst hrr
    refine lv_i2l hx hb dL_round_8 rfl ?_
    refine x_lastO hx hb hKL hOut hS (Or.inr rfl) dL_round_9 (fun H2 locs2 hOut hz oq hS => ?_)
    have hF := xXW_put hF (fun i9 h9 => oq _ (hog i9 h9))
    refine lv_goto (tgt := 17) hx hb dL_round_10 (by decide) ?_
    refine xn_iconst (v := 0) hx hb dL_round_17 (by decide) ?_
    refine W.widen (k := 10) (n := 60) (Nat.le_of_ble_eq_true rfl) (Nat.le_of_ble_eq_true rfl) ?_
    refine vx_ret ?_
    exact x_miret hx hb hr hlocks (rRound S x y).toInt64 ⟨(by rw [ht]), (fun _ => rfl)⟩ ⟨hF, hOut⟩ hS (fun _ h => h) dL_round_18

set_option maxRecDepth 100000 in
set_option maxHeartbeats 4000000 in
theorem wApart_ (l : Launch) (hst9 : l.stackTraces = false) (D : va_G) (cI cC cL : ClassId) (ad : Nat → Nat) (hj : xInj ad) (S : AS) (hI : AI S) (og : Nat) (hog : ∀ i, i < 42 → ad i ≠ og) (z : Int64) (x : Int32) (y : Int32) : vx_Met l yL_apart wsL_apart (xRm 16 10 60) (va_Pc [.ref (ad 0), .int x, .int y, .ref og] (xWL D cI cC cL (fun H => xXW D cI cC ad S H ∧ xOut D cL og z H) (xAO ad og))) (xI (fun r (u : Int64) => r = nI (tTwo S x y) ∧ (tTwo S x y = 0 → u = (rApart S x y).toInt64)) (fun u H => xXW D cI cC ad (S) H ∧ xOut D cL og u H) (xAO ad og)) (xX xNo (fun _ _ => False)) 10 60 (xAO ad og) := by
  refine vx_ofWH (cc := cL_apart) (maxL := 5) (ret := some .int) (hh := [(0, 10, 13, 18)]) (by decide) rfl ?_
  intro p e s m args below meth c s₁ B hml hv
  obtain ⟨rfl, ⟨hW, hOut⟩, hK, hKL, hZ, hN1, hN2, hN3⟩ := hv
  have hx := B.exec
  have hb := B.bytes
  have hr := B.returns
  have hts := atoms_spec (ws := wsL_apart) B.pre
  have hown : s.vm.findClass RL = some m.cls := findClass_of_methodNamed B.named
  have hlocks := B.notSynchronized
  have htab := vx_table (x := yL_apart) B (hts (Cond.codeWith yL_apart cL_apart 5 (some .int) [(0, 10, 13, 18)]) List.mem_cons_self)
  have hO : xXO D ad S.1 S.2.1 S.2.2.2.2.2 s.heap := hW.choose_spec.choose_spec.choose_spec.choose_spec.choose_spec.choose_spec.choose_spec.1
  have hS : va_S (xAO ad og) s.heap s.heap [] := va_S.rf
  have hl := lv_entry ([.ref (ad 0), .int x, .int y, .ref og]) (n := 5) (Nat.le_of_ble_eq_true rfl)
  rw [lg_entry_eq]
  generalize (lg_sl ([.ref (ad 0), .int x, .int y, .ref og]) ++ List.replicate (5 - (lg_sl ([.ref (ad 0), .int x, .int y, .ref og])).length) Slot.unset).toArray = ls at hl ⊢
  have hl : lv_has ls 5 [(0, .ref (ad 0)), (1, .int x), (2, .int y), (3, .ref og)] := hl
  refine lv_aload_n hx hb dL_apart_0 rfl (lv_at hl 3 rfl) ?_
  refine xn_iconst (v := 0) hx hb dL_apart_1 (by decide) ?_
  refine lv_aload_n hx hb dL_apart_2 rfl (lv_at hl 0 rfl) ?_
  refine lv_iload_n hx hb dL_apart_3 rfl (lv_at hl 1 rfl) ?_
  refine lv_iload_n hx hb dL_apart_4 rfl (lv_at hl 2 rfl) ?_
  refine xtI (As := [.int x, .int y]) (rest := [.int (nI 0), .ref og]) ⟨hx, hb, hml, hown, hts⟩ (kApart_ l hst9 D cI cC ad hj S hI x y) (cwV 2 hts gL_apart_X3_apart rfl rfl rfl (by decide +kernel) ⟨Nat.le_of_ble_eq_true rfl, Nat.le_of_ble_eq_true rfl⟩) hK (hZ.narrow (fun _ h => Or.inl h)) hW (xRecv hK rfl hO) rfl hl.1 rfl (Nat.le_of_ble_eq_true rfl) dL_apart_5 ⟨Nat.le_of_ble_eq_true rfl, Nat.le_of_ble_eq_true rfl⟩ hS (fun _ h => Or.inl h) (fun _ h => Or.inl h) (fun E ce q9 H1 locs1 hB hz9 hk9 hS h1 h2 h3 => ?_) (fun r0 u H1 locs1 hp hF hz9 hk9 hS => ?_)
  · have hOut : xOut D cL og z H1 := va_at.kept hOut (hk9 og (va_at.lt hOut) (fun h => by obtain ⟨i9, h8, h9⟩ := h; exact hog i9 h8 h9.symm))
    obtain ⟨⟨ht, rfl⟩, hW1⟩ := hB
    refine vx_catch hown [] _ _ htab (fun z9 hz => absurd hz List.not_mem_nil) (by decide) (by decide) (hts (.classLink RL 18 "java/lang/IndexOutOfBoundsException") (by decide +kernel)) (va_Nw.use (xBad_tab (.castable xEI xEI) (by decide +kernel)) (hZ.2.2.2 (.castable xEI xEI) (by decide +kernel))) h1 h2 h3 ?_
    refine lv_astore (lv' := [(4, .ref q9), (0, .ref (ad 0)), (1, .int x), (2, .int y), (3, .ref og)]) hx hb dL_apart_13 hl (by decide) rfl (fun ls hl => ?_)
    refine xn_iconst (v := 1) hx hb dL_apart_15 (by decide) ?_
    refine W.widen (k := 10) (n := 60) (Nat.le_of_ble_eq_true rfl) (Nat.le_of_ble_eq_true rfl) ?_
    refine vx_ret ?_
    exact x_miret hx hb hr hlocks z ⟨(by rw [ht]), (fun h9 => absurd (ht.symm.trans h9) (by decide))⟩ ⟨hW1, hOut⟩ hS (fun _ h => h) dL_apart_16
  · have hOut : xOut D cL og z H1 := va_at.kept hOut (hk9 og (va_at.lt hOut) (fun h => by obtain ⟨i9, h8, h9⟩ := h; exact hog i9 h8 h9.symm))
    have ht := hp.1
    have hrr := hp.2
    subst hrr
    refine lv_i2l hx hb dL_apart_8 rfl ?_
    refine x_lastO hx hb hKL hOut hS (Or.inr rfl) dL_apart_9 (fun H2 locs2 hOut hz oq hS => ?_)
    have hF := xXW_put hF (fun i9 h9 => oq _ (hog i9 h9))
    refine lv_goto (tgt := 17) hx hb dL_apart_10 (by decide) ?_
    refine xn_iconst (v := 0) hx hb dL_apart_17 (by decide) ?_
    refine W.widen (k := 10) (n := 60) (Nat.le_of_ble_eq_true rfl) (Nat.le_of_ble_eq_true rfl) ?_
    refine vx_ret ?_
    exact x_miret hx hb hr hlocks (rApart S x y).toInt64 ⟨(by rw [ht]), (fun _ => rfl)⟩ ⟨hF, hOut⟩ hS (fun _ h => h) dL_apart_18

set_option maxRecDepth 100000 in
set_option maxHeartbeats 4000000 in
theorem wCount_ (l : Launch) (hst9 : l.stackTraces = false) (D : va_G) (cI cC cL : ClassId) (ad : Nat → Nat) (hj : xInj ad) (S : AS) (hI : AI S) (og : Nat) (hog : ∀ i, i < 42 → ad i ≠ og) (z : Int64) (x : Int32) : vx_Met l yL_count wsL_count (xRm 16 10 60) (va_Pc [.ref (ad 0), .int x, .ref og] (xWL D cI cC cL (fun H => xXW D cI cC ad S H ∧ xOut D cL og z H) (xAO ad og))) (xI (fun r (u : Int64) => r = nI (tCount S x) ∧ (tCount S x = 0 → u = (rCount S x).toInt64)) (fun u H => xXW D cI cC ad (S) H ∧ xOut D cL og u H) (xAO ad og)) (xX xNo (fun _ _ => False)) 10 60 (xAO ad og) := by
  refine vx_ofWH (cc := cL_count) (maxL := 4) (ret := some .int) (hh := [(0, 9, 12, 18)]) (by decide) rfl ?_
  intro p e s m args below meth c s₁ B hml hv
  obtain ⟨rfl, ⟨hW, hOut⟩, hK, hKL, hZ, hN1, hN2, hN3⟩ := hv
  have hx := B.exec
  have hb := B.bytes
  have hr := B.returns
  have hts := atoms_spec (ws := wsL_count) B.pre
  have hown : s.vm.findClass RL = some m.cls := findClass_of_methodNamed B.named
  have hlocks := B.notSynchronized
  have htab := vx_table (x := yL_count) B (hts (Cond.codeWith yL_count cL_count 4 (some .int) [(0, 9, 12, 18)]) List.mem_cons_self)
  have hO : xXO D ad S.1 S.2.1 S.2.2.2.2.2 s.heap := hW.choose_spec.choose_spec.choose_spec.choose_spec.choose_spec.choose_spec.choose_spec.1
  have hS : va_S (xAO ad og) s.heap s.heap [] := va_S.rf
  have hl := lv_entry ([.ref (ad 0), .int x, .ref og]) (n := 4) (Nat.le_of_ble_eq_true rfl)
  rw [lg_entry_eq]
  generalize (lg_sl ([.ref (ad 0), .int x, .ref og]) ++ List.replicate (4 - (lg_sl ([.ref (ad 0), .int x, .ref og])).length) Slot.unset).toArray = ls at hl ⊢
  have hl : lv_has ls 4 [(0, .ref (ad 0)), (1, .int x), (2, .ref og)] := hl
  refine lv_aload_n hx hb dL_count_0 rfl (lv_at hl 2 rfl) ?_
  refine xn_iconst (v := 0) hx hb dL_count_1 (by decide) ?_
  refine lv_aload_n hx hb dL_count_2 rfl (lv_at hl 0 rfl) ?_
  refine lv_iload_n hx hb dL_count_3 rfl (lv_at hl 1 rfl) ?_
  refine xtI (As := [.int x]) (rest := [.int (nI 0), .ref og]) ⟨hx, hb, hml, hown, hts⟩ (kCount_ l hst9 D cI cC ad hj S hI x) (cwV 1 hts gL_count_X3_count rfl rfl rfl (by decide +kernel) ⟨Nat.le_of_ble_eq_true rfl, Nat.le_of_ble_eq_true rfl⟩) hK (hZ.narrow (fun _ h => Or.inl h)) hW (xRecv hK rfl hO) rfl hl.1 rfl (Nat.le_of_ble_eq_true rfl) dL_count_4 ⟨Nat.le_of_ble_eq_true rfl, Nat.le_of_ble_eq_true rfl⟩ hS (fun _ h => Or.inl h) (fun _ h => Or.inl h) (fun E ce q9 H1 locs1 hB hz9 hk9 hS h1 h2 h3 => ?_) (fun r0 u H1 locs1 hp hF hz9 hk9 hS => ?_)
  · have hOut : xOut D cL og z H1 := va_at.kept hOut (hk9 og (va_at.lt hOut) (fun h => by obtain ⟨i9, h8, h9⟩ := h; exact hog i9 h8 h9.symm))
    obtain ⟨⟨ht, rfl⟩, hW1⟩ := hB
    refine vx_catch hown [] _ _ htab (fun z9 hz => absurd hz List.not_mem_nil) (by decide) (by decide) (hts (.classLink RL 18 "java/lang/IndexOutOfBoundsException") (by decide +kernel)) (va_Nw.use (xBad_tab (.castable xEI xEI) (by decide +kernel)) (hZ.2.2.2 (.castable xEI xEI) (by decide +kernel))) h1 h2 h3 ?_
    refine lv_astore_n (lv' := [(3, .ref q9), (0, .ref (ad 0)), (1, .int x), (2, .ref og)]) hx hb dL_count_12 rfl hl (by decide) rfl (fun ls hl => ?_)
    refine xn_iconst (v := 1) hx hb dL_count_13 (by decide) ?_
    refine W.widen (k := 10) (n := 60) (Nat.le_of_ble_eq_true rfl) (Nat.le_of_ble_eq_true rfl) ?_
    refine vx_ret ?_
    exact x_miret hx hb hr hlocks z ⟨(by rw [ht]), (fun h9 => absurd (ht.symm.trans h9) (by decide))⟩ ⟨hW1, hOut⟩ hS (fun _ h => h) dL_count_14
  · have hOut : xOut D cL og z H1 := va_at.kept hOut (hk9 og (va_at.lt hOut) (fun h => by obtain ⟨i9, h8, h9⟩ := h; exact hog i9 h8 h9.symm))
    have ht := hp.1
    have hrr := hp.2
    subst hrr
    refine lv_i2l hx hb dL_count_7 rfl ?_
    refine x_lastO hx hb hKL hOut hS (Or.inr rfl) dL_count_8 (fun H2 locs2 hOut hz oq hS => ?_)
    have hF := xXW_put hF (fun i9 h9 => oq _ (hog i9 h9))
    refine lv_goto (tgt := 15) hx hb dL_count_9 (by decide) ?_
    refine xn_iconst (v := 0) hx hb dL_count_15 (by decide) ?_
    refine W.widen (k := 10) (n := 60) (Nat.le_of_ble_eq_true rfl) (Nat.le_of_ble_eq_true rfl) ?_
    refine vx_ret ?_
    exact x_miret hx hb hr hlocks (rCount S x).toInt64 ⟨(by rw [ht]), (fun _ => rfl)⟩ ⟨hF, hOut⟩ hS (fun _ h => h) dL_count_16

set_option maxRecDepth 100000 in
set_option maxHeartbeats 4000000 in
theorem wKept_ (l : Launch) (hst9 : l.stackTraces = false) (D : va_G) (cI cC cL : ClassId) (ad : Nat → Nat) (hj : xInj ad) (S : AS) (hI : AI S) (og : Nat) (hog : ∀ i, i < 42 → ad i ≠ og) (z : Int64) (x : Int32) : vx_Met l yL_kept wsL_kept (xRm 16 10 60) (va_Pc [.ref (ad 0), .int x, .ref og] (xWL D cI cC cL (fun H => xXW D cI cC ad S H ∧ xOut D cL og z H) (xAO ad og))) (xI (fun r (u : Int64) => r = nI (tKept S x) ∧ (tKept S x = 0 → u = (rKept S x).toInt64)) (fun u H => xXW D cI cC ad (S) H ∧ xOut D cL og u H) (xAO ad og)) (xX xNo (fun _ _ => False)) 10 60 (xAO ad og) := by
  refine vx_ofWH (cc := cL_kept) (maxL := 4) (ret := some .int) (hh := [(0, 9, 12, 18)]) (by decide) rfl ?_
  intro p e s m args below meth c s₁ B hml hv
  obtain ⟨rfl, ⟨hW, hOut⟩, hK, hKL, hZ, hN1, hN2, hN3⟩ := hv
  have hx := B.exec
  have hb := B.bytes
  have hr := B.returns
  have hts := atoms_spec (ws := wsL_kept) B.pre
  have hown : s.vm.findClass RL = some m.cls := findClass_of_methodNamed B.named
  have hlocks := B.notSynchronized
  have htab := vx_table (x := yL_kept) B (hts (Cond.codeWith yL_kept cL_kept 4 (some .int) [(0, 9, 12, 18)]) List.mem_cons_self)
  have hO : xXO D ad S.1 S.2.1 S.2.2.2.2.2 s.heap := hW.choose_spec.choose_spec.choose_spec.choose_spec.choose_spec.choose_spec.choose_spec.1
  have hS : va_S (xAO ad og) s.heap s.heap [] := va_S.rf
  have hl := lv_entry ([.ref (ad 0), .int x, .ref og]) (n := 4) (Nat.le_of_ble_eq_true rfl)
  rw [lg_entry_eq]
  generalize (lg_sl ([.ref (ad 0), .int x, .ref og]) ++ List.replicate (4 - (lg_sl ([.ref (ad 0), .int x, .ref og])).length) Slot.unset).toArray = ls at hl ⊢
  have hl : lv_has ls 4 [(0, .ref (ad 0)), (1, .int x), (2, .ref og)] := hl
  refine lv_aload_n hx hb dL_kept_0 rfl (lv_at hl 2 rfl) ?_
  refine xn_iconst (v := 0) hx hb dL_kept_1 (by decide) ?_
  refine lv_aload_n hx hb dL_kept_2 rfl (lv_at hl 0 rfl) ?_
  refine lv_iload_n hx hb dL_kept_3 rfl (lv_at hl 1 rfl) ?_
  refine xtI (As := [.int x]) (rest := [.int (nI 0), .ref og]) ⟨hx, hb, hml, hown, hts⟩ (kKept_ l hst9 D cI cC ad hj S hI x) (cwV 1 hts gL_kept_X3_kept rfl rfl rfl (by decide +kernel) ⟨Nat.le_of_ble_eq_true rfl, Nat.le_of_ble_eq_true rfl⟩) hK (hZ.narrow (fun _ h => Or.inl h)) hW (xRecv hK rfl hO) rfl hl.1 rfl (Nat.le_of_ble_eq_true rfl) dL_kept_4 ⟨Nat.le_of_ble_eq_true rfl, Nat.le_of_ble_eq_true rfl⟩ hS (fun _ h => Or.inl h) (fun _ h => Or.inl h) (fun E ce q9 H1 locs1 hB hz9 hk9 hS h1 h2 h3 => ?_) (fun r0 u H1 locs1 hp hF hz9 hk9 hS => ?_)
  · have hOut : xOut D cL og z H1 := va_at.kept hOut (hk9 og (va_at.lt hOut) (fun h => by obtain ⟨i9, h8, h9⟩ := h; exact hog i9 h8 h9.symm))
    obtain ⟨⟨ht, rfl⟩, hW1⟩ := hB
    refine vx_catch hown [] _ _ htab (fun z9 hz => absurd hz List.not_mem_nil) (by decide) (by decide) (hts (.classLink RL 18 "java/lang/IndexOutOfBoundsException") (by decide +kernel)) (va_Nw.use (xBad_tab (.castable xEI xEI) (by decide +kernel)) (hZ.2.2.2 (.castable xEI xEI) (by decide +kernel))) h1 h2 h3 ?_
    refine lv_astore_n (lv' := [(3, .ref q9), (0, .ref (ad 0)), (1, .int x), (2, .ref og)]) hx hb dL_kept_12 rfl hl (by decide) rfl (fun ls hl => ?_)
    refine xn_iconst (v := 1) hx hb dL_kept_13 (by decide) ?_
    refine W.widen (k := 10) (n := 60) (Nat.le_of_ble_eq_true rfl) (Nat.le_of_ble_eq_true rfl) ?_
    refine vx_ret ?_
    exact x_miret hx hb hr hlocks z ⟨(by rw [ht]), (fun h9 => absurd (ht.symm.trans h9) (by decide))⟩ ⟨hW1, hOut⟩ hS (fun _ h => h) dL_kept_14
  · have hOut : xOut D cL og z H1 := va_at.kept hOut (hk9 og (va_at.lt hOut) (fun h => by obtain ⟨i9, h8, h9⟩ := h; exact hog i9 h8 h9.symm))
    have ht := hp.1
    have hrr := hp.2
    subst hrr
    refine lv_i2l hx hb dL_kept_7 rfl ?_
    refine x_lastO hx hb hKL hOut hS (Or.inr rfl) dL_kept_8 (fun H2 locs2 hOut hz oq hS => ?_)
    have hF := xXW_put hF (fun i9 h9 => oq _ (hog i9 h9))
    refine lv_goto (tgt := 15) hx hb dL_kept_9 (by decide) ?_
    refine xn_iconst (v := 0) hx hb dL_kept_15 (by decide) ?_
    refine W.widen (k := 10) (n := 60) (Nat.le_of_ble_eq_true rfl) (Nat.le_of_ble_eq_true rfl) ?_
    refine vx_ret ?_
    exact x_miret hx hb hr hlocks (rKept S x).toInt64 ⟨(by rw [ht]), (fun _ => rfl)⟩ ⟨hF, hOut⟩ hS (fun _ h => h) dL_kept_16

set_option maxRecDepth 100000 in
set_option maxHeartbeats 4000000 in
theorem wComes_ (l : Launch) (hst9 : l.stackTraces = false) (D : va_G) (cI cC cL : ClassId) (ad : Nat → Nat) (hj : xInj ad) (S : AS) (hI : AI S) (og : Nat) (hog : ∀ i, i < 42 → ad i ≠ og) (z : Int64) (x : Int32) : vx_Met l yL_comes wsL_comes (xRm 16 10 60) (va_Pc [.ref (ad 0), .int x, .ref og] (xWL D cI cC cL (fun H => xXW D cI cC ad S H ∧ xOut D cL og z H) (xAO ad og))) (xI (fun r (u : Int64) => r = nI (tIn S x) ∧ (tIn S x = 0 → u = (rComes S x).toInt64)) (fun u H => xXW D cI cC ad (S) H ∧ xOut D cL og u H) (xAO ad og)) (xX xNo (fun _ _ => False)) 10 60 (xAO ad og) := by
  refine vx_ofWH (cc := cL_comes) (maxL := 4) (ret := some .int) (hh := [(0, 9, 12, 18)]) (by decide) rfl ?_
  intro p e s m args below meth c s₁ B hml hv
  obtain ⟨rfl, ⟨hW, hOut⟩, hK, hKL, hZ, hN1, hN2, hN3⟩ := hv
  have hx := B.exec
  have hb := B.bytes
  have hr := B.returns
  have hts := atoms_spec (ws := wsL_comes) B.pre
  have hown : s.vm.findClass RL = some m.cls := findClass_of_methodNamed B.named
  have hlocks := B.notSynchronized
  have htab := vx_table (x := yL_comes) B (hts (Cond.codeWith yL_comes cL_comes 4 (some .int) [(0, 9, 12, 18)]) List.mem_cons_self)
  have hO : xXO D ad S.1 S.2.1 S.2.2.2.2.2 s.heap := hW.choose_spec.choose_spec.choose_spec.choose_spec.choose_spec.choose_spec.choose_spec.1
  have hS : va_S (xAO ad og) s.heap s.heap [] := va_S.rf
  have hl := lv_entry ([.ref (ad 0), .int x, .ref og]) (n := 4) (Nat.le_of_ble_eq_true rfl)
  rw [lg_entry_eq]
  generalize (lg_sl ([.ref (ad 0), .int x, .ref og]) ++ List.replicate (4 - (lg_sl ([.ref (ad 0), .int x, .ref og])).length) Slot.unset).toArray = ls at hl ⊢
  have hl : lv_has ls 4 [(0, .ref (ad 0)), (1, .int x), (2, .ref og)] := hl
  refine lv_aload_n hx hb dL_comes_0 rfl (lv_at hl 2 rfl) ?_
  refine xn_iconst (v := 0) hx hb dL_comes_1 (by decide) ?_
  refine lv_aload_n hx hb dL_comes_2 rfl (lv_at hl 0 rfl) ?_
  refine lv_iload_n hx hb dL_comes_3 rfl (lv_at hl 1 rfl) ?_
  refine xtI (As := [.int x]) (rest := [.int (nI 0), .ref og]) ⟨hx, hb, hml, hown, hts⟩ (kComes_ l hst9 D cI cC ad hj S hI x) (cwV 1 hts gL_comes_X3_comes rfl rfl rfl (by decide +kernel) ⟨Nat.le_of_ble_eq_true rfl, Nat.le_of_ble_eq_true rfl⟩) hK (hZ.narrow (fun _ h => Or.inl h)) hW (xRecv hK rfl hO) rfl hl.1 rfl (Nat.le_of_ble_eq_true rfl) dL_comes_4 ⟨Nat.le_of_ble_eq_true rfl, Nat.le_of_ble_eq_true rfl⟩ hS (fun _ h => Or.inl h) (fun _ h => Or.inl h) (fun E ce q9 H1 locs1 hB hz9 hk9 hS h1 h2 h3 => ?_) (fun r0 u H1 locs1 hp hF hz9 hk9 hS => ?_)
  · have hOut : xOut D cL og z H1 := va_at.kept hOut (hk9 og (va_at.lt hOut) (fun h => by obtain ⟨i9, h8, h9⟩ := h; exact hog i9 h8 h9.symm))
    obtain ⟨⟨ht, rfl⟩, hW1⟩ := hB
    refine vx_catch hown [] _ _ htab (fun z9 hz => absurd hz List.not_mem_nil) (by decide) (by decide) (hts (.classLink RL 18 "java/lang/IndexOutOfBoundsException") (by decide +kernel)) (va_Nw.use (xBad_tab (.castable xEI xEI) (by decide +kernel)) (hZ.2.2.2 (.castable xEI xEI) (by decide +kernel))) h1 h2 h3 ?_
    refine lv_astore_n (lv' := [(3, .ref q9), (0, .ref (ad 0)), (1, .int x), (2, .ref og)]) hx hb dL_comes_12 rfl hl (by decide) rfl (fun ls hl => ?_)
    refine xn_iconst (v := 1) hx hb dL_comes_13 (by decide) ?_
    refine W.widen (k := 10) (n := 60) (Nat.le_of_ble_eq_true rfl) (Nat.le_of_ble_eq_true rfl) ?_
    refine vx_ret ?_
    exact x_miret hx hb hr hlocks z ⟨(by rw [ht]), (fun h9 => absurd (ht.symm.trans h9) (by decide))⟩ ⟨hW1, hOut⟩ hS (fun _ h => h) dL_comes_14
  · have hOut : xOut D cL og z H1 := va_at.kept hOut (hk9 og (va_at.lt hOut) (fun h => by obtain ⟨i9, h8, h9⟩ := h; exact hog i9 h8 h9.symm))
    have ht := hp.1
    have hrr := hp.2
    subst hrr
    refine lv_i2l hx hb dL_comes_7 rfl ?_
    refine x_lastO hx hb hKL hOut hS (Or.inr rfl) dL_comes_8 (fun H2 locs2 hOut hz oq hS => ?_)
    have hF := xXW_put hF (fun i9 h9 => oq _ (hog i9 h9))
    refine lv_goto (tgt := 15) hx hb dL_comes_9 (by decide) ?_
    refine xn_iconst (v := 0) hx hb dL_comes_15 (by decide) ?_
    refine W.widen (k := 10) (n := 60) (Nat.le_of_ble_eq_true rfl) (Nat.le_of_ble_eq_true rfl) ?_
    refine vx_ret ?_
    exact x_miret hx hb hr hlocks (rComes S x).toInt64 ⟨(by rw [ht]), (fun _ => rfl)⟩ ⟨hF, hOut⟩ hS (fun _ h => h) dL_comes_16

set_option maxRecDepth 100000 in
set_option maxHeartbeats 4000000 in
theorem wDiffer_ (l : Launch) (hst9 : l.stackTraces = false) (D : va_G) (cI cC cL : ClassId) (ad : Nat → Nat) (hj : xInj ad) (S : AS) (hI : AI S) (og : Nat) (hog : ∀ i, i < 42 → ad i ≠ og) (z : Int64) (x : Int32) : vx_Met l yL_differ wsL_differ (xRm 16 10 60) (va_Pc [.ref (ad 0), .int x, .ref og] (xWL D cI cC cL (fun H => xXW D cI cC ad S H ∧ xOut D cL og z H) (xAO ad og))) (xI (fun r (u : Int64) => r = nI (tDiffer S x) ∧ (tDiffer S x = 0 → u = (rDiffer S x).toInt64)) (fun u H => xXW D cI cC ad (S) H ∧ xOut D cL og u H) (xAO ad og)) (xX xNo (fun _ _ => False)) 10 60 (xAO ad og) := by
  refine vx_ofWH (cc := cL_differ) (maxL := 4) (ret := some .int) (hh := [(0, 9, 12, 13)]) (by decide) rfl ?_
  intro p e s m args below meth c s₁ B hml hv
  obtain ⟨rfl, ⟨hW, hOut⟩, hK, hKL, hZ, hN1, hN2, hN3⟩ := hv
  have hx := B.exec
  have hb := B.bytes
  have hr := B.returns
  have hts := atoms_spec (ws := wsL_differ) B.pre
  have hown : s.vm.findClass RL = some m.cls := findClass_of_methodNamed B.named
  have hlocks := B.notSynchronized
  have htab := vx_table (x := yL_differ) B (hts (Cond.codeWith yL_differ cL_differ 4 (some .int) [(0, 9, 12, 13)]) List.mem_cons_self)
  have hO : xXO D ad S.1 S.2.1 S.2.2.2.2.2 s.heap := hW.choose_spec.choose_spec.choose_spec.choose_spec.choose_spec.choose_spec.choose_spec.1
  have hS : va_S (xAO ad og) s.heap s.heap [] := va_S.rf
  have hl := lv_entry ([.ref (ad 0), .int x, .ref og]) (n := 4) (Nat.le_of_ble_eq_true rfl)
  rw [lg_entry_eq]
  generalize (lg_sl ([.ref (ad 0), .int x, .ref og]) ++ List.replicate (4 - (lg_sl ([.ref (ad 0), .int x, .ref og])).length) Slot.unset).toArray = ls at hl ⊢
  have hl : lv_has ls 4 [(0, .ref (ad 0)), (1, .int x), (2, .ref og)] := hl
  refine lv_aload_n hx hb dL_differ_0 rfl (lv_at hl 2 rfl) ?_
  refine xn_iconst (v := 0) hx hb dL_differ_1 (by decide) ?_
  refine lv_aload_n hx hb dL_differ_2 rfl (lv_at hl 0 rfl) ?_
  refine lv_iload_n hx hb dL_differ_3 rfl (lv_at hl 1 rfl) ?_
  refine xtI (As := [.int x]) (rest := [.int (nI 0), .ref og]) ⟨hx, hb, hml, hown, hts⟩ (kDiffer_ l hst9 D cI cC ad hj S hI x) (cwV 1 hts gL_differ_X3_differ rfl rfl rfl (by decide +kernel) ⟨Nat.le_of_ble_eq_true rfl, Nat.le_of_ble_eq_true rfl⟩) hK (hZ.narrow (fun _ h => Or.inl h)) hW (xRecv hK rfl hO) rfl hl.1 rfl (Nat.le_of_ble_eq_true rfl) dL_differ_4 ⟨Nat.le_of_ble_eq_true rfl, Nat.le_of_ble_eq_true rfl⟩ hS (fun _ h => Or.inl h) (fun _ h => Or.inl h) (fun E ce q9 H1 locs1 hB hz9 hk9 hS h1 h2 h3 => ?_) (fun r0 u H1 locs1 hp hF hz9 hk9 hS => ?_)
  · have hOut : xOut D cL og z H1 := va_at.kept hOut (hk9 og (va_at.lt hOut) (fun h => by obtain ⟨i9, h8, h9⟩ := h; exact hog i9 h8 h9.symm))
    obtain ⟨⟨ht, rfl⟩, hW1⟩ := hB
    refine vx_catch hown [] _ _ htab (fun z9 hz => absurd hz List.not_mem_nil) (by decide) (by decide) (hts (.classLink RL 13 "java/lang/IllegalArgumentException") (by decide +kernel)) (va_Nw.use (xBad_tab (.castable xEA xEA) (by decide +kernel)) (hZ.2.2.2 (.castable xEA xEA) (by decide +kernel))) h1 h2 h3 ?_
    refine lv_astore_n (lv' := [(3, .ref q9), (0, .ref (ad 0)), (1, .int x), (2, .ref og)]) hx hb dL_differ_12 rfl hl (by decide) rfl (fun ls hl => ?_)
    refine xn_iconst (v := 1) hx hb dL_differ_13 (by decide) ?_
    refine W.widen (k := 10) (n := 60) (Nat.le_of_ble_eq_true rfl) (Nat.le_of_ble_eq_true rfl) ?_
    refine vx_ret ?_
    exact x_miret hx hb hr hlocks z ⟨(by rw [ht]), (fun h9 => absurd (ht.symm.trans h9) (by decide))⟩ ⟨hW1, hOut⟩ hS (fun _ h => h) dL_differ_14
  · have hOut : xOut D cL og z H1 := va_at.kept hOut (hk9 og (va_at.lt hOut) (fun h => by obtain ⟨i9, h8, h9⟩ := h; exact hog i9 h8 h9.symm))
    have ht := hp.1
    have hrr := hp.2
    subst hrr
    refine lv_i2l hx hb dL_differ_7 rfl ?_
    refine x_lastO hx hb hKL hOut hS (Or.inr rfl) dL_differ_8 (fun H2 locs2 hOut hz oq hS => ?_)
    have hF := xXW_put hF (fun i9 h9 => oq _ (hog i9 h9))
    refine lv_goto (tgt := 15) hx hb dL_differ_9 (by decide) ?_
    refine xn_iconst (v := 0) hx hb dL_differ_15 (by decide) ?_
    refine W.widen (k := 10) (n := 60) (Nat.le_of_ble_eq_true rfl) (Nat.le_of_ble_eq_true rfl) ?_
    refine vx_ret ?_
    exact x_miret hx hb hr hlocks (rDiffer S x).toInt64 ⟨(by rw [ht]), (fun _ => rfl)⟩ ⟨hF, hOut⟩ hS (fun _ h => h) dL_differ_16

set_option maxRecDepth 100000 in
set_option maxHeartbeats 4000000 in
theorem wAdvise_ (l : Launch) (hst9 : l.stackTraces = false) (D : va_G) (cI cC cL : ClassId) (ad : Nat → Nat) (hj : xInj ad) (S : AS) (hI : AI S) (og : Nat) (hog : ∀ i, i < 42 → ad i ≠ og) (z : Int64) (x : Int32) : vx_Met l yL_advise wsL_advise (xRm 16 10 60) (va_Pc [.ref (ad 0), .int x, .ref og] (xWL D cI cC cL (fun H => xXW D cI cC ad S H ∧ xOut D cL og z H) (xAO ad og))) (xI (fun r (u : Int64) => r = nI (tIn S x) ∧ (tIn S x = 0 → u = (rAdvise S x).toInt64)) (fun u H => xXW D cI cC ad (S) H ∧ xOut D cL og u H) (xAO ad og)) (xX xNo (fun _ _ => False)) 10 60 (xAO ad og) := by
  refine vx_ofWH (cc := cL_advise) (maxL := 4) (ret := some .int) (hh := [(0, 9, 12, 18)]) (by decide) rfl ?_
  intro p e s m args below meth c s₁ B hml hv
  obtain ⟨rfl, ⟨hW, hOut⟩, hK, hKL, hZ, hN1, hN2, hN3⟩ := hv
  have hx := B.exec
  have hb := B.bytes
  have hr := B.returns
  have hts := atoms_spec (ws := wsL_advise) B.pre
  have hown : s.vm.findClass RL = some m.cls := findClass_of_methodNamed B.named
  have hlocks := B.notSynchronized
  have htab := vx_table (x := yL_advise) B (hts (Cond.codeWith yL_advise cL_advise 4 (some .int) [(0, 9, 12, 18)]) List.mem_cons_self)
  have hO : xXO D ad S.1 S.2.1 S.2.2.2.2.2 s.heap := hW.choose_spec.choose_spec.choose_spec.choose_spec.choose_spec.choose_spec.choose_spec.1
  have hS : va_S (xAO ad og) s.heap s.heap [] := va_S.rf
  have hl := lv_entry ([.ref (ad 0), .int x, .ref og]) (n := 4) (Nat.le_of_ble_eq_true rfl)
  rw [lg_entry_eq]
  generalize (lg_sl ([.ref (ad 0), .int x, .ref og]) ++ List.replicate (4 - (lg_sl ([.ref (ad 0), .int x, .ref og])).length) Slot.unset).toArray = ls at hl ⊢
  have hl : lv_has ls 4 [(0, .ref (ad 0)), (1, .int x), (2, .ref og)] := hl
  refine lv_aload_n hx hb dL_advise_0 rfl (lv_at hl 2 rfl) ?_
  refine xn_iconst (v := 0) hx hb dL_advise_1 (by decide) ?_
  refine lv_aload_n hx hb dL_advise_2 rfl (lv_at hl 0 rfl) ?_
  refine lv_iload_n hx hb dL_advise_3 rfl (lv_at hl 1 rfl) ?_
  refine xtI (As := [.int x]) (rest := [.int (nI 0), .ref og]) ⟨hx, hb, hml, hown, hts⟩ (kAdvise_ l hst9 D cI cC ad hj S hI x) (cwV 1 hts gL_advise_X3_advise rfl rfl rfl (by decide +kernel) ⟨Nat.le_of_ble_eq_true rfl, Nat.le_of_ble_eq_true rfl⟩) hK (hZ.narrow (fun _ h => Or.inl h)) hW (xRecv hK rfl hO) rfl hl.1 rfl (Nat.le_of_ble_eq_true rfl) dL_advise_4 ⟨Nat.le_of_ble_eq_true rfl, Nat.le_of_ble_eq_true rfl⟩ hS (fun _ h => Or.inl h) (fun _ h => Or.inl h) (fun E ce q9 H1 locs1 hB hz9 hk9 hS h1 h2 h3 => ?_) (fun r0 u H1 locs1 hp hF hz9 hk9 hS => ?_)
  · have hOut : xOut D cL og z H1 := va_at.kept hOut (hk9 og (va_at.lt hOut) (fun h => by obtain ⟨i9, h8, h9⟩ := h; exact hog i9 h8 h9.symm))
    obtain ⟨⟨ht, rfl⟩, hW1⟩ := hB
    refine vx_catch hown [] _ _ htab (fun z9 hz => absurd hz List.not_mem_nil) (by decide) (by decide) (hts (.classLink RL 18 "java/lang/IndexOutOfBoundsException") (by decide +kernel)) (va_Nw.use (xBad_tab (.castable xEI xEI) (by decide +kernel)) (hZ.2.2.2 (.castable xEI xEI) (by decide +kernel))) h1 h2 h3 ?_
    refine lv_astore_n (lv' := [(3, .ref q9), (0, .ref (ad 0)), (1, .int x), (2, .ref og)]) hx hb dL_advise_12 rfl hl (by decide) rfl (fun ls hl => ?_)
    refine xn_iconst (v := 1) hx hb dL_advise_13 (by decide) ?_
    refine W.widen (k := 10) (n := 60) (Nat.le_of_ble_eq_true rfl) (Nat.le_of_ble_eq_true rfl) ?_
    refine vx_ret ?_
    exact x_miret hx hb hr hlocks z ⟨(by rw [ht]), (fun h9 => absurd (ht.symm.trans h9) (by decide))⟩ ⟨hW1, hOut⟩ hS (fun _ h => h) dL_advise_14
  · have hOut : xOut D cL og z H1 := va_at.kept hOut (hk9 og (va_at.lt hOut) (fun h => by obtain ⟨i9, h8, h9⟩ := h; exact hog i9 h8 h9.symm))
    have ht := hp.1
    have hrr := hp.2
    subst hrr
    refine lv_i2l hx hb dL_advise_7 rfl ?_
    refine x_lastO hx hb hKL hOut hS (Or.inr rfl) dL_advise_8 (fun H2 locs2 hOut hz oq hS => ?_)
    have hF := xXW_put hF (fun i9 h9 => oq _ (hog i9 h9))
    refine lv_goto (tgt := 15) hx hb dL_advise_9 (by decide) ?_
    refine xn_iconst (v := 0) hx hb dL_advise_15 (by decide) ?_
    refine W.widen (k := 10) (n := 60) (Nat.le_of_ble_eq_true rfl) (Nat.le_of_ble_eq_true rfl) ?_
    refine vx_ret ?_
    exact x_miret hx hb hr hlocks (rAdvise S x).toInt64 ⟨(by rw [ht]), (fun _ => rfl)⟩ ⟨hF, hOut⟩ hS (fun _ h => h) dL_advise_16

