/-! THE LAW'S TOWER AND STEPS -/
def tow (xs : Nat → Int32) (L st : Nat) (S : AS) : Prop := AI S ∧ S.1 = blo xs L ∧ S.2.1 = 5 ∧ S.2.2.2.1 = st ∧ S.2.2.2.2.2 = 0
def lT (b L : Nat) (xs : Nat → Int32) (D : va_G) (cI cC : ClassId) (P : Heap → Prop) (A : Nat → Prop) : State → Prop := fun U => va_AO RX0 U ∧ va_X b L xs U U.heap ∧ xBZ D cI cC P A U
theorem lpreT {b L : Nat} {xs : Nat → Int32} {D : va_G} {cI cC : ClassId} {P : Heap → Prop} {A : Nat → Prop} {As : List Value} {s : State} {H : Heap} (hK : xK D cI cC s) (hZ : xZ A s H) (hO : va_AO RX0 s) (hX : va_X b L xs s H) (hP : P H) : PreS s H (va_Pc As (lT b L xs D cI cC P A)) As :=
  ⟨fun a U g mk q => ⟨q.1, va_AO.moved (u := U) (U := U.calling g mk a) (Vm.Alike.refl U.vm) q.2.1, va_X.moved (u := U) (U := U.calling g mk a) (Vm.Alike.refl U.vm) q.2.2.1, (xBZ_blind a U g mk ⟨q.1, q.2.2.2⟩).2⟩, fun U hU hW => ⟨rfl, va_AO.moved hW.alike hO, by
    show va_X b L xs U U.heap
    rw [hU]
    exact va_X.moved hW.alike hX, by rw [hU]; exact hP, va_K.moved hW.alike hK, by rw [hU]; exact hZ.warm hW⟩⟩
section XO
variable {p : Program} {l : Launch} {e : Env} {R : Room} {s : State} {m : MethodId} {args : Array Value} {below : List Frame} {meth : Method} {c : Code} {H : Heap} {locs : List Loc} {cells slots : Nat} {Q : State → Prop}
variable {A0 : Nat → Prop} {H0 : Heap} {pc : Nat} {ls : Array Slot} {st0 rest : List Value}
variable {D : va_G} {cI cC : ClassId} {y : MethodName} {bytes cc : ByteArray} {maxL nL n index : Nat} {ret : Option FieldType} {ws : List Cond} {rm : Room} {Ts : List Cond} {own : String} {As : List Value} {ad : Nat → Nat}
theorem xXW_recv (hK : xK D cI cC s) {S : AS} (h : xXW D cI cC ad S H) : ∃ cell : Cell, H[ad 0]? = some cell ∧ cell.vm.isStatics = false ∧ s.vm.findClass RX3 = some cell.cls := by
  obtain ⟨zr, zm, zs, fr, fm, fs, zf, h1, hr⟩ := h
  exact xRecv hK rfl h1
/-- a call of the class that does not throw -/
theorem xoC {S0 S1 : AS} {t : Nat} {rr : Int32} {BX : String → Heap → Prop} (S : CallFix p m c cc nL s args Ts own) (hM : vx_Met l y ws rm (va_Pc (.ref (ad 0) :: As) (xBZ D cI cC (xXW D cI cC ad S0) (xAD ad))) (xI (fun r (_ : Unit) => t = 0 ∧ r = rr) (fun _ H => xXW D cI cC ad S1 H) (xAD ad)) (xX (xAD ad) BX) 10 60 (xAD ad)) (hno : ∀ E H1, BX E H1 → False) (cw : CallW R s args own RX3 index y bytes maxL ret ws rm 10 60 n) (hK : xK D cI cC s) (hZ : xZ A0 s H0) (hW : xXW D cI cC ad S0 H)
    (hn : As.length = n) (hl : ls.size = nL) (hst : st0 = As.reverse ++ .ref (ad 0) :: rest) (hcat : (rest.map fun v => v.category).sum ≤ 8) (hdg : decode cc pc = .ok (.invokevirtual index, 3)) (hf : cells + 10 ≤ R.cells ∧ slots + 60 ≤ R.slots)
    (hS : va_S A0 H0 H locs) (hA : ∀ q, xAD ad q → A0 q)
    (kk : ∀ (H1 : Heap) (locs1 : List Loc), xXW D cI cC ad S1 H1 → va_S A0 H0 H1 locs1 → W p l e R s m args below meth c H1 locs1 (cells + 10) (slots + 60) Q (F0 m (pc + 3) ls (.int rr :: rest))) : W p l e R s m args below meth c H locs cells slots Q (F0 m pc ls st0) :=
  xtI S hM cw hK ((hZ.kept hS.2.1).narrow hA) hW (xXW_recv hK hW) hn hl hst hcat hdg hf hS hA hA (fun E ce q9 H1 locs1 hB hz hk hS1 h1 h2 h3 => (hno E H1 hB).elim) (fun r u H1 locs1 hp hF hz hk hS1 => hp.2 ▸ kk H1 locs1 hF hS1)
end XO
theorem no1 {t : Nat} {P Q : Prop} (h : t = 0) (x : (t = 1 ∧ P) ∧ Q) : False := by omega
theorem no2 {t : Nat} {P P2 Q : Prop} (h : t = 0) (x : (t = 1 ∧ P ∨ t = 2 ∧ P2) ∧ Q) : False := by
  rcases x.1 with y | y <;> omega
theorem tSet_ok (S : AS) {n : Nat} (h : 2 ≤ n) (h2 : n ≤ 8) : tSet S (nI n) = 0 := if_pos ⟨(inR_nI (by omega)).mpr (by omega), by rw [xN_nI (by omega)]; exact h⟩
theorem nSet_ok (S : AS) {n : Nat} (h : 2 ≤ n) (h2 : n ≤ 8) : nSet S (nI n) = (n, 0, S.2.2.1, 0, S.2.2.2.2.1, S.2.2.2.2.2) := by
  unfold nSet
  rw [if_pos (tSet_ok S h h2), xN_nI (by omega)]
theorem tWrite_ok {S : AS} {w : Nat} (hI : AI S) (h : w < fac S.1) (hc : S.2.1 < 16) : tWrite S (nI w) = 0 := by
  have := fac_le S.1 hI.1.2
  unfold tWrite
  rw [if_pos ((inR_nI (by omega)).mpr h), if_neg (by omega)]
theorem tow_write {xs : Nat → Int32} {L i : Nat} {S : AS} {w : Int32} (h : AI S ∧ S.1 = blo xs L ∧ S.2.1 = i ∧ S.2.2.2.1 = 0 ∧ S.2.2.2.2.2 = 0) (ht : tWrite S w = 0) : AI (nWrite S w) ∧ (nWrite S w).1 = blo xs L ∧ (nWrite S w).2.1 = i + 1 ∧ (nWrite S w).2.2.2.1 = 0 ∧ (nWrite S w).2.2.2.2.2 = 0 := by
  refine ⟨AI_write h.1 w, ?_⟩
  unfold nWrite
  rw [if_pos ht]
  exact ⟨h.2.1, congrArg (· + 1) h.2.2.1, h.2.2.2.1, h.2.2.2.2⟩
theorem tStep_ok {S : AS} {K : Nat} (hI : AI S) (h : K < 2 ^ S.1) (hs : stp K S.1 S.1 0 = 1) (hc : S.2.2.2.1 < 10) : tStep S (nI K) = 0 := by
  have hK : K < 2 ^ 31 := Nat.lt_of_lt_of_le h (Nat.pow_le_pow_right (by decide) (by have := hI.1.2; omega))
  unfold tStep
  rw [xN_nI hK, if_pos ⟨(inR_nI hK).mpr h, hs⟩, if_neg (by omega)]
theorem tow_step {xs : Nat → Int32} {L i : Nat} {S : AS} {w : Int32} (h : tow xs L i S) (ht : tStep S w = 0) : tow xs L (i + 1) (nStep S w) := by
  refine ⟨AI_step h.1 w, ?_⟩
  unfold nStep
  rw [if_pos ht]
  exact ⟨h.2.1, h.2.2.1, congrArg (· + 1) h.2.2.2.1, h.2.2.2.2⟩
def stv (xs : Nat → Int32) (L : Nat) : Nat := 1 + bel (cel xs L 6) 10
theorem stv_in (xs : Nat → Int32) (L : Nat) : 1 ≤ stv xs L ∧ stv xs L ≤ 10 := by
  have := bel_lt (cel xs L 6) (n := 10) (by decide)
  unfold stv
  omega
set_option maxRecDepth 100000 in
set_option maxHeartbeats 4000000 in
theorem product_at (l : Launch) (n : Nat) (h : 1 ≤ n ∧ n ≤ 8) : Met l yL_product wsL_product (xRm (n - 1) 0 0) (va_Pc [.int (nI n)] (fun _ => True)) (vp_Si (fun x => x = nI (fac n))) 0 0 (fun _ => False) := by
  have := cL_product_ l (n - 1) (by omega)
  rw [Nat.sub_add_cancel h.1] at this
  exact this
set_option maxRecDepth 100000 in
set_option maxHeartbeats 4000000 in
theorem cL_tower_ (l : Launch) (hst9 : l.stackTraces = false) (D : va_G) (cI cC : ClassId) (b L : Nat) (xs : Nat → Int32) (hL : L < 2 ^ 31) (sz : Nat) : Met l yL_tower wsL_tower (xRm 20 110 800) (va_Pc [.ref b] (lT b L xs D cI cC (fun H => Array.size H = sz) (fun q9 => sz ≤ q9))) (xR (fun _ : Unit => True) (fun _ ra H => ra = sz ∧ ∃ S, tow xs L 0 S ∧ xXW D cI cC (adF sz (sz + 1)) S H) (fun q9 => sz ≤ q9)) 110 800 (fun q9 => sz ≤ q9) := by
  refine Met.ofW (cc := cL_tower) (maxL := 3) (ret := (some (.object "BellRanks"))) (by decide) rfl ?_
  intro p e s m args below meth c s₁ B hml hv
  obtain ⟨rfl, hAO, hX, hsz, hK, hZ⟩ := hv
  have hx := B.exec
  have hb := B.bytes
  have hr := B.returns
  have hts := atoms_spec (ws := wsL_tower) B.pre
  have hown : s.vm.findClass RL = some m.cls := findClass_of_methodNamed B.named
  have hlocks := B.notSynchronized
  have hl := lv_entry ([.ref b]) (n := 3) (Nat.le_of_ble_eq_true rfl)
  rw [lg_entry_eq]
  generalize (lg_sl ([.ref b]) ++ List.replicate (3 - (lg_sl ([.ref b])).length) Slot.unset).toArray = ls at hl ⊢
  have hl : lv_has ls 3 [(0, .ref b)] := hl
  have hsz : Array.size s.heap = sz := hsz
  subst hsz
  have hX : va_X b L xs s s.heap := hX
  have hbl : b < s.heap.size := va_X_lt hX
  have hbA : ¬ (fun q : Nat => s.heap.size ≤ q) b := Nat.not_le.mpr hbl
  have hS : va_S (fun q : Nat => s.heap.size ≤ q) s.heap s.heap [] := va_S.rf
  have hbi := blo_in xs L
  have hfp := fac_pos (blo xs L)
  have hfl := fac_le (blo xs L) hbi.2
  refine x_new (ci := 3) (fs := [.null, .null, .null, .null, .null, .int 0, .int 0, .int 0]) (C := RX3) (T := TX3) (N := 8) hx hb hts (by decide +kernel) tyX3 tyX3_ok hown (hts (.classLink RL 23 RX3) (by decide +kernel)) (hts (.instantiable RX3 8) (by decide +kernel)) (hts (.initialized RX3) (by decide +kernel)) hK hS rfl (fun j hj => by rcases (show j = 0 ∨ j = 1 ∨ j = 2 ∨ j = 3 ∨ j = 4 ∨ j = 5 ∨ j = 6 ∨ j = 7 by omega) with rfl | rfl | rfl | rfl | rfl | rfl | rfl | rfl <;> rfl) (Nat.le_of_ble_eq_true rfl) (Nat.le_of_ble_eq_true rfl) dL_tower_0 (fun q1 H1 hq hN hz ho hS => ?_)
  subst hq
  refine lv_dup hx hb dL_tower_3 rfl ?_
  refine va_callv (va_runI (As := []) (rest := [.ref s.heap.size]) ⟨hx, hb, hml, hown, hts⟩ (cX3_init_ l D cI cC s.heap.size (s.heap.size + 1) (Nat.lt_succ_self _)) (cwI 0 hts gL_tower_X3_init rfl rfl rfl (hts (.initialized RX3) (by decide +kernel)) (hts (.methodLink RL 25 yX3_init) (by decide +kernel)) (hts (.instanceMethod yX3_init) (by decide +kernel)) rfl (by decide +kernel) ⟨(Nat.le_of_ble_eq_true rfl), (Nat.le_of_ble_eq_true rfl)⟩) (xPSO hK hAO (P := fun H9 => Array.size H9 = s.heap.size + 1 ∧ va_at D vwCl (s.heap.size, .inr (3, [.null, .null, .null, .null, .null, .int 0, .int 0, .int 0])) H9) ⟨hz, hN⟩) rfl rfl hl.1 rfl (lv_room (Nat.le_of_ble_eq_true rfl)) dL_tower_4 ⟨(Nat.le_of_ble_eq_true rfl), (Nat.le_of_ble_eq_true rfl)⟩) hS (fun x9 _ h => by have h : x9 = s.heap.size ∨ s.heap.size + 1 ≤ x9 := h; show s.heap.size ≤ x9; omega) (fun (x9 : Nat) h => by have h : x9 = s.heap.size ∨ s.heap.size + 1 ≤ x9 := h; show s.heap.size ≤ x9; omega) (fun u t9 H2 locs1 ht9 _ _ hB hz9 hk9 hS => ?_)
  have hB : xXW D cI cC (adF s.heap.size (s.heap.size + 1)) (5, 0, (fun _ _ => 0), 0, (fun _ => 0), 0) t9.heap ∧ Array.size t9.heap = s.heap.size + 1 + 41 := hB
  rw [ht9] at hB
  have hW := hB.1
  have hI : AI (5, 0, (fun _ _ => 0), 0, (fun _ => 0), 0) := ⟨⟨by decide, by decide⟩, Nat.zero_le _, Nat.zero_le _, fun _ _ => Nat.zero_lt_succ 7, fun k hk => absurd hk (Nat.not_lt_zero _), fun k hk => absurd hk (Nat.not_lt_zero _), fun _ => Nat.two_pow_pos 31⟩
  have hge : ∀ i, i < 42 → s.heap.size ≤ adF s.heap.size (s.heap.size + 1) i := fun i hi => by rcases adF_at (o := s.heap.size) (sz := s.heap.size + 1) hi with h | h | h | h | h <;> omega
  obtain ⟨ad, had⟩ : ∃ ad, ad = adF s.heap.size (s.heap.size + 1) := ⟨_, rfl⟩
  have h0 : ad 0 = s.heap.size := by rw [had]; rfl
  have hj : xInj ad := by rw [had]; exact adF_inj (Nat.lt_succ_self _)
  rw [← had] at hW hge
  have hA : ∀ q : Nat, xAD ad q → s.heap.size ≤ q := fun q h => by
    obtain ⟨i, hi, e⟩ := h
    rw [e]; exact hge i hi
  refine xz (st' := [.ref (ad 0)]) (by rw [h0]) ?_
  refine lv_astore_n (lv' := [(1, .ref (ad 0)), (0, .ref b)]) hx hb dL_tower_7 rfl hl (by decide) rfl (fun ls hl => ?_)
  refine lv_aload_n hx hb dL_tower_8 rfl (lv_at hl 0 rfl) ?_
  refine lv_aload_n hx hb dL_tower_9 rfl (lv_at hl 1 rfl) ?_
  refine lcS (As := [.ref b]) (rest := [.ref (ad 0)]) ⟨hx, hb, hml, hown, hts⟩ (cL_bellsOf_ l b L xs hL) (va_cwS 1 hts gL_tower_L_bellsOf rfl rfl rfl (by decide +kernel) ⟨Nat.le_of_ble_eq_true rfl, Nat.le_of_ble_eq_true rfl⟩) (lpreX (hX.kept (hS.2.1 b hbl hbA))) rfl hl.1 rfl (Nat.le_of_ble_eq_true rfl) dL_tower_10 ⟨(by show 0 + 1 + 41 ≤ 110; omega), (by show 0 + 8 + 411 ≤ 800; omega)⟩ (fun x10 e10 => ?_)
  subst e10
  refine xoC (As := [.int (nI (blo xs L))]) (rest := []) ⟨hx, hb, hml, hown, hts⟩ (kSetBells_ l hst9 D cI cC ad hj (5, 0, (fun _ _ => 0), 0, (fun _ => 0), 0) hI (nI (blo xs L))) (fun _ _ hB => no1 (tSet_ok _ hbi.1 hbi.2) hB) (cwV 1 hts gL_tower_X3_setBells rfl rfl rfl (by decide +kernel) ⟨Nat.le_of_ble_eq_true rfl, Nat.le_of_ble_eq_true rfl⟩) hK hZ hW rfl hl.1 rfl (Nat.le_of_ble_eq_true rfl) dL_tower_13 ⟨(by show 0 + 1 + 41 + 10 ≤ 110; omega), (by show 0 + 8 + 411 + 60 ≤ 800; omega)⟩ hS hA (fun H1 locs1 hW hS => ?_)
  have hI2 := AI_set hI (nI (blo xs L))
  rw [nSet_ok _ hbi.1 hbi.2] at hW hI2
  refine lv_pop hx hb dL_tower_16 rfl ?_
  refine xn_iconst (v := 0) hx hb dL_tower_17 (by decide) ?_
  refine lv_istore_n (lv' := [(2, .int (nI 0)), (1, .ref (ad 0)), (0, .ref b)]) hx hb dL_tower_18 rfl hl (by decide) rfl (fun ls hl => ?_)
  refine x_loopH (σ := AS × Nat) (fun a => 5 - a.2) (fun a H locs cells slots ls => (AI a.1 ∧ a.1.1 = blo xs L ∧ a.1.2.1 = a.2 ∧ a.1.2.2.2.1 = 0 ∧ a.1.2.2.2.2.2 = 0) ∧ (a.2 ≤ 5) ∧ (xXW D cI cC ad a.1 H) ∧ (va_S (fun q : Nat => s.heap.size ≤ q) s.heap H locs) ∧ (cells ≤ 52 + 10 * a.2) ∧ (slots ≤ 479 + 60 * a.2) ∧ lv_has ls 3 [(0, .ref b), (1, .ref (ad 0)), (2, .int (nI a.2))]) ?_ ((blo xs L, 0, (fun _ _ => 0), 0, (fun _ => 0), 0), 0) _ _ _ _ ls ⟨⟨hI2, rfl, rfl, rfl, rfl⟩, Nat.zero_le _, hW, hS, (by dsimp only; omega), (by dsimp only; omega), lv_sub hl [2, 1, 0] rfl⟩
  rintro ⟨S, i⟩ H locs cells slots ls ⟨hT, hi, hW, hS, hce, hse, hl⟩ ih19
  dsimp only at hT hi hW hS hce hse hl
  have hI := hT.1
  have hn2 := hI.1
  refine lv_iload_n hx hb dL_tower_19 rfl (lv_at hl 2 rfl) ?_
  refine xn_iconst (v := 5) hx hb dL_tower_20 (by decide) ?_
  refine xn_icmp_ge (tgt := 52) hx hb dL_tower_21 (by decide) (by omega) (by decide) (fun c21 => ?_) (fun c21 => ?_)
  · refine lv_aload_n hx hb dL_tower_52 rfl (lv_at hl 1 rfl) ?_
    have hi5 : i = 5 := by omega
    rw [hi5] at hT
    refine W.widen (k := 110) (n := 800) (by omega) (by omega) ?_
    exact x_maret hx hb hr (Or.inl ⟨_, rfl⟩) hlocks () trivial ⟨h0, S, ⟨hT.1, hT.2.1, hT.2.2.1, hT.2.2.2.1, hT.2.2.2.2⟩, (had ▸ hW : xXW D cI cC (adF s.heap.size (s.heap.size + 1)) S H)⟩ hS (fun _ h => h) dL_tower_53
  · skip
    refine lv_aload_n hx hb dL_tower_24 rfl (lv_at hl 1 rfl) ?_
    refine lv_aload_n hx hb dL_tower_25 rfl (lv_at hl 0 rfl) ?_
    refine xn_iconst (v := 1) hx hb dL_tower_26 (by decide) ?_
    refine lv_iload_n hx hb dL_tower_27 rfl (lv_at hl 2 rfl) ?_
    refine xn_iadd hx hb dL_tower_28 ?_
    refine lcS (As := [.ref b, .int (nI (1 + i))]) (rest := [.ref (ad 0)]) ⟨hx, hb, hml, hown, hts⟩ (cL_cell_ l b L xs hL (1 + i) (by omega)) (va_cwS 2 hts gL_tower_L_cell rfl rfl rfl (by decide +kernel) ⟨Nat.le_of_ble_eq_true rfl, Nat.le_of_ble_eq_true rfl⟩) (lpreX (hX.kept (hS.2.1 b hbl hbA))) rfl hl.1 rfl (Nat.le_of_ble_eq_true rfl) dL_tower_29 ⟨(by show cells ≤ 110; omega), (by show slots ≤ 800; omega)⟩ (fun x29 e29 => ?_)
    subst e29
    refine lv_aload_n hx hb dL_tower_32 rfl (lv_at hl 0 rfl) ?_
    refine lcS (As := [.ref b]) (rest := [.int (cel xs L (1 + i)), .ref (ad 0)]) ⟨hx, hb, hml, hown, hts⟩ (cL_bellsOf_ l b L xs hL) (va_cwS 1 hts gL_tower_L_bellsOf rfl rfl rfl (by decide +kernel) ⟨Nat.le_of_ble_eq_true rfl, Nat.le_of_ble_eq_true rfl⟩) (lpreX (hX.kept (hS.2.1 b hbl hbA))) rfl hl.1 rfl (Nat.le_of_ble_eq_true rfl) dL_tower_33 ⟨(by show cells ≤ 110; omega), (by show slots ≤ 800; omega)⟩ (fun x33 e33 => ?_)
    subst e33
    refine lcS (As := [.int (nI (blo xs L))]) (rest := [.int (cel xs L (1 + i)), .ref (ad 0)]) ⟨hx, hb, hml, hown, hts⟩ (product_at l (blo xs L) (by have := blo_in xs L; omega)) (va_cwS 1 hts gL_tower_L_product rfl rfl rfl (by decide +kernel) ⟨(by show blo xs L - 1 + 1 ≤ 20; omega), (by show 8 + (1 + 11) + 40 * (blo xs L - 1) ≤ 800; omega)⟩) lpre0 rfl hl.1 rfl (Nat.le_of_ble_eq_true rfl) dL_tower_36 ⟨(by show cells ≤ 110; omega), (by show slots ≤ 800; omega)⟩ (fun x36 e36 => ?_)
    subst e36
    refine lcS (As := [.int (cel xs L (1 + i)), .int (nI (fac (blo xs L)))]) (rest := [.ref (ad 0)]) ⟨hx, hb, hml, hown, hts⟩ (cL_below_ l (cel xs L (1 + i)) (fac (blo xs L)) (by omega) (by omega)) (va_cwS 2 hts gL_tower_L_below rfl rfl rfl (by decide +kernel) ⟨Nat.le_of_ble_eq_true rfl, Nat.le_of_ble_eq_true rfl⟩) lpre0 rfl hl.1 rfl (Nat.le_of_ble_eq_true rfl) dL_tower_39 ⟨(by show cells ≤ 110; omega), (by show slots ≤ 800; omega)⟩ (fun x39 e39 => ?_)
    subst e39
    have hw : bel (cel xs L (1 + i)) (fac (blo xs L)) < fac S.1 := by rw [hT.2.1]; exact bel_lt _ (fac_pos _)
    have ht := tWrite_ok hI hw (by rw [hT.2.2.1]; omega)
    refine xoC (As := [.int (nI (bel (cel xs L (1 + i)) (fac (blo xs L))))]) (rest := []) ⟨hx, hb, hml, hown, hts⟩ (kWrite_ l hst9 D cI cC ad hj S hI (nI (bel (cel xs L (1 + i)) (fac (blo xs L))))) (fun _ _ hB => no2 ht hB) (cwV 1 hts gL_tower_X3_write rfl rfl rfl (by decide +kernel) ⟨Nat.le_of_ble_eq_true rfl, Nat.le_of_ble_eq_true rfl⟩) hK hZ hW rfl hl.1 rfl (Nat.le_of_ble_eq_true rfl) dL_tower_42 ⟨(by show cells + 10 ≤ 110; omega), (by show slots + 60 ≤ 800; omega)⟩ hS hA (fun H1 locs1 hW hS => ?_)
    refine lv_pop hx hb dL_tower_45 rfl ?_
    refine xn_iinc (v := i + 1) (lv' := [(2, .int (nI (i + 1))), (0, .ref b), (1, .ref (ad 0))]) hx hb dL_tower_46 hl (k := 2) rfl (xinc1 _) (by decide) rfl (fun ls hl => ?_)
    refine lv_goto (tgt := 19) hx hb dL_tower_49 (by decide) ?_
    exact ih19 (nWrite S (nI (bel (cel xs L (1 + i)) (fac (blo xs L)))), i + 1) _ _ _ _ ls ⟨tow_write hT ht, (by dsimp only; omega), hW, hS, (by dsimp only; omega), (by dsimp only; omega), lv_sub hl [1, 2, 0] rfl⟩ (by dsimp only; omega)
set_option maxRecDepth 100000 in
set_option maxHeartbeats 4000000 in
theorem cL_steps_ (l : Launch) (hst9 : l.stackTraces = false) (D : va_G) (cI cC : ClassId) (b L : Nat) (xs : Nat → Int32) (hL : L < 2 ^ 31) (ad : Nat → Nat) (hj : xInj ad) (hbA : ¬ xAD ad b) (S0 : AS) (hT0 : tow xs L 0 S0) : Met l yL_steps wsL_steps (xRm 20 100 600) (va_Pc [.ref (ad 0), .ref b, .int (nI (blo xs L))] (lT b L xs D cI cC (xXW D cI cC ad S0) (xAD ad))) (xI (fun r (_ : Unit) => r = nI (stv xs L)) (fun _ H => ∃ S, tow xs L (stv xs L) S ∧ xXW D cI cC ad S H) (xAD ad)) 100 600 (xAD ad) := by
  refine Met.ofW (cc := cL_steps) (maxL := 5) (ret := (some .int)) (by decide) rfl ?_
  intro p e s m args below meth c s₁ B hml hv
  obtain ⟨rfl, hAO, hX, hW, hK, hZ⟩ := hv
  have hx := B.exec
  have hb := B.bytes
  have hr := B.returns
  have hts := atoms_spec (ws := wsL_steps) B.pre
  have hown : s.vm.findClass RL = some m.cls := findClass_of_methodNamed B.named
  have hlocks := B.notSynchronized
  have hl := lv_entry ([.ref (ad 0), .ref b, .int (nI (blo xs L))]) (n := 5) (Nat.le_of_ble_eq_true rfl)
  rw [lg_entry_eq]
  generalize (lg_sl ([.ref (ad 0), .ref b, .int (nI (blo xs L))]) ++ List.replicate (5 - (lg_sl ([.ref (ad 0), .ref b, .int (nI (blo xs L))])).length) Slot.unset).toArray = ls at hl ⊢
  have hl : lv_has ls 5 [(0, .ref (ad 0)), (1, .ref b), (2, .int (nI (blo xs L)))] := hl
  have hX : va_X b L xs s s.heap := hX
  have hbl : b < s.heap.size := va_X_lt hX
  have hS : va_S (xAD ad) s.heap s.heap [] := va_S.rf
  have hbi := blo_in xs L
  have hsi := stv_in xs L
  have hA : ∀ q : Nat, xAD ad q → xAD ad q := fun _ h => h
  have hW : xXW D cI cC ad S0 s.heap := hW
  refine xn_iconst (v := 1) hx hb dL_steps_0 (by decide) ?_
  refine lv_aload_n hx hb dL_steps_1 rfl (lv_at hl 1 rfl) ?_
  refine xn_bipush (v := 6) hx hb dL_steps_2 (by decide) ?_
  refine lcS (As := [.ref b, .int (nI 6)]) (rest := [.int (nI 1)]) ⟨hx, hb, hml, hown, hts⟩ (cL_cell_ l b L xs hL 6 (by decide)) (va_cwS 2 hts gL_steps_L_cell rfl rfl rfl (by decide +kernel) ⟨Nat.le_of_ble_eq_true rfl, Nat.le_of_ble_eq_true rfl⟩) (lpreX (hX.kept (hS.2.1 b hbl hbA))) rfl hl.1 rfl (Nat.le_of_ble_eq_true rfl) dL_steps_4 ⟨(by show 0 ≤ 100; omega), (by show 0 ≤ 600; omega)⟩ (fun x4 e4 => ?_)
  subst e4
  refine xn_bipush (v := 10) hx hb dL_steps_7 (by decide) ?_
  refine lcS (As := [.int (cel xs L 6), .int (nI 10)]) (rest := [.int (nI 1)]) ⟨hx, hb, hml, hown, hts⟩ (cL_below_ l (cel xs L 6) 10 (by decide) (by decide)) (va_cwS 2 hts gL_steps_L_below rfl rfl rfl (by decide +kernel) ⟨Nat.le_of_ble_eq_true rfl, Nat.le_of_ble_eq_true rfl⟩) lpre0 rfl hl.1 rfl (Nat.le_of_ble_eq_true rfl) dL_steps_9 ⟨(by show 0 ≤ 100; omega), (by show 0 ≤ 600; omega)⟩ (fun x9 e9 => ?_)
  subst e9
  refine xn_iadd hx hb dL_steps_12 ?_
  refine xz_i (y := nI (stv xs L)) rfl ?_
  refine lv_istore_n (lv' := [(3, .int (nI (stv xs L))), (0, .ref (ad 0)), (1, .ref b), (2, .int (nI (blo xs L)))]) hx hb dL_steps_13 rfl hl (by decide) rfl (fun ls hl => ?_)
  refine xn_iconst (v := 0) hx hb dL_steps_14 (by decide) ?_
  refine lv_istore (lv' := [(4, .int (nI 0)), (3, .int (nI (stv xs L))), (0, .ref (ad 0)), (1, .ref b), (2, .int (nI (blo xs L)))]) hx hb dL_steps_15 hl (by decide) rfl (fun ls hl => ?_)
  refine x_loopH (σ := AS × Nat) (fun a => stv xs L - a.2) (fun a H locs cells slots ls => (tow xs L a.2 a.1) ∧ (a.2 ≤ stv xs L) ∧ (xXW D cI cC ad a.1 H) ∧ (va_S (xAD ad) s.heap H locs) ∧ (cells ≤ 10 * a.2) ∧ (slots ≤ 60 * a.2) ∧ lv_has ls 5 [(0, .ref (ad 0)), (1, .ref b), (2, .int (nI (blo xs L))), (3, .int (nI (stv xs L))), (4, .int (nI a.2))]) ?_ (S0, 0) _ _ _ _ ls ⟨hT0, Nat.zero_le _, hW, hS, (by dsimp only; omega), (by dsimp only; omega), lv_sub hl [2, 3, 4, 1, 0] rfl⟩
  rintro ⟨S, i⟩ H locs cells slots ls ⟨hT, hi, hW, hS, hce, hse, hl⟩ ih17
  dsimp only at hT hi hW hS hce hse hl
  have hI := hT.1
  refine lv_iload hx hb dL_steps_17 (lv_at hl 4 rfl) ?_
  refine lv_iload_n hx hb dL_steps_19 rfl (lv_at hl 3 rfl) ?_
  refine xn_icmp_ge (tgt := 41) hx hb dL_steps_20 (by decide) (by omega) (by omega) (fun c20 => ?_) (fun c20 => ?_)
  · refine lv_iload_n hx hb dL_steps_41 rfl (lv_at hl 3 rfl) ?_
    have hi5 : i = stv xs L := by omega
    rw [hi5] at hT
    refine W.widen (k := 100) (n := 600) (by omega) (by omega) ?_
    exact x_miret hx hb hr hlocks () rfl ⟨S, hT, hW⟩ hS (fun _ h => h) dL_steps_42
  · skip
    refine lv_aload_n hx hb dL_steps_23 rfl (lv_at hl 0 rfl) ?_
    refine lv_aload_n hx hb dL_steps_24 rfl (lv_at hl 1 rfl) ?_
    refine lv_iload_n hx hb dL_steps_25 rfl (lv_at hl 2 rfl) ?_
    refine lv_iload hx hb dL_steps_26 (lv_at hl 4 rfl) ?_
    refine lcS (As := [.ref b, .int (nI (blo xs L)), .int (nI i)]) (rest := [.ref (ad 0)]) ⟨hx, hb, hml, hown, hts⟩ (cL_keptOf_ l b L xs hL (blo xs L) i (by omega) (by omega)) (va_cwS 3 hts gL_steps_L_keptOf rfl rfl rfl (by decide +kernel) ⟨Nat.le_of_ble_eq_true rfl, Nat.le_of_ble_eq_true rfl⟩) (lpreX (hX.kept (hS.2.1 b hbl hbA))) rfl hl.1 rfl (Nat.le_of_ble_eq_true rfl) dL_steps_28 ⟨(by show cells ≤ 100; omega), (by show slots ≤ 600; omega)⟩ (fun x28 e28 => ?_)
    obtain ⟨K, rfl, hK9, hs9⟩ := e28
    have ht := tStep_ok (K := K) hI (by rw [hT.2.1]; exact hK9) (by rw [hT.2.1]; exact hs9) (by rw [hT.2.2.2.1]; omega)
    refine xoC (As := [.int (nI K)]) (rest := []) ⟨hx, hb, hml, hown, hts⟩ (kStep_ l hst9 D cI cC ad hj S hI (nI K)) (fun _ _ hB => no2 ht hB) (cwV 1 hts gL_steps_X3_step rfl rfl rfl (by decide +kernel) ⟨Nat.le_of_ble_eq_true rfl, Nat.le_of_ble_eq_true rfl⟩) hK hZ hW rfl hl.1 rfl (Nat.le_of_ble_eq_true rfl) dL_steps_31 ⟨(by show cells + 10 ≤ 100; omega), (by show slots + 60 ≤ 600; omega)⟩ hS hA (fun H1 locs1 hW hS => ?_)
    refine lv_pop hx hb dL_steps_34 rfl ?_
    refine xn_iinc (v := i + 1) (lv' := [(4, .int (nI (i + 1))), (0, .ref (ad 0)), (1, .ref b), (2, .int (nI (blo xs L))), (3, .int (nI (stv xs L)))]) hx hb dL_steps_35 hl (k := 4) rfl (xinc1 _) (by decide) rfl (fun ls hl => ?_)
    refine lv_goto (tgt := 17) hx hb dL_steps_38 (by decide) ?_
    exact ih17 (nStep S (nI K), i + 1) _ _ _ _ ls ⟨tow_step hT ht, (by dsimp only; omega), hW, hS, (by dsimp only; omega), (by dsimp only; omega), lv_sub hl [1, 2, 3, 4, 0] rfl⟩ (by dsimp only; omega)
