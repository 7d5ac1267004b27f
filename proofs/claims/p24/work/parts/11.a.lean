/-! THE LAW'S SMALL METHODS -/
def bel (v : Int32) (n : Nat) : Nat := v.toBitVec.toNat % 2 ^ 31 % n
theorem bel_lt (v : Int32) {n : Nat} (h : 0 < n) : bel v n < n := Nat.mod_lt _ h
def cel (xs : Nat → Int32) (L k : Nat) : Int32 := if k < L then xs k else 461243603 * nI (k + 3)
def blo (xs : Nat → Int32) (L : Nat) : Nat := 2 + bel (cel xs L 0) 7
theorem blo_in (xs : Nat → Int32) (L : Nat) : 2 ≤ blo xs L ∧ blo xs L ≤ 8 := by
  have := bel_lt (cel xs L 0) (n := 7) (by decide)
  unfold blo
  omega
def lX (b L : Nat) (xs : Nat → Int32) : State → Prop := fun U => va_X b L xs U U.heap
theorem va_X_lt {b L : Nat} {xs : Nat → Int32} {U : State} {H : Heap} (h : va_X b L xs U H) : b < H.size := by
  obtain ⟨scr, h1, -⟩ := h
  exact (Array.getElem?_eq_some_iff.mp h1).1
theorem lpre0 {As : List Value} {s : State} {H : Heap} : PreS s H (va_Pc As (fun _ => True)) As := ⟨fun a U g mk q => ⟨q.1, trivial⟩, fun U _ _ => ⟨rfl, trivial⟩⟩
theorem lpreX {As : List Value} {s : State} {H : Heap} {b L : Nat} {xs : Nat → Int32} (h : va_X b L xs s H) : PreS s H (va_Pc As (lX b L xs)) As :=
  ⟨fun a U g mk q => ⟨q.1, va_X.moved (u := U) (U := U.calling g mk a) (Vm.Alike.refl U.vm) q.2⟩, fun U hU hW => ⟨rfl, by
    show va_X b L xs U U.heap
    rw [hU]
    exact va_X.moved hW.alike h⟩⟩
theorem q_sld {p : Program} {l : Launch} {e : Env} {R : Room} {s : State} {m : MethodId} {args : Array Value} {below : List Frame} {meth : Method} {c : Code} {H : Heap} {locs : List Loc} {cells slots : Nat} {Q : State → Prop} {cc : ByteArray} {pc : Nat} {ls : Array Slot} {rest : List Value} {A : Nat → Prop} {H0 : Heap} (hx : p.tables.exec = Jvm.exec) (hb : c.code = cc) {b L : Nat} {xs : Nat → Int32} (hX : va_X b L xs s H0) (hbl : b < H0.size) (hbA : ¬ A b) (hS : va_S A H0 H locs) {j : Nat} (hj : j < L) (hL : L < 2 ^ 31) (hdg : decode cc pc = .ok (.iaload, 1))
    (kk : W p l e R s m args below meth c H locs cells slots Q (F0 m (pc + 1) ls (.int (xs j) :: rest))) : W p l e R s m args below meth c H locs cells slots Q (F0 m pc ls (.int (nI j) :: .ref b :: rest)) :=
  va_sld hx hb hX hbl hbA hS (vp_in_nI hj hL) hdg (by rw [nI_clamp (Nat.lt_trans hj hL)]; exact kk)
theorem lcS {p : Program} {l : Launch} {e : Env} {R : Room} {s : State} {m : MethodId} {args : Array Value} {below : List Frame} {meth : Method} {c : Code} {H : Heap} {locs : List Loc} {cells slots : Nat} {Q : State → Prop} {pc : Nat} {ls : Array Slot} {st0 rest : List Value} {y : MethodName} {bytes cc : ByteArray} {maxL nL n index : Nat} {ret : Option FieldType} {ws : List Cond} {rm : Room} {Ts : List Cond} {own : String} {As : List Value} {post : Int32 → Prop} {Bp : State → Prop} (S : CallFix p m c cc nL s args Ts own) (hM : Met l y ws rm (va_Pc As Bp) (vp_Si post) 0 0 (fun _ => False)) (cw : CallB R s args own index y bytes maxL ret ws rm 0 0 n ∧ (Cond.static y).before args s = true) (hp : PreS s H (va_Pc As Bp) As)
    (hn : As.length = n) (hl : ls.size = nL) (hst : st0 = As.reverse ++ rest) (hcat : (rest.map fun v => v.category).sum ≤ 8) (hdg : decode cc pc = .ok (.invokestatic index, 3)) (hf : cells ≤ R.cells ∧ slots ≤ R.slots)
    (kk : ∀ r : Int32, post r → W p l e R s m args below meth c H locs cells slots Q (F0 m (pc + 3) ls (.int r :: rest))) : W p l e R s m args below meth c H locs cells slots Q (F0 m pc ls st0) :=
  vp_callSi (W.runS S hM cw hp rfl hn hl hst (lv_room hcat) hdg hf) kk
theorem q_or (a b : Nat) : nI a ||| nI b = nI (a ||| b) := by
  apply Int32.toBitVec_inj.1
  show BitVec.ofNat 32 a ||| BitVec.ofNat 32 b = BitVec.ofNat 32 (a ||| b)
  apply BitVec.eq_of_getLsbD_eq
  intro i hi
  simp [hi]
theorem kepO {K p : Nat} (h : K < 2 ^ p) : nI K ||| nI (2 ^ p) = nI (K + 2 ^ p) := by
  have := Nat.two_pow_add_eq_or_of_lt h 1
  rw [q_or, Nat.or_comm, Nat.add_comm]
  rw [Nat.mul_one] at this
  rw [this]
theorem kepZ (K : Nat) : nI K ||| nI 0 = nI K := by rw [q_or, Nat.or_zero]
theorem kep1 {K p : Nat} (h : K < 2 ^ p) : K + 2 ^ p < 2 ^ (p + 1) := by rw [Nat.pow_succ]; omega
theorem kep2 {K p : Nat} (h : K < 2 ^ p) : K < 2 ^ (p + 2) := Nat.lt_of_lt_of_le h (Nat.pow_le_pow_right (by decide) (by omega))
theorem kepA {K K9 m : Nat} (hK : K < m) (h : K9 % (m * 2) = K + m) : K9 % m = K ∧ K9 / m % 2 = 1 := by
  rw [Nat.mod_mul] at h
  have h1 : K9 % m < m := Nat.mod_lt _ (by omega)
  have h2 : K9 / m % 2 < 2 := Nat.mod_lt _ (by decide)
  rcases (show K9 / m % 2 = 0 ∨ K9 / m % 2 = 1 by omega) with c | c
  · rw [c] at h; omega
  · rw [c, Nat.mul_one] at h; exact ⟨by omega, c⟩
theorem kepB {K K9 m : Nat} (hK : K < m) (h : K9 % (m * 4) = K) : K9 % m = K ∧ K9 / m % 4 = 0 := by
  rw [Nat.mod_mul] at h
  have h1 : K9 % m < m := Nat.mod_lt _ (by omega)
  rcases Nat.eq_zero_or_pos (K9 / m % 4) with c | c
  · rw [c, Nat.mul_zero] at h; exact ⟨by omega, c⟩
  · have := Nat.mul_le_mul_left m c
    omega
theorem kep3 {K p n : Nat} (hK : K < 2 ^ p) (hp : p < n) (h : ∃ u9, n ≤ p + u9 ∧ ∀ K9, K9 % 2 ^ p = K → stp K9 n n 0 = stp K9 n u9 p) : ∃ u9, n ≤ p + 1 + u9 ∧ ∀ K9, K9 % 2 ^ (p + 1) = K + 2 ^ p → stp K9 n n 0 = stp K9 n u9 (p + 1) := by
  obtain ⟨u, h1, h2⟩ := h
  cases u with
  | zero => omega
  | succ u =>
    refine ⟨u, by omega, fun K9 e => ?_⟩
    rw [Nat.pow_succ] at e
    obtain ⟨a, b⟩ := kepA hK e
    rw [h2 K9 a]
    exact stp_k hp b
theorem kep4 {K p n : Nat} (hK : K < 2 ^ p) (hp : p + 1 < n) (h : ∃ u9, n ≤ p + u9 ∧ ∀ K9, K9 % 2 ^ p = K → stp K9 n n 0 = stp K9 n u9 p) : ∃ u9, n ≤ p + 2 + u9 ∧ ∀ K9, K9 % 2 ^ (p + 2) = K → stp K9 n n 0 = stp K9 n u9 (p + 2) := by
  obtain ⟨u, h1, h2⟩ := h
  cases u with
  | zero => omega
  | succ u =>
    refine ⟨u, by omega, fun K9 e => ?_⟩
    rw [Nat.pow_succ, Nat.pow_succ, Nat.mul_assoc] at e
    obtain ⟨a, b⟩ := kepB hK e
    rw [h2 K9 a]
    refine stp_x (by omega) ?_ hp ?_
    · show K9 / 2 ^ p % 2 = 0
      omega
    · show K9 / 2 ^ (p + 1) % 2 = 0
      rw [Nat.pow_succ, ← Nat.div_div_eq_div_mul]
      omega
set_option maxRecDepth 100000 in
set_option maxHeartbeats 4000000 in
theorem cL_below_ (l : Launch) (v : Int32) (n : Nat) (hn : 0 < n) (hn2 : n < 2 ^ 31) : Met l yL_below wsL_below (xRm 0 0 0) (va_Pc [.int v, .int (nI n)] (fun _ => True)) (vp_Si (fun x => x = nI (bel v n))) 0 0 (fun _ => False) := by
  refine Met.ofW (cc := cL_below) (maxL := 2) (ret := (some .int)) (by decide) rfl ?_
  intro p e s m args below meth c s₁ B hml hv
  obtain ⟨rfl, -⟩ := hv
  have hx := B.exec
  have hb := B.bytes
  have hr := B.returns
  have hts := atoms_spec (ws := wsL_below) B.pre
  have hown : s.vm.findClass RL = some m.cls := findClass_of_methodNamed B.named
  have hlocks := B.notSynchronized
  have hl := lv_entry ([.int v, .int (nI n)]) (n := 2) (Nat.le_of_ble_eq_true rfl)
  rw [lg_entry_eq]
  generalize (lg_sl ([.int v, .int (nI n)]) ++ List.replicate (2 - (lg_sl ([.int v, .int (nI n)])).length) Slot.unset).toArray = ls at hl ⊢
  have hl : lv_has ls 2 [(0, .int v), (1, .int (nI n))] := hl
  refine lv_iload_n hx hb dL_below_0 rfl (lv_at hl 0 rfl) ?_
  refine lv_ldc (v := 2147483647) hx hb hown (hts (.constant RL 7 (2147483647)) (by decide +kernel)) dL_below_1 ?_
  refine lv_iand hx hb dL_below_3 ?_
  refine xz_i (y := (nI (v.toBitVec.toNat % 2 ^ 31))) (pk_and v 31 (by decide)) ?_
  refine lv_iload_n hx hb dL_below_4 rfl (lv_at hl 1 rfl) ?_
  refine xn_irem hx hb (Nat.mod_lt _ (by decide)) hn hn2 dL_below_5 ?_
  exact x_iret hx hb hr hlocks rfl rfl dL_below_6
set_option maxRecDepth 100000 in
set_option maxHeartbeats 4000000 in
theorem cL_cell_ (l : Launch) (b L : Nat) (xs : Nat → Int32) (hL : L < 2 ^ 31) (k : Nat) (hk : k < 2 ^ 31) : Met l yL_cell wsL_cell (xRm 0 0 0) (va_Pc [.ref b, .int (nI k)] (lX b L xs)) (vp_Si (fun x => x = cel xs L k)) 0 0 (fun _ => False) := by
  refine Met.ofW (cc := cL_cell) (maxL := 2) (ret := (some .int)) (by decide) rfl ?_
  intro p e s m args below meth c s₁ B hml hv
  obtain ⟨rfl, hX⟩ := hv
  have hx := B.exec
  have hb := B.bytes
  have hr := B.returns
  have hts := atoms_spec (ws := wsL_cell) B.pre
  have hown : s.vm.findClass RL = some m.cls := findClass_of_methodNamed B.named
  have hlocks := B.notSynchronized
  have hl := lv_entry ([.ref b, .int (nI k)]) (n := 2) (Nat.le_of_ble_eq_true rfl)
  rw [lg_entry_eq]
  generalize (lg_sl ([.ref b, .int (nI k)]) ++ List.replicate (2 - (lg_sl ([.ref b, .int (nI k)])).length) Slot.unset).toArray = ls at hl ⊢
  have hl : lv_has ls 2 [(0, .ref b), (1, .int (nI k))] := hl
  have hX : va_X b L xs s s.heap := hX
  have hbl : b < s.heap.size := va_X_lt hX
  have hS : va_S (fun _ => False) s.heap s.heap [] := va_S.rf
  refine lv_iload_n hx hb dL_cell_0 rfl (lv_at hl 1 rfl) ?_
  refine lv_aload_n hx hb dL_cell_1 rfl (lv_at hl 0 rfl) ?_
  refine va_slen hx hb hX hbl (fun h => h.elim) hS dL_cell_2 ?_
  refine xz_i (show Int32.ofNat L = nI L from rfl) ?_
  refine xn_icmp_ge (tgt := 12) hx hb dL_cell_3 (by decide) hk hL (fun c3 => ?_) (fun c3 => ?_)
  · refine lv_ldc (v := 461243603) hx hb hown (hts (.constant RL 8 (461243603)) (by decide +kernel)) dL_cell_12 ?_
    refine lv_iload_n hx hb dL_cell_14 rfl (lv_at hl 1 rfl) ?_
    refine xn_iconst (v := 3) hx hb dL_cell_15 (by decide) ?_
    refine xn_iadd hx hb dL_cell_16 ?_
    refine lv_imul hx hb dL_cell_17 ?_
    exact x_iret hx hb hr hlocks rfl (show _ = cel xs L k from (if_neg (by omega)).symm) dL_cell_18
  · refine lv_aload_n hx hb dL_cell_6 rfl (lv_at hl 0 rfl) ?_
    refine lv_iload_n hx hb dL_cell_7 rfl (lv_at hl 1 rfl) ?_
    refine q_sld hx hb hX hbl (fun h => h.elim) hS (by omega) hL dL_cell_8 ?_
    refine lv_goto (tgt := 18) hx hb dL_cell_9 (by decide) ?_
    exact x_iret hx hb hr hlocks rfl (show _ = cel xs L k from (if_pos (by omega)).symm) dL_cell_18
set_option maxRecDepth 100000 in
set_option maxHeartbeats 4000000 in
theorem cL_product_ (l : Launch) : ∀ k : Nat, k < 8 → Met l yL_product wsL_product (xRm k 0 0) (va_Pc [.int (nI (k + 1))] (fun _ => True)) (vp_Si (fun x => x = nI (fac (k + 1)))) 0 0 (fun _ => False)
  | 0, _ => by
    refine Met.ofW (cc := cL_product) (maxL := 1) (ret := (some .int)) (by decide) rfl ?_
    intro p e s m args below meth c s₁ B hml hv
    obtain ⟨rfl, -⟩ := hv
    have hx := B.exec
    have hb := B.bytes
    have hr := B.returns
    have hts := atoms_spec (ws := wsL_product) B.pre
    have hown : s.vm.findClass RL = some m.cls := findClass_of_methodNamed B.named
    have hlocks := B.notSynchronized
    have hl := lv_entry ([.int (nI (0 + 1))]) (n := 1) (Nat.le_of_ble_eq_true rfl)
    rw [lg_entry_eq]
    generalize (lg_sl ([.int (nI (0 + 1))]) ++ List.replicate (1 - (lg_sl ([.int (nI (0 + 1))])).length) Slot.unset).toArray = ls at hl ⊢
    have hl : lv_has ls 1 [(0, .int (nI (0 + 1)))] := hl
    refine lv_iload_n hx hb dL_product_0 rfl (lv_at hl 0 rfl) ?_
    refine xn_iconst (v := 2) hx hb dL_product_1 (by decide) ?_
    refine xn_icmp_ge (tgt := 9) hx hb dL_product_2 (by decide) (by omega) (by decide) (fun c2 => ?_) (fun c2 => ?_)
    · exact absurd c2 (by decide)
    · refine xn_iconst (v := 1) hx hb dL_product_5 (by decide) ?_
      refine lv_goto (tgt := 17) hx hb dL_product_6 (by decide) ?_
      exact x_iret hx hb hr hlocks rfl rfl dL_product_17
  | k + 1, hk => by
    refine Met.ofW (cc := cL_product) (maxL := 1) (ret := (some .int)) (by decide) rfl ?_
    intro p e s m args below meth c s₁ B hml hv
    obtain ⟨rfl, -⟩ := hv
    have hx := B.exec
    have hb := B.bytes
    have hr := B.returns
    have hts := atoms_spec (ws := wsL_product) B.pre
    have hown : s.vm.findClass RL = some m.cls := findClass_of_methodNamed B.named
    have hlocks := B.notSynchronized
    have hl := lv_entry ([.int (nI ((k + 1) + 1))]) (n := 1) (Nat.le_of_ble_eq_true rfl)
    rw [lg_entry_eq]
    generalize (lg_sl ([.int (nI ((k + 1) + 1))]) ++ List.replicate (1 - (lg_sl ([.int (nI ((k + 1) + 1))])).length) Slot.unset).toArray = ls at hl ⊢
    have hl : lv_has ls 1 [(0, .int (nI ((k + 1) + 1)))] := hl
    refine lv_iload_n hx hb dL_product_0 rfl (lv_at hl 0 rfl) ?_
    refine xn_iconst (v := 2) hx hb dL_product_1 (by decide) ?_
    refine xn_icmp_ge (tgt := 9) hx hb dL_product_2 (by decide) (by omega) (by decide) (fun c2 => ?_) (fun c2 => ?_)
    · skip
      refine lv_iload_n hx hb dL_product_9 rfl (lv_at hl 0 rfl) ?_
      refine lv_iload_n hx hb dL_product_10 rfl (lv_at hl 0 rfl) ?_
      refine xn_iconst (v := 1) hx hb dL_product_11 (by decide) ?_
      refine xn_isub hx hb (by omega) dL_product_12 ?_
      refine xz_i (y := nI (k + 1)) rfl ?_
      refine lcS (As := [.int (nI (k + 1))]) (rest := [.int (nI (k + 1 + 1))]) ⟨hx, hb, hml, hown, hts⟩ (cL_product_ l k (by omega)) (cwS 1 hts gL_product_L_product rfl rfl rfl (by decide +kernel) ⟨Nat.le_refl _, (by show 8 + (1 + 11) + 40 * k ≤ 40 * (k + 1); omega)⟩) lpre0 rfl hl.1 rfl (Nat.le_of_ble_eq_true rfl) dL_product_13 ⟨Nat.zero_le _, Nat.zero_le _⟩ (fun x13 e13 => ?_)
      subst e13
      refine xn_imul hx hb dL_product_16 ?_
      exact x_iret hx hb hr hlocks rfl rfl dL_product_17
    · exact absurd c2 (by omega)
set_option maxRecDepth 100000 in
set_option maxHeartbeats 4000000 in
theorem cL_bellsOf_ (l : Launch) (b L : Nat) (xs : Nat → Int32) (hL : L < 2 ^ 31) : Met l yL_bellsOf wsL_bellsOf (xRm 1 0 0) (va_Pc [.ref b] (lX b L xs)) (vp_Si (fun x => x = nI (blo xs L))) 0 0 (fun _ => False) := by
  refine Met.ofW (cc := cL_bellsOf) (maxL := 1) (ret := (some .int)) (by decide) rfl ?_
  intro p e s m args below meth c s₁ B hml hv
  obtain ⟨rfl, hX⟩ := hv
  have hx := B.exec
  have hb := B.bytes
  have hr := B.returns
  have hts := atoms_spec (ws := wsL_bellsOf) B.pre
  have hown : s.vm.findClass RL = some m.cls := findClass_of_methodNamed B.named
  have hlocks := B.notSynchronized
  have hl := lv_entry ([.ref b]) (n := 1) (Nat.le_of_ble_eq_true rfl)
  rw [lg_entry_eq]
  generalize (lg_sl ([.ref b]) ++ List.replicate (1 - (lg_sl ([.ref b])).length) Slot.unset).toArray = ls at hl ⊢
  have hl : lv_has ls 1 [(0, .ref b)] := hl
  have hX : va_X b L xs s s.heap := hX
  have hbl : b < s.heap.size := va_X_lt hX
  have hS : va_S (fun _ => False) s.heap s.heap [] := va_S.rf
  refine xn_iconst (v := 2) hx hb dL_bellsOf_0 (by decide) ?_
  refine lv_aload_n hx hb dL_bellsOf_1 rfl (lv_at hl 0 rfl) ?_
  refine xn_iconst (v := 0) hx hb dL_bellsOf_2 (by decide) ?_
  refine lcS (As := [.ref b, .int (nI 0)]) (rest := [.int (nI 2)]) ⟨hx, hb, hml, hown, hts⟩ (cL_cell_ l b L xs hL 0 (by decide)) (va_cwS 2 hts gL_bellsOf_L_cell rfl rfl rfl (by decide +kernel) ⟨Nat.le_of_ble_eq_true rfl, Nat.le_of_ble_eq_true rfl⟩) (lpreX hX) rfl hl.1 rfl (Nat.le_of_ble_eq_true rfl) dL_bellsOf_3 ⟨Nat.zero_le _, Nat.zero_le _⟩ (fun x3 e3 => ?_)
  subst e3
  refine xn_bipush (v := 7) hx hb dL_bellsOf_6 (by decide) ?_
  refine lcS (As := [.int (cel xs L 0), .int (nI 7)]) (rest := [.int (nI 2)]) ⟨hx, hb, hml, hown, hts⟩ (cL_below_ l (cel xs L 0) 7 (by decide) (by decide)) (va_cwS 2 hts gL_bellsOf_L_below rfl rfl rfl (by decide +kernel) ⟨Nat.le_of_ble_eq_true rfl, Nat.le_of_ble_eq_true rfl⟩) lpre0 rfl hl.1 rfl (Nat.le_of_ble_eq_true rfl) dL_bellsOf_8 ⟨Nat.zero_le _, Nat.zero_le _⟩ (fun x8 e8 => ?_)
  subst e8
  refine xn_iadd hx hb dL_bellsOf_11 ?_
  exact x_iret hx hb hr hlocks rfl rfl dL_bellsOf_12
set_option maxRecDepth 100000 in
set_option maxHeartbeats 4000000 in
theorem cL_keptOf_ (l : Launch) (b L : Nat) (xs : Nat → Int32) (hL : L < 2 ^ 31) (n k : Nat) (hn : n ≤ 8) (hk : k < 100) : Met l yL_keptOf wsL_keptOf (xRm 1 0 0) (va_Pc [.ref b, .int (nI n), .int (nI k)] (lX b L xs)) (vp_Si (fun x => ∃ K, x = nI K ∧ K < 2 ^ n ∧ stp K n n 0 = 1)) 0 0 (fun _ => False) := by
  refine Met.ofW (cc := cL_keptOf) (maxL := 7) (ret := (some .int)) (by decide) rfl ?_
  intro p e s m args below meth c s₁ B hml hv
  obtain ⟨rfl, hX⟩ := hv
  have hx := B.exec
  have hb := B.bytes
  have hr := B.returns
  have hts := atoms_spec (ws := wsL_keptOf) B.pre
  have hown : s.vm.findClass RL = some m.cls := findClass_of_methodNamed B.named
  have hlocks := B.notSynchronized
  have hl := lv_entry ([.ref b, .int (nI n), .int (nI k)]) (n := 7) (Nat.le_of_ble_eq_true rfl)
  rw [lg_entry_eq]
  generalize (lg_sl ([.ref b, .int (nI n), .int (nI k)]) ++ List.replicate (7 - (lg_sl ([.ref b, .int (nI n), .int (nI k)])).length) Slot.unset).toArray = ls at hl ⊢
  have hl : lv_has ls 7 [(0, .ref b), (1, .int (nI n)), (2, .int (nI k))] := hl
  have hX : va_X b L xs s s.heap := hX
  have hbl : b < s.heap.size := va_X_lt hX
  have hS : va_S (fun _ => False) s.heap s.heap [] := va_S.rf
  refine xn_iconst (v := 0) hx hb dL_keptOf_0 (by decide) ?_
  refine lv_istore_n (lv' := [(3, .int (nI 0)), (0, .ref b), (1, .int (nI n)), (2, .int (nI k))]) hx hb dL_keptOf_1 rfl hl (by decide) rfl (fun ls hl => ?_)
  refine lv_aload_n hx hb dL_keptOf_2 rfl (lv_at hl 1 rfl) ?_
  refine xn_bipush (v := 7) hx hb dL_keptOf_3 (by decide) ?_
  refine lv_iload_n hx hb dL_keptOf_5 rfl (lv_at hl 3 rfl) ?_
  refine xn_bipush (v := 9) hx hb dL_keptOf_6 (by decide) ?_
  refine xn_irem hx hb (by omega) (by decide) (by decide) dL_keptOf_8 ?_
  refine xn_iadd hx hb dL_keptOf_9 ?_
  refine lcS (As := [.ref b, .int (nI (7 + (k % 9)))]) (rest := []) ⟨hx, hb, hml, hown, hts⟩ (cL_cell_ l b L xs hL (7 + (k % 9)) (by omega)) (va_cwS 2 hts gL_keptOf_L_cell rfl rfl rfl (by decide +kernel) ⟨Nat.le_of_ble_eq_true rfl, Nat.le_of_ble_eq_true rfl⟩) (lpreX hX) rfl hl.1 rfl (Nat.le_of_ble_eq_true rfl) dL_keptOf_10 ⟨Nat.zero_le _, Nat.zero_le _⟩ (fun x10 e10 => ?_)
  subst e10
  refine lv_iload_n hx hb dL_keptOf_13 rfl (lv_at hl 3 rfl) ?_
  refine xn_bipush (v := 9) hx hb dL_keptOf_14 (by decide) ?_
  refine xn_idiv hx hb (by omega) (by decide) (by decide) dL_keptOf_16 ?_
  refine lv_ishr hx hb dL_keptOf_17 ?_
  refine lv_istore (lv' := [(4, .int ((cel xs L (7 + (k % 9))) >>> ((nI (k / 9)) &&& 31))), (3, .int (nI 0)), (0, .ref b), (1, .int (nI n)), (2, .int (nI k))]) hx hb dL_keptOf_18 hl (by decide) rfl (fun ls hl => ?_)
  generalize (cel xs L (7 + (k % 9))) >>> ((nI (k / 9)) &&& 31) = v at hl ⊢
  refine xn_iconst (v := 0) hx hb dL_keptOf_20 (by decide) ?_
  refine lv_istore (lv' := [(5, .int (nI 0)), (4, .int v), (3, .int (nI 0)), (0, .ref b), (1, .int (nI n)), (2, .int (nI k))]) hx hb dL_keptOf_21 hl (by decide) rfl (fun ls hl => ?_)
  refine x_loop (σ := Nat × Nat) (fun a => n - a.2) (fun a ls => (a.2 ≤ n) ∧ (a.1 < 2 ^ a.2) ∧ (∃ u9, n ≤ a.2 + u9 ∧ ∀ K9, K9 % 2 ^ a.2 = a.1 → stp K9 n n 0 = stp K9 n u9 a.2) ∧ lv_has ls 7 [(0, .ref b), (1, .int (nI n)), (2, .int (nI k)), (3, .int (nI a.1)), (4, .int v), (5, .int (nI a.2))]) ?_ (0, 0) ls ⟨(Nat.zero_le _), (by decide), ⟨n, by omega, fun _ _ => rfl⟩, lv_sub hl [3, 4, 5, 2, 1, 0] rfl⟩
  rintro ⟨K, p⟩ ls ⟨hp, hK, hs, hl⟩ ih23
  dsimp only at hp hK hs hl
  refine lv_iload hx hb dL_keptOf_23 (lv_at hl 5 rfl) ?_
  refine lv_iload_n hx hb dL_keptOf_25 rfl (lv_at hl 1 rfl) ?_
  refine xn_icmp_ge (tgt := 88) hx hb dL_keptOf_26 (by decide) (by omega) (by omega) (fun c26 => ?_) (fun c26 => ?_)
  · refine lv_iload_n hx hb dL_keptOf_88 rfl (lv_at hl 3 rfl) ?_
    have hpn : p = n := by omega
    subst hpn
    obtain ⟨u9, hu, hs⟩ := hs
    exact x_iret hx hb hr hlocks rfl ⟨K, rfl, hK, (hs K (Nat.mod_eq_of_lt hK)).trans (stp_end (Nat.le_refl _))⟩ dL_keptOf_89
  · refine lv_iload hx hb dL_keptOf_29 (lv_at hl 5 rfl) ?_
    refine xn_iconst (v := 1) hx hb dL_keptOf_31 (by decide) ?_
    refine xn_iadd hx hb dL_keptOf_32 ?_
    refine lv_iload_n hx hb dL_keptOf_33 rfl (lv_at hl 1 rfl) ?_
    refine xn_icmp_ge (tgt := 51) hx hb dL_keptOf_34 (by decide) (by omega) (by omega) (fun c34 => ?_) (fun c34 => ?_)
    · refine xn_iconst (v := 0) hx hb dL_keptOf_51 (by decide) ?_
      refine lv_istore (lv' := [(6, .int (nI 0)), (0, .ref b), (1, .int (nI n)), (2, .int (nI k)), (3, .int (nI K)), (4, .int v), (5, .int (nI p))]) hx hb dL_keptOf_52 hl (by decide) rfl (fun ls hl => ?_)
      refine lv_iload_n hx hb dL_keptOf_54 rfl (lv_at hl 4 rfl) ?_
      refine lv_iload hx hb dL_keptOf_55 (lv_at hl 0 rfl) ?_
      refine xn_if_eq (tgt := 64) hx hb dL_keptOf_57 (by decide) (by decide) (fun _ => ?_) (fun c => absurd c (by decide))
      refine xn_iconst (v := 1) hx hb dL_keptOf_64 (by decide) ?_
      refine lv_iload hx hb dL_keptOf_65 (lv_at hl 6 rfl) ?_
      refine lv_ishl hx hb dL_keptOf_67 ?_
      refine xz_i (y := (nI (2 ^ p))) ((xshl (by rw [Nat.one_mul]; exact Nat.pow_lt_pow_right (by decide) (by omega)) (by omega)).trans (congrArg nI (Nat.one_mul _))) ?_
      refine lv_ior hx hb dL_keptOf_68 ?_
      refine xz_i (y := (nI (K + 2 ^ p))) (kepO hK) ?_
      refine lv_istore_n (lv' := [(3, .int (nI (K + 2 ^ p))), (6, .int (nI 0)), (0, .ref b), (1, .int (nI n)), (2, .int (nI k)), (4, .int v), (5, .int (nI p))]) hx hb dL_keptOf_69 rfl hl (by decide) rfl (fun ls hl => ?_)
      refine lv_iload hx hb dL_keptOf_70 (lv_at hl 6 rfl) ?_
      refine lv_iload hx hb dL_keptOf_72 (lv_at hl 1 rfl) ?_
      refine xn_if_eq (tgt := 81) hx hb dL_keptOf_74 (by decide) (by decide) (fun _ => ?_) (fun c => absurd c (by decide))
      refine xn_iconst (v := 1) hx hb dL_keptOf_81 (by decide) ?_
      refine xn_iadd hx hb dL_keptOf_82 ?_
      refine lv_istore (lv' := [(5, .int (nI (p + 1))), (3, .int (nI (K + 2 ^ p))), (6, .int (nI 0)), (0, .ref b), (1, .int (nI n)), (2, .int (nI k)), (4, .int v)]) hx hb dL_keptOf_83 hl (by decide) rfl (fun ls hl => ?_)
      refine lv_goto (tgt := 23) hx hb dL_keptOf_85 (by decide) ?_
      exact ih23 (K + 2 ^ p, p + 1) ls ⟨(by dsimp only; omega), (kep1 hK), (kep3 hK (by omega) hs), lv_sub hl [3, 4, 5, 1, 6, 0] rfl⟩ (by dsimp only; omega)
    · refine lv_iload hx hb dL_keptOf_37 (lv_at hl 4 rfl) ?_
      refine lv_iload hx hb dL_keptOf_39 (lv_at hl 5 rfl) ?_
      refine lv_ishr hx hb dL_keptOf_41 ?_
      refine xn_iconst (v := 3) hx hb dL_keptOf_42 (by decide) ?_
      refine lv_iand hx hb dL_keptOf_43 ?_
      refine lv_if_eq (tgt := 51) hx hb dL_keptOf_44 (by decide) (fun c44 => ?_) (fun c44 => ?_)
      · refine xn_iconst (v := 0) hx hb dL_keptOf_51 (by decide) ?_
        refine lv_istore (lv' := [(6, .int (nI 0)), (0, .ref b), (1, .int (nI n)), (2, .int (nI k)), (3, .int (nI K)), (4, .int v), (5, .int (nI p))]) hx hb dL_keptOf_52 hl (by decide) rfl (fun ls hl => ?_)
        refine lv_iload_n hx hb dL_keptOf_54 rfl (lv_at hl 4 rfl) ?_
        refine lv_iload hx hb dL_keptOf_55 (lv_at hl 0 rfl) ?_
        refine xn_if_eq (tgt := 64) hx hb dL_keptOf_57 (by decide) (by decide) (fun _ => ?_) (fun c => absurd c (by decide))
        refine xn_iconst (v := 1) hx hb dL_keptOf_64 (by decide) ?_
        refine lv_iload hx hb dL_keptOf_65 (lv_at hl 6 rfl) ?_
        refine lv_ishl hx hb dL_keptOf_67 ?_
        refine xz_i (y := (nI (2 ^ p))) ((xshl (by rw [Nat.one_mul]; exact Nat.pow_lt_pow_right (by decide) (by omega)) (by omega)).trans (congrArg nI (Nat.one_mul _))) ?_
        refine lv_ior hx hb dL_keptOf_68 ?_
        refine xz_i (y := (nI (K + 2 ^ p))) (kepO hK) ?_
        refine lv_istore_n (lv' := [(3, .int (nI (K + 2 ^ p))), (6, .int (nI 0)), (0, .ref b), (1, .int (nI n)), (2, .int (nI k)), (4, .int v), (5, .int (nI p))]) hx hb dL_keptOf_69 rfl hl (by decide) rfl (fun ls hl => ?_)
        refine lv_iload hx hb dL_keptOf_70 (lv_at hl 6 rfl) ?_
        refine lv_iload hx hb dL_keptOf_72 (lv_at hl 1 rfl) ?_
        refine xn_if_eq (tgt := 81) hx hb dL_keptOf_74 (by decide) (by decide) (fun _ => ?_) (fun c => absurd c (by decide))
        refine xn_iconst (v := 1) hx hb dL_keptOf_81 (by decide) ?_
        refine xn_iadd hx hb dL_keptOf_82 ?_
        refine lv_istore (lv' := [(5, .int (nI (p + 1))), (3, .int (nI (K + 2 ^ p))), (6, .int (nI 0)), (0, .ref b), (1, .int (nI n)), (2, .int (nI k)), (4, .int v)]) hx hb dL_keptOf_83 hl (by decide) rfl (fun ls hl => ?_)
        refine lv_goto (tgt := 23) hx hb dL_keptOf_85 (by decide) ?_
        exact ih23 (K + 2 ^ p, p + 1) ls ⟨(by dsimp only; omega), (kep1 hK), (kep3 hK (by omega) hs), lv_sub hl [3, 4, 5, 1, 6, 0] rfl⟩ (by dsimp only; omega)
      · refine xn_iconst (v := 1) hx hb dL_keptOf_47 (by decide) ?_
        refine lv_goto (tgt := 52) hx hb dL_keptOf_48 (by decide) ?_
        refine lv_istore (lv' := [(6, .int (nI 1)), (0, .ref b), (1, .int (nI n)), (2, .int (nI k)), (3, .int (nI K)), (4, .int v), (5, .int (nI p))]) hx hb dL_keptOf_52 hl (by decide) rfl (fun ls hl => ?_)
        refine lv_iload_n hx hb dL_keptOf_54 rfl (lv_at hl 4 rfl) ?_
        refine lv_iload hx hb dL_keptOf_55 (lv_at hl 0 rfl) ?_
        refine xn_if_eq (tgt := 64) hx hb dL_keptOf_57 (by decide) (by decide) (fun c => absurd c (by decide)) (fun _ => ?_)
        refine xn_iconst (v := 0) hx hb dL_keptOf_60 (by decide) ?_
        refine lv_goto (tgt := 68) hx hb dL_keptOf_61 (by decide) ?_
        refine lv_ior hx hb dL_keptOf_68 ?_
        refine xz_i (y := (nI K)) (kepZ K) ?_
        refine lv_istore_n (lv' := [(3, .int (nI K)), (6, .int (nI 1)), (0, .ref b), (1, .int (nI n)), (2, .int (nI k)), (4, .int v), (5, .int (nI p))]) hx hb dL_keptOf_69 rfl hl (by decide) rfl (fun ls hl => ?_)
        refine lv_iload hx hb dL_keptOf_70 (lv_at hl 6 rfl) ?_
        refine lv_iload hx hb dL_keptOf_72 (lv_at hl 1 rfl) ?_
        refine xn_if_eq (tgt := 81) hx hb dL_keptOf_74 (by decide) (by decide) (fun c => absurd c (by decide)) (fun _ => ?_)
        refine xn_iconst (v := 2) hx hb dL_keptOf_77 (by decide) ?_
        refine lv_goto (tgt := 82) hx hb dL_keptOf_78 (by decide) ?_
        refine xn_iadd hx hb dL_keptOf_82 ?_
        refine lv_istore (lv' := [(5, .int (nI (p + 2))), (3, .int (nI K)), (6, .int (nI 1)), (0, .ref b), (1, .int (nI n)), (2, .int (nI k)), (4, .int v)]) hx hb dL_keptOf_83 hl (by decide) rfl (fun ls hl => ?_)
        refine lv_goto (tgt := 23) hx hb dL_keptOf_85 (by decide) ?_
        exact ih23 (K, p + 2) ls ⟨(by dsimp only; omega), (kep2 hK), (kep4 hK (by omega) hs), lv_sub hl [3, 4, 5, 1, 6, 0] rfl⟩ (by dsimp only; omega)
