/-! THE MODEL: its leaf methods -/
def xMo (D : va_G) (cI : ClassId) (o bk kp t n ch st rg : Nat) (bf kf : Nat → Nat) (H : Heap) : Prop := va_at D vwCl (o, .inr (4, [.int (nI t), .int (nI n), .int (nI ch), .ref bk, .int (nI st), .ref kp, .int (nI rg)])) H ∧ va_at D vwCl (bk, .inl (cI, 16, .inl (xA bf))) H ∧ va_at D vwCl (kp, .inl (cI, 10, .inl (xA kf))) H
theorem xMo_keep {D : va_G} {cI : ClassId} {o bk kp t n ch st rg : Nat} {bf kf : Nat → Nat} {H H1 : Heap} (h : xMo D cI o bk kp t n ch st rg bf kf H) (ho : H1[o]? = H[o]?) (hb : H1[bk]? = H[bk]?) (hk : H1[kp]? = H[kp]?) : xMo D cI o bk kp t n ch st rg bf kf H1 := ⟨h.1.kept ho, h.2.1.kept hb, h.2.2.kept hk⟩
theorem xMo_old {D : va_G} {cI : ClassId} {o bk kp t n ch st rg : Nat} {bf kf : Nat → Nat} {H H1 : Heap} (h : xMo D cI o bk kp t n ch st rg bf kf H) (hk : ∀ x : Nat, x < H.size → H1[x]? = H[x]?) : xMo D cI o bk kp t n ch st rg bf kf H1 := ⟨xat_old h.1 hk, xat_old h.2.1 hk, xat_old h.2.2 hk⟩
theorem xand01 : ∀ (w : Nat), w < 2 → ∀ v, v < 2 → nI w &&& nI v = nI (w * v) := by decide
set_option maxRecDepth 100000 in
set_option maxHeartbeats 4000000 in
theorem cX4_thrown_ (l : Launch) (D : va_G) (cI cC : ClassId) (o bk kp t n ch st rg : Nat) (bf kf : Nat → Nat) : Met l yX4_thrown wsX4_thrown (xRm 0 0 0) (va_Pc [.ref o] (xB D cI cC (xMo D cI o bk kp t n ch st rg bf kf))) (vp_Si (fun x => x = nI t)) 0 0 (fun _ => False) := by
  refine Met.ofW (cc := cX4_thrown) (maxL := 1) (ret := (some .int)) (by decide) rfl ?_
  intro p e s m args below meth c s₁ B hml hv
  obtain ⟨rfl, hP, hK⟩ := hv
  have hx := B.exec
  have hb := B.bytes
  have hr := B.returns
  have hts := atoms_spec (ws := wsX4_thrown) B.pre
  have hown : s.vm.findClass RX4 = some m.cls := findClass_of_methodNamed B.named
  have hlocks := B.notSynchronized
  have hM := hP
  have hl := lv_entry ([.ref o]) (n := 1) (Nat.le_of_ble_eq_true rfl)
  rw [lg_entry_eq]
  generalize (lg_sl ([.ref o]) ++ List.replicate (1 - (lg_sl ([.ref o])).length) Slot.unset).toArray = ls at hl ⊢
  have hl : lv_has ls 1 [(0, .ref o)] := hl
  refine lv_aload_n hx hb dX4_thrown_0 rfl (lv_at hl 0 rfl) ?_
  refine x_get (v := .int (nI t)) (C := RX4) (T := TX4) (N := 7) hx hb hts (by decide +kernel) hown hK hM.1 rfl 0 (by decide) (hts (.fieldLink RX4 20 "BellRanksModel" "thrown" "I") (by decide +kernel)) (fun _ h9 => h9) rfl dX4_thrown_1 ?_
  exact x_iret hx hb hr hlocks rfl rfl dX4_thrown_4

set_option maxRecDepth 100000 in
set_option maxHeartbeats 4000000 in
theorem cX4_isIn_ (l : Launch) (D : va_G) (cI cC : ClassId) (v lo hi : Int32) : Met l yX4_isIn wsX4_isIn (xRm 0 0 0) (va_Pc [.int v, .int lo, .int hi] (xB D cI cC (fun _ => True))) (vp_Si (fun x => x = nI (if lo ≤ v ∧ v ≤ hi then 1 else 0))) 0 0 (fun _ => False) := by
  refine Met.ofW (cc := cX4_isIn) (maxL := 3) (ret := (some .boolean)) (by decide) rfl ?_
  intro p e s m args below meth c s₁ B hml hv
  obtain ⟨rfl, hP, hK⟩ := hv
  have hx := B.exec
  have hb := B.bytes
  have hr := B.returns
  have hts := atoms_spec (ws := wsX4_isIn) B.pre
  have hown : s.vm.findClass RX4 = some m.cls := findClass_of_methodNamed B.named
  have hlocks := B.notSynchronized
  have hl := lv_entry ([.int v, .int lo, .int hi]) (n := 3) (Nat.le_of_ble_eq_true rfl)
  rw [lg_entry_eq]
  generalize (lg_sl ([.int v, .int lo, .int hi]) ++ List.replicate (3 - (lg_sl ([.int v, .int lo, .int hi])).length) Slot.unset).toArray = ls at hl ⊢
  have hl : lv_has ls 3 [(0, .int v), (1, .int lo), (2, .int hi)] := hl
  refine lv_iload_n hx hb dX4_isIn_0 rfl (lv_at hl 0 rfl) ?_
  refine lv_iload_n hx hb dX4_isIn_1 rfl (lv_at hl 1 rfl) ?_
  refine lv_icmp_lt (tgt := 14) hx hb dX4_isIn_2 (by decide) (fun c2 => ?_) (fun c2 => ?_)
  · refine xn_iconst (v := 0) hx hb dX4_isIn_14 (by decide) ?_
    exact x_zret hx hb hr hlocks rfl (by decide) (by rw [if_neg (fun z => Int32.not_lt.mpr z.1 c2)]) dX4_isIn_15
  · refine lv_iload_n hx hb dX4_isIn_5 rfl (lv_at hl 0 rfl) ?_
    refine lv_iload_n hx hb dX4_isIn_6 rfl (lv_at hl 2 rfl) ?_
    refine lv_icmp_gt (tgt := 14) hx hb dX4_isIn_7 (by decide) (fun c7 => ?_) (fun c7 => ?_)
    · refine xn_iconst (v := 0) hx hb dX4_isIn_14 (by decide) ?_
      exact x_zret hx hb hr hlocks rfl (by decide) (by rw [if_neg (fun z => Int32.not_lt.mpr z.2 c7)]) dX4_isIn_15
    · refine xn_iconst (v := 1) hx hb dX4_isIn_10 (by decide) ?_
      refine lv_goto (tgt := 15) hx hb dX4_isIn_11 (by decide) ?_
      exact x_zret hx hb hr hlocks rfl (by decide) (by rw [if_pos ⟨Int32.not_lt.mp c2, Int32.not_lt.mp c7⟩]) dX4_isIn_15

set_option maxRecDepth 100000 in
set_option maxHeartbeats 4000000 in
theorem cX4_isChange_ (l : Launch) (D : va_G) (cI cC : ClassId) (o bk kp t n ch st rg : Nat) (bf kf : Nat → Nat) (hN : ch < 2 ^ 30) (k : Int32) : Met l yX4_isChange wsX4_isChange (xRm 1 0 0) (va_Pc [.ref o, .int k] (xB D cI cC (xMo D cI o bk kp t n ch st rg bf kf))) (vp_Si (fun x => x = nI (if inR k ch then 1 else 0))) 0 0 (fun _ => False) := by
  refine Met.ofW (cc := cX4_isChange) (maxL := 2) (ret := (some .boolean)) (by decide) rfl ?_
  intro p e s m args below meth c s₁ B hml hv
  obtain ⟨rfl, hP, hK⟩ := hv
  have hx := B.exec
  have hb := B.bytes
  have hr := B.returns
  have hts := atoms_spec (ws := wsX4_isChange) B.pre
  have hown : s.vm.findClass RX4 = some m.cls := findClass_of_methodNamed B.named
  have hlocks := B.notSynchronized
  have hM := hP
  have hl := lv_entry ([.ref o, .int k]) (n := 2) (Nat.le_of_ble_eq_true rfl)
  rw [lg_entry_eq]
  generalize (lg_sl ([.ref o, .int k]) ++ List.replicate (2 - (lg_sl ([.ref o, .int k])).length) Slot.unset).toArray = ls at hl ⊢
  have hl : lv_has ls 2 [(0, .ref o), (1, .int k)] := hl
  refine lv_iload_n hx hb dX4_isChange_0 rfl (lv_at hl 1 rfl) ?_
  refine xn_iconst (v := 0) hx hb dX4_isChange_1 (by decide) ?_
  refine lv_aload_n hx hb dX4_isChange_2 rfl (lv_at hl 0 rfl) ?_
  refine x_get (v := .int (nI ch)) (C := RX4) (T := TX4) (N := 7) hx hb hts (by decide +kernel) hown hK hM.1 rfl 2 (by decide) (hts (.fieldLink RX4 23 "BellRanksModel" "changes" "I") (by decide +kernel)) (fun _ h9 => h9) rfl dX4_isChange_3 ?_
  refine xn_iconst (v := 1) hx hb dX4_isChange_6 (by decide) ?_
  refine lv_isub hx hb dX4_isChange_7 ?_
  refine xcS (As := [.int k, .int (nI 0), .int (nI ch - nI 1)]) (rest := []) ⟨hx, hb, hml, hown, hts⟩ (cX4_isIn_ l D cI cC k (nI 0) (nI ch - nI 1)) (va_cwS 3 hts gX4_isChange_X4_isIn rfl rfl rfl (by decide +kernel) ⟨Nat.le_of_ble_eq_true rfl, Nat.le_of_ble_eq_true rfl⟩) hK trivial rfl hl.1 rfl (Nat.le_of_ble_eq_true rfl) dX4_isChange_8 ⟨Nat.zero_le _, Nat.zero_le _⟩ (fun x8 e8 => ?_)
  subst e8
  exact x_zret hx hb hr hlocks rfl (by split <;> decide) (congrArg nI (ite10 (inR_in hN))) dX4_isChange_11

set_option maxRecDepth 100000 in
set_option maxHeartbeats 4000000 in
theorem cX4_isPlace_ (l : Launch) (D : va_G) (cI cC : ClassId) (o bk kp t n ch st rg : Nat) (bf kf : Nat → Nat) (hN : n < 2 ^ 30) (k : Int32) : Met l yX4_isPlace wsX4_isPlace (xRm 1 0 0) (va_Pc [.ref o, .int k] (xB D cI cC (xMo D cI o bk kp t n ch st rg bf kf))) (vp_Si (fun x => x = nI (if inR k n then 1 else 0))) 0 0 (fun _ => False) := by
  refine Met.ofW (cc := cX4_isPlace) (maxL := 2) (ret := (some .boolean)) (by decide) rfl ?_
  intro p e s m args below meth c s₁ B hml hv
  obtain ⟨rfl, hP, hK⟩ := hv
  have hx := B.exec
  have hb := B.bytes
  have hr := B.returns
  have hts := atoms_spec (ws := wsX4_isPlace) B.pre
  have hown : s.vm.findClass RX4 = some m.cls := findClass_of_methodNamed B.named
  have hlocks := B.notSynchronized
  have hM := hP
  have hl := lv_entry ([.ref o, .int k]) (n := 2) (Nat.le_of_ble_eq_true rfl)
  rw [lg_entry_eq]
  generalize (lg_sl ([.ref o, .int k]) ++ List.replicate (2 - (lg_sl ([.ref o, .int k])).length) Slot.unset).toArray = ls at hl ⊢
  have hl : lv_has ls 2 [(0, .ref o), (1, .int k)] := hl
  refine lv_iload_n hx hb dX4_isPlace_0 rfl (lv_at hl 1 rfl) ?_
  refine xn_iconst (v := 0) hx hb dX4_isPlace_1 (by decide) ?_
  refine lv_aload_n hx hb dX4_isPlace_2 rfl (lv_at hl 0 rfl) ?_
  refine x_get (v := .int (nI n)) (C := RX4) (T := TX4) (N := 7) hx hb hts (by decide +kernel) hown hK hM.1 rfl 1 (by decide) (hts (.fieldLink RX4 7 "BellRanksModel" "bells" "I") (by decide +kernel)) (fun _ h9 => h9) rfl dX4_isPlace_3 ?_
  refine xn_iconst (v := 1) hx hb dX4_isPlace_6 (by decide) ?_
  refine lv_isub hx hb dX4_isPlace_7 ?_
  refine xcS (As := [.int k, .int (nI 0), .int (nI n - nI 1)]) (rest := []) ⟨hx, hb, hml, hown, hts⟩ (cX4_isIn_ l D cI cC k (nI 0) (nI n - nI 1)) (va_cwS 3 hts gX4_isPlace_X4_isIn rfl rfl rfl (by decide +kernel) ⟨Nat.le_of_ble_eq_true rfl, Nat.le_of_ble_eq_true rfl⟩) hK trivial rfl hl.1 rfl (Nat.le_of_ble_eq_true rfl) dX4_isPlace_8 ⟨Nat.zero_le _, Nat.zero_le _⟩ (fun x8 e8 => ?_)
  subst e8
  exact x_zret hx hb hr hlocks rfl (by split <;> decide) (congrArg nI (ite10 (inR_in hN))) dX4_isPlace_11

set_option maxRecDepth 100000 in
set_option maxHeartbeats 4000000 in
theorem cX4_productk_ (l : Launch) (D : va_G) (cI cC : ClassId) : ∀ (k z : Nat), z ≤ k + 1 → z < 20 → Met l yX4_product wsX4_product (xRm k 0 0) (va_Pc [.int (nI z)] (xB D cI cC (fun _ => True))) (vp_Si (fun x => x = nI (fac z))) 0 0 (fun _ => False) := by
  intro k
  induction k with
  | zero =>
    intro z hz hz20
    refine Met.ofW (cc := cX4_product) (maxL := 1) (ret := (some .int)) (by decide) rfl ?_
    intro p e s m args below meth c s₁ B hml hv
    obtain ⟨rfl, hP, hK⟩ := hv
    have hx := B.exec
    have hb := B.bytes
    have hr := B.returns
    have hts := atoms_spec (ws := wsX4_product) B.pre
    have hown : s.vm.findClass RX4 = some m.cls := findClass_of_methodNamed B.named
    have hlocks := B.notSynchronized
    have hl := lv_entry ([.int (nI z)]) (n := 1) (Nat.le_of_ble_eq_true rfl)
    rw [lg_entry_eq]
    generalize (lg_sl ([.int (nI z)]) ++ List.replicate (1 - (lg_sl ([.int (nI z)])).length) Slot.unset).toArray = ls at hl ⊢
    have hl : lv_has ls 1 [(0, .int (nI z))] := hl
    refine lv_iload_n hx hb dX4_product_0 rfl (lv_at hl 0 rfl) ?_
    refine xn_iconst (v := 2) hx hb dX4_product_1 (by decide) ?_
    refine xn_icmp_ge (tgt := 9) hx hb dX4_product_2 (by decide) (by omega) (by decide) (fun c2 => ?_) (fun c2 => ?_)
    · exact absurd c2 (by omega)
    · refine xn_iconst (v := 1) hx hb dX4_product_5 (by decide) ?_
      refine lv_goto (tgt := 17) hx hb dX4_product_6 (by decide) ?_
      exact x_iret hx hb hr hlocks rfl (by rcases (show z = 0 ∨ z = 1 by omega) with rfl | rfl <;> rfl) dX4_product_17
  | succ k ih =>
    intro z hz hz20
    refine Met.ofW (cc := cX4_product) (maxL := 1) (ret := (some .int)) (by decide) rfl ?_
    intro p e s m args below meth c s₁ B hml hv
    obtain ⟨rfl, hP, hK⟩ := hv
    have hx := B.exec
    have hb := B.bytes
    have hr := B.returns
    have hts := atoms_spec (ws := wsX4_product) B.pre
    have hown : s.vm.findClass RX4 = some m.cls := findClass_of_methodNamed B.named
    have hlocks := B.notSynchronized
    have hl := lv_entry ([.int (nI z)]) (n := 1) (Nat.le_of_ble_eq_true rfl)
    rw [lg_entry_eq]
    generalize (lg_sl ([.int (nI z)]) ++ List.replicate (1 - (lg_sl ([.int (nI z)])).length) Slot.unset).toArray = ls at hl ⊢
    have hl : lv_has ls 1 [(0, .int (nI z))] := hl
    refine lv_iload_n hx hb dX4_product_0 rfl (lv_at hl 0 rfl) ?_
    refine xn_iconst (v := 2) hx hb dX4_product_1 (by decide) ?_
    refine xn_icmp_ge (tgt := 9) hx hb dX4_product_2 (by decide) (by omega) (by decide) (fun c2 => ?_) (fun c2 => ?_)
    · refine lv_iload_n hx hb dX4_product_9 rfl (lv_at hl 0 rfl) ?_
      refine lv_iload_n hx hb dX4_product_10 rfl (lv_at hl 0 rfl) ?_
      refine xn_iconst (v := 1) hx hb dX4_product_11 (by decide) ?_
      refine xn_isub hx hb (by omega) dX4_product_12 ?_
      refine xcS (As := [.int (nI (z - 1))]) (rest := [.int (nI z)]) ⟨hx, hb, hml, hown, hts⟩ (ih (z - 1) (by omega) (by omega)) (cwS 1 hts gX4_product_X4_product rfl rfl rfl (by decide +kernel) ⟨Nat.le_refl _, by show 8 + (1 + 11) + 40 * k ≤ 40 * (k + 1); omega⟩) hK trivial rfl hl.1 rfl (Nat.le_of_ble_eq_true rfl) dX4_product_13 ⟨Nat.zero_le _, Nat.zero_le _⟩ (fun x13 e13 => ?_)
      subst e13
      refine xn_imul hx hb dX4_product_16 ?_
      exact x_iret hx hb hr hlocks rfl (congrArg nI (by obtain ⟨w, rfl⟩ : ∃ w, z = w + 1 := ⟨z - 1, by omega⟩; rfl)) dX4_product_17
    · refine xn_iconst (v := 1) hx hb dX4_product_5 (by decide) ?_
      refine lv_goto (tgt := 17) hx hb dX4_product_6 (by decide) ?_
      exact x_iret hx hb hr hlocks rfl (by rcases (show z = 0 ∨ z = 1 by omega) with rfl | rfl <;> rfl) dX4_product_17

theorem cX4_product_ (l : Launch) (D : va_G) (cI cC : ClassId) (z : Nat) (hz : z ≤ 8) : Met l yX4_product wsX4_product (xRm 7 0 0) (va_Pc [.int (nI z)] (xB D cI cC (fun _ => True))) (vp_Si (fun x => x = nI (fac z))) 0 0 (fun _ => False) := cX4_productk_ l D cI cC 7 z hz (by omega)

set_option maxRecDepth 100000 in
set_option maxHeartbeats 4000000 in
theorem cX4_less_ (l : Launch) (D : va_G) (cI cC : ClassId) (o bk kp t n ch st rg : Nat) (bf kf : Nat → Nat) (q : Nat) (f : Nat → Nat) (hn : n ≤ 8) (hf : ∀ i, i < n → f i < 100) (j : Nat) (hj : j < n) : Met l yX4_less wsX4_less (xRm 0 0 0) (va_Pc [.ref o, .ref q, .int (nI j)] (xB D cI cC (fun H => xMo D cI o bk kp t n ch st rg bf kf H ∧ xRow D cI q n f H))) (vp_Si (fun x => x = nI (lss f n j))) 0 0 (fun _ => False) := by
  refine Met.ofW (cc := cX4_less) (maxL := 5) (ret := (some .int)) (by decide) rfl ?_
  intro p e s m args below meth c s₁ B hml hv
  obtain ⟨rfl, hP, hK⟩ := hv
  have hx := B.exec
  have hb := B.bytes
  have hr := B.returns
  have hts := atoms_spec (ws := wsX4_less) B.pre
  have hown : s.vm.findClass RX4 = some m.cls := findClass_of_methodNamed B.named
  have hlocks := B.notSynchronized
  obtain ⟨hM, hR⟩ := hP
  have hl := lv_entry ([.ref o, .ref q, .int (nI j)]) (n := 5) (Nat.le_of_ble_eq_true rfl)
  rw [lg_entry_eq]
  generalize (lg_sl ([.ref o, .ref q, .int (nI j)]) ++ List.replicate (5 - (lg_sl ([.ref o, .ref q, .int (nI j)])).length) Slot.unset).toArray = ls at hl ⊢
  have hl : lv_has ls 5 [(0, .ref o), (1, .ref q), (2, .int (nI j))] := hl
  refine xn_iconst (v := 0) hx hb dX4_less_0 (by decide) ?_
  refine lv_istore_n (lv' := [(3, .int (nI 0)), (0, .ref o), (1, .ref q), (2, .int (nI j))]) hx hb dX4_less_1 rfl hl (by decide) rfl (fun ls hl => ?_)
  refine lv_iload_n hx hb dX4_less_2 rfl (lv_at hl 3 rfl) ?_
  refine xn_iconst (v := 1) hx hb dX4_less_3 (by decide) ?_
  refine xn_iadd hx hb dX4_less_4 ?_
  refine lv_istore (lv' := [(4, .int (nI (j + 1))), (3, .int (nI 0)), (0, .ref o), (1, .ref q), (2, .int (nI j))]) hx hb dX4_less_5 hl (by decide) rfl (fun ls hl => ?_)
  refine x_loop (σ := Nat × Nat) (fun a => n - a.2) (fun a ls => (j < a.2) ∧ (a.2 ≤ n) ∧ (a.1 = sm (lsf f j) a.2) ∧ lv_has ls 5 [(0, .ref o), (1, .ref q), (2, .int (nI j)), (3, .int (nI a.1)), (4, .int (nI a.2))]) ?_ (0, j + 1) ls ⟨(by dsimp only; omega), (by dsimp only; omega), (sm_zero fun q hq => lsf_le (by dsimp only at hq; omega)).symm, lv_sub hl [2, 3, 4, 1, 0] rfl⟩
  rintro ⟨L, i⟩ ls ⟨h1, h2, h3, hl⟩ ih7
  dsimp only at h1 h2 h3 hl
  refine lv_iload hx hb dX4_less_7 (lv_at hl 4 rfl) ?_
  refine lv_aload_n hx hb dX4_less_9 rfl (lv_at hl 0 rfl) ?_
  refine x_get (v := .int (nI n)) (C := RX4) (T := TX4) (N := 7) hx hb hts (by decide +kernel) hown hK hM.1 rfl 1 (by decide) (hts (.fieldLink RX4 7 "BellRanksModel" "bells" "I") (by decide +kernel)) (fun _ h9 => h9) rfl dX4_less_10 ?_
  refine xn_icmp_ge (tgt := 40) hx hb dX4_less_13 (by decide) (by omega) (by omega) (fun c13 => ?_) (fun c13 => ?_)
  · refine lv_iload_n hx hb dX4_less_40 rfl (lv_at hl 3 rfl) ?_
    exact x_iret hx hb hr hlocks rfl (by rw [h3, show i = n by omega]; rfl) dX4_less_41
  · refine lv_iload_n hx hb dX4_less_16 rfl (lv_at hl 3 rfl) ?_
    refine lv_aload_n hx hb dX4_less_17 rfl (lv_at hl 1 rfl) ?_
    refine lv_iload hx hb dX4_less_18 (lv_at hl 4 rfl) ?_
    refine x_iald hx hb hK hR (by omega) (by omega) dX4_less_20 ?_
    refine lv_aload_n hx hb dX4_less_21 rfl (lv_at hl 1 rfl) ?_
    refine lv_iload_n hx hb dX4_less_22 rfl (lv_at hl 2 rfl) ?_
    refine x_iald hx hb hK hR (by omega) (by omega) dX4_less_23 ?_
    refine xn_icmp_ge (tgt := 31) hx hb dX4_less_24 (by decide) (Nat.lt_trans (hf _ (by omega)) (by decide)) (Nat.lt_trans (hf _ (by omega)) (by decide)) (fun c24 => ?_) (fun c24 => ?_)
    · refine xn_iconst (v := 0) hx hb dX4_less_31 (by decide) ?_
      refine xn_iadd hx hb dX4_less_32 ?_
      refine lv_istore_n (lv' := [(3, .int (nI (L + 0))), (0, .ref o), (1, .ref q), (2, .int (nI j)), (4, .int (nI i))]) hx hb dX4_less_33 rfl hl (by decide) rfl (fun ls hl => ?_)
      refine xn_iinc (v := i + 1) (lv' := [(4, .int (nI (i + 1))), (3, .int (nI (L + 0))), (0, .ref o), (1, .ref q), (2, .int (nI j))]) hx hb dX4_less_34 hl (k := 4) rfl (xinc1 _) (by decide) rfl (fun ls hl => ?_)
      refine lv_goto (tgt := 7) hx hb dX4_less_37 (by decide) ?_
      exact ih7 (L + 0, i + 1) ls ⟨(by dsimp only; omega), (by dsimp only; omega), (by dsimp only; rw [sm_succ, ← h3, lsf0 c24] <;> rfl), lv_sub hl [2, 3, 4, 1, 0] rfl⟩ (by dsimp only; omega)
    · refine xn_iconst (v := 1) hx hb dX4_less_27 (by decide) ?_
      refine lv_goto (tgt := 32) hx hb dX4_less_28 (by decide) ?_
      refine xn_iadd hx hb dX4_less_32 ?_
      refine lv_istore_n (lv' := [(3, .int (nI (L + 1))), (0, .ref o), (1, .ref q), (2, .int (nI j)), (4, .int (nI i))]) hx hb dX4_less_33 rfl hl (by decide) rfl (fun ls hl => ?_)
      refine xn_iinc (v := i + 1) (lv' := [(4, .int (nI (i + 1))), (3, .int (nI (L + 1))), (0, .ref o), (1, .ref q), (2, .int (nI j))]) hx hb dX4_less_34 hl (k := 4) rfl (xinc1 _) (by decide) rfl (fun ls hl => ?_)
      refine lv_goto (tgt := 7) hx hb dX4_less_37 (by decide) ?_
      exact ih7 (L + 1, i + 1) ls ⟨(by dsimp only; omega), (by dsimp only; omega), (by dsimp only; rw [sm_succ, ← h3, lsf1 h1 c24] <;> rfl), lv_sub hl [2, 3, 4, 1, 0] rfl⟩ (by dsimp only; omega)

set_option maxRecDepth 100000 in
set_option maxHeartbeats 4000000 in
theorem cX4_rank_ (l : Launch) (D : va_G) (cI cC : ClassId) (o bk kp t n ch st rg : Nat) (bf kf : Nat → Nat) (q : Nat) (f : Nat → Nat) (hn : n ≤ 8) (hf : ∀ i, i < n → f i < 100) : Met l yX4_rank wsX4_rank (xRm 8 0 0) (va_Pc [.ref o, .ref q] (xB D cI cC (fun H => xMo D cI o bk kp t n ch st rg bf kf H ∧ xRow D cI q n f H))) (vp_Si (fun x => x = nI (hrk f n n))) 0 0 (fun _ => False) := by
  refine Met.ofW (cc := cX4_rank) (maxL := 4) (ret := (some .int)) (by decide) rfl ?_
  intro p e s m args below meth c s₁ B hml hv
  obtain ⟨rfl, hP, hK⟩ := hv
  have hx := B.exec
  have hb := B.bytes
  have hr := B.returns
  have hts := atoms_spec (ws := wsX4_rank) B.pre
  have hown : s.vm.findClass RX4 = some m.cls := findClass_of_methodNamed B.named
  have hlocks := B.notSynchronized
  obtain ⟨hM, hR⟩ := hP
  have hl := lv_entry ([.ref o, .ref q]) (n := 4) (Nat.le_of_ble_eq_true rfl)
  rw [lg_entry_eq]
  generalize (lg_sl ([.ref o, .ref q]) ++ List.replicate (4 - (lg_sl ([.ref o, .ref q])).length) Slot.unset).toArray = ls at hl ⊢
  have hl : lv_has ls 4 [(0, .ref o), (1, .ref q)] := hl
  refine xn_iconst (v := 0) hx hb dX4_rank_0 (by decide) ?_
  refine lv_istore_n (lv' := [(2, .int (nI 0)), (0, .ref o), (1, .ref q)]) hx hb dX4_rank_1 rfl hl (by decide) rfl (fun ls hl => ?_)
  refine xn_iconst (v := 0) hx hb dX4_rank_2 (by decide) ?_
  refine lv_istore_n (lv' := [(3, .int (nI 0)), (2, .int (nI 0)), (0, .ref o), (1, .ref q)]) hx hb dX4_rank_3 rfl hl (by decide) rfl (fun ls hl => ?_)
  refine x_loop (σ := Nat × Nat) (fun a => n - a.2) (fun a ls => (a.2 ≤ n) ∧ (a.1 = mrk f n a.2) ∧ lv_has ls 4 [(0, .ref o), (1, .ref q), (2, .int (nI a.1)), (3, .int (nI a.2))]) ?_ (0, 0) ls ⟨(Nat.zero_le _), rfl, lv_sub hl [2, 3, 1, 0] rfl⟩
  rintro ⟨L, i⟩ ls ⟨h2, h3, hl⟩ ih4
  dsimp only at h2 h3 hl
  refine lv_iload_n hx hb dX4_rank_4 rfl (lv_at hl 3 rfl) ?_
  refine lv_aload_n hx hb dX4_rank_5 rfl (lv_at hl 0 rfl) ?_
  refine x_get (v := .int (nI n)) (C := RX4) (T := TX4) (N := 7) hx hb hts (by decide +kernel) hown hK hM.1 rfl 1 (by decide) (hts (.fieldLink RX4 7 "BellRanksModel" "bells" "I") (by decide +kernel)) (fun _ h9 => h9) rfl dX4_rank_6 ?_
  refine xn_icmp_ge (tgt := 39) hx hb dX4_rank_9 (by decide) (by omega) (by omega) (fun c9 => ?_) (fun c9 => ?_)
  · refine lv_iload_n hx hb dX4_rank_39 rfl (lv_at hl 2 rfl) ?_
    exact x_iret hx hb hr hlocks rfl (by rw [h3, show i = n by omega, mrk_eq]) dX4_rank_40
  · refine lv_iload_n hx hb dX4_rank_12 rfl (lv_at hl 2 rfl) ?_
    refine lv_aload_n hx hb dX4_rank_13 rfl (lv_at hl 0 rfl) ?_
    refine lv_aload_n hx hb dX4_rank_14 rfl (lv_at hl 1 rfl) ?_
    refine lv_iload_n hx hb dX4_rank_15 rfl (lv_at hl 3 rfl) ?_
    refine xcV (As := [.ref q, .int (nI i)]) (rest := [.int (nI L)]) ⟨hx, hb, hml, hown, hts⟩ (cX4_less_ l D cI cC o bk kp t n ch st rg bf kf q f hn hf i (by omega)) (cwV 2 hts gX4_rank_X4_less rfl rfl rfl (by decide +kernel) ⟨Nat.le_of_ble_eq_true rfl, Nat.le_of_ble_eq_true rfl⟩) hK ⟨hM, hR⟩ (xRecv hK rfl hM.1) rfl hl.1 rfl (Nat.le_of_ble_eq_true rfl) dX4_rank_16 ⟨Nat.zero_le _, Nat.zero_le _⟩ (fun x16 e16 => ?_)
    subst e16
    refine lv_aload_n hx hb dX4_rank_19 rfl (lv_at hl 0 rfl) ?_
    refine x_get (v := .int (nI n)) (C := RX4) (T := TX4) (N := 7) hx hb hts (by decide +kernel) hown hK hM.1 rfl 1 (by decide) (hts (.fieldLink RX4 7 "BellRanksModel" "bells" "I") (by decide +kernel)) (fun _ h9 => h9) rfl dX4_rank_20 ?_
    refine xn_iconst (v := 1) hx hb dX4_rank_23 (by decide) ?_
    refine xn_isub hx hb (by omega) dX4_rank_24 ?_
    refine lv_iload_n hx hb dX4_rank_25 rfl (lv_at hl 3 rfl) ?_
    refine xn_isub hx hb (by omega) dX4_rank_26 ?_
    refine xcS (As := [.int (nI ((n - 1) - i))]) (rest := [.int (nI (lss f n i)), .int (nI L)]) ⟨hx, hb, hml, hown, hts⟩ (cX4_product_ l D cI cC ((n - 1) - i) (by omega)) (va_cwS 1 hts gX4_rank_X4_product rfl rfl rfl (by decide +kernel) ⟨Nat.le_of_ble_eq_true rfl, Nat.le_of_ble_eq_true rfl⟩) hK trivial rfl hl.1 rfl (Nat.le_of_ble_eq_true rfl) dX4_rank_27 ⟨Nat.zero_le _, Nat.zero_le _⟩ (fun x27 e27 => ?_)
    subst e27
    refine xn_imul hx hb dX4_rank_30 ?_
    refine xn_iadd hx hb dX4_rank_31 ?_
    refine lv_istore_n (lv' := [(2, .int (nI (L + ((lss f n i) * (fac ((n - 1) - i)))))), (0, .ref o), (1, .ref q), (3, .int (nI i))]) hx hb dX4_rank_32 rfl hl (by decide) rfl (fun ls hl => ?_)
    refine xn_iinc (v := i + 1) (lv' := [(3, .int (nI (i + 1))), (2, .int (nI (L + ((lss f n i) * (fac ((n - 1) - i)))))), (0, .ref o), (1, .ref q)]) hx hb dX4_rank_33 hl (k := 3) rfl (xinc1 _) (by decide) rfl (fun ls hl => ?_)
    refine lv_goto (tgt := 4) hx hb dX4_rank_36 (by decide) ?_
    exact ih4 (L + ((lss f n i) * (fac ((n - 1) - i))), i + 1) ls ⟨(by dsimp only; omega), (by dsimp only; rw [h3]; rfl), lv_sub hl [2, 3, 1, 0] rfl⟩ (by dsimp only; omega)

set_option maxRecDepth 100000 in
set_option maxHeartbeats 4000000 in
theorem cX4_inversions_ (l : Launch) (D : va_G) (cI cC : ClassId) (o bk kp t n ch st rg : Nat) (bf kf : Nat → Nat) (q : Nat) (f : Nat → Nat) (hn : n ≤ 8) (hf : ∀ i, i < n → f i < 100) : Met l yX4_inversions wsX4_inversions (xRm 1 0 0) (va_Pc [.ref o, .ref q] (xB D cI cC (fun H => xMo D cI o bk kp t n ch st rg bf kf H ∧ xRow D cI q n f H))) (vp_Si (fun x => x = nI (ivs f n))) 0 0 (fun _ => False) := by
  refine Met.ofW (cc := cX4_inversions) (maxL := 4) (ret := (some .int)) (by decide) rfl ?_
  intro p e s m args below meth c s₁ B hml hv
  obtain ⟨rfl, hP, hK⟩ := hv
  have hx := B.exec
  have hb := B.bytes
  have hr := B.returns
  have hts := atoms_spec (ws := wsX4_inversions) B.pre
  have hown : s.vm.findClass RX4 = some m.cls := findClass_of_methodNamed B.named
  have hlocks := B.notSynchronized
  obtain ⟨hM, hR⟩ := hP
  have hl := lv_entry ([.ref o, .ref q]) (n := 4) (Nat.le_of_ble_eq_true rfl)
  rw [lg_entry_eq]
  generalize (lg_sl ([.ref o, .ref q]) ++ List.replicate (4 - (lg_sl ([.ref o, .ref q])).length) Slot.unset).toArray = ls at hl ⊢
  have hl : lv_has ls 4 [(0, .ref o), (1, .ref q)] := hl
  refine xn_iconst (v := 0) hx hb dX4_inversions_0 (by decide) ?_
  refine lv_istore_n (lv' := [(2, .int (nI 0)), (0, .ref o), (1, .ref q)]) hx hb dX4_inversions_1 rfl hl (by decide) rfl (fun ls hl => ?_)
  refine xn_iconst (v := 0) hx hb dX4_inversions_2 (by decide) ?_
  refine lv_istore_n (lv' := [(3, .int (nI 0)), (2, .int (nI 0)), (0, .ref o), (1, .ref q)]) hx hb dX4_inversions_3 rfl hl (by decide) rfl (fun ls hl => ?_)
  refine x_loop (σ := Nat × Nat) (fun a => n - a.2) (fun a ls => (a.2 ≤ n) ∧ (a.1 = sm (lss f n) a.2) ∧ lv_has ls 4 [(0, .ref o), (1, .ref q), (2, .int (nI a.1)), (3, .int (nI a.2))]) ?_ (0, 0) ls ⟨(Nat.zero_le _), rfl, lv_sub hl [2, 3, 1, 0] rfl⟩
  rintro ⟨L, i⟩ ls ⟨h2, h3, hl⟩ ih4
  dsimp only at h2 h3 hl
  refine lv_iload_n hx hb dX4_inversions_4 rfl (lv_at hl 3 rfl) ?_
  refine lv_aload_n hx hb dX4_inversions_5 rfl (lv_at hl 0 rfl) ?_
  refine x_get (v := .int (nI n)) (C := RX4) (T := TX4) (N := 7) hx hb hts (by decide +kernel) hown hK hM.1 rfl 1 (by decide) (hts (.fieldLink RX4 7 "BellRanksModel" "bells" "I") (by decide +kernel)) (fun _ h9 => h9) rfl dX4_inversions_6 ?_
  refine xn_icmp_ge (tgt := 27) hx hb dX4_inversions_9 (by decide) (by omega) (by omega) (fun c9 => ?_) (fun c9 => ?_)
  · refine lv_iload_n hx hb dX4_inversions_27 rfl (lv_at hl 2 rfl) ?_
    exact x_iret hx hb hr hlocks rfl (by rw [h3, show i = n by omega]; rfl) dX4_inversions_28
  · refine lv_iload_n hx hb dX4_inversions_12 rfl (lv_at hl 2 rfl) ?_
    refine lv_aload_n hx hb dX4_inversions_13 rfl (lv_at hl 0 rfl) ?_
    refine lv_aload_n hx hb dX4_inversions_14 rfl (lv_at hl 1 rfl) ?_
    refine lv_iload_n hx hb dX4_inversions_15 rfl (lv_at hl 3 rfl) ?_
    refine xcV (As := [.ref q, .int (nI i)]) (rest := [.int (nI L)]) ⟨hx, hb, hml, hown, hts⟩ (cX4_less_ l D cI cC o bk kp t n ch st rg bf kf q f hn hf i (by omega)) (cwV 2 hts gX4_inversions_X4_less rfl rfl rfl (by decide +kernel) ⟨Nat.le_of_ble_eq_true rfl, Nat.le_of_ble_eq_true rfl⟩) hK ⟨hM, hR⟩ (xRecv hK rfl hM.1) rfl hl.1 rfl (Nat.le_of_ble_eq_true rfl) dX4_inversions_16 ⟨Nat.zero_le _, Nat.zero_le _⟩ (fun x16 e16 => ?_)
    subst e16
    refine xn_iadd hx hb dX4_inversions_19 ?_
    refine lv_istore_n (lv' := [(2, .int (nI (L + (lss f n i)))), (0, .ref o), (1, .ref q), (3, .int (nI i))]) hx hb dX4_inversions_20 rfl hl (by decide) rfl (fun ls hl => ?_)
    refine xn_iinc (v := i + 1) (lv' := [(3, .int (nI (i + 1))), (2, .int (nI (L + (lss f n i)))), (0, .ref o), (1, .ref q)]) hx hb dX4_inversions_21 hl (k := 3) rfl (xinc1 _) (by decide) rfl (fun ls hl => ?_)
    refine lv_goto (tgt := 4) hx hb dX4_inversions_24 (by decide) ?_
    exact ih4 (L + (lss f n i), i + 1) ls ⟨(by dsimp only; omega), (by dsimp only; rw [h3]; rfl), lv_sub hl [2, 3, 1, 0] rfl⟩ (by dsimp only; omega)

set_option maxRecDepth 100000 in
set_option maxHeartbeats 4000000 in
theorem cX4_ringOf_ (l : Launch) (D : va_G) (cI cC : ClassId) (o bk kp t n ch st rg : Nat) (bf kf : Nat → Nat) (q : Nat) (f : Nat → Nat) (hn : n ≤ 8) (hp : Prm n f) (j : Nat) (hj : j < n) : Met l yX4_ringOf wsX4_ringOf (xRm 0 0 0) (va_Pc [.ref o, .ref q, .int (nI j)] (xB D cI cC (fun H => xMo D cI o bk kp t n ch st rg bf kf H ∧ xRow D cI q n f H))) (vp_Si (fun x => x = nI (per f n j))) 0 0 (fun _ => False) := by
  refine Met.ofW (cc := cX4_ringOf) (maxL := 5) (ret := (some .int)) (by decide) rfl ?_
  intro p e s m args below meth c s₁ B hml hv
  obtain ⟨rfl, hP, hK⟩ := hv
  have hx := B.exec
  have hb := B.bytes
  have hr := B.returns
  have hts := atoms_spec (ws := wsX4_ringOf) B.pre
  have hown : s.vm.findClass RX4 = some m.cls := findClass_of_methodNamed B.named
  have hlocks := B.notSynchronized
  obtain ⟨hM, hR⟩ := hP
  have hl := lv_entry ([.ref o, .ref q, .int (nI j)]) (n := 5) (Nat.le_of_ble_eq_true rfl)
  rw [lg_entry_eq]
  generalize (lg_sl ([.ref o, .ref q, .int (nI j)]) ++ List.replicate (5 - (lg_sl ([.ref o, .ref q, .int (nI j)])).length) Slot.unset).toArray = ls at hl ⊢
  have hl : lv_has ls 5 [(0, .ref o), (1, .ref q), (2, .int (nI j))] := hl
  refine xn_iconst (v := 1) hx hb dX4_ringOf_0 (by decide) ?_
  refine lv_istore_n (lv' := [(3, .int (nI 1)), (0, .ref o), (1, .ref q), (2, .int (nI j))]) hx hb dX4_ringOf_1 rfl hl (by decide) rfl (fun ls hl => ?_)
  refine lv_aload_n hx hb dX4_ringOf_2 rfl (lv_at hl 2 rfl) ?_
  refine lv_iload_n hx hb dX4_ringOf_3 rfl (lv_at hl 3 rfl) ?_
  refine x_iald hx hb hK hR (by omega) (by omega) dX4_ringOf_4 ?_
  refine lv_istore (lv' := [(4, .int (nI (f j))), (3, .int (nI 1)), (0, .ref o), (1, .ref q), (2, .int (nI j))]) hx hb dX4_ringOf_5 hl (by decide) rfl (fun ls hl => ?_)
  refine x_loop (σ := Nat × Nat) (fun a => per f n j - a.1) (fun a ls => (1 ≤ a.1) ∧ (a.1 ≤ per f n j) ∧ (a.2 = it f a.1 j) ∧ lv_has ls 5 [(0, .ref o), (1, .ref q), (2, .int (nI j)), (3, .int (nI a.1)), (4, .int (nI a.2))]) ?_ (1, f j) ls ⟨(Nat.le_refl _), (per_1 _ _ _), rfl, lv_sub hl [2, 3, 4, 1, 0] rfl⟩
  rintro ⟨k, p9⟩ ls ⟨h1, h2, h3, hl⟩ ih7
  dsimp only at h1 h2 h3 hl
  subst h3
  refine lv_iload hx hb dX4_ringOf_7 (lv_at hl 4 rfl) ?_
  refine lv_iload_n hx hb dX4_ringOf_9 rfl (lv_at hl 2 rfl) ?_
  refine xn_icmp_eq (tgt := 25) hx hb dX4_ringOf_10 (by decide) (Nat.lt_trans (it_ltn hp hj _) (by omega)) (by omega) (fun c10 => ?_) (fun c10 => ?_)
  · refine lv_iload_n hx hb dX4_ringOf_25 rfl (lv_at hl 3 rfl) ?_
    exact x_iret hx hb hr hlocks rfl (congrArg nI (by
          rcases Nat.lt_or_ge k (per f n j) with z | z
          · exact absurd c10 (per_min h1 z)
          · omega)) dX4_ringOf_26
  · have hk : k < per f n j := by
      rcases Nat.lt_or_ge k (per f n j) with z | z
      · exact z
      · exact absurd (by rw [show k = per f n j by omega]; exact per_it hp hj) c10
    refine xn_iinc (v := k + 1) (lv' := [(3, .int (nI (k + 1))), (0, .ref o), (1, .ref q), (2, .int (nI j)), (4, .int (nI (it f k j)))]) hx hb dX4_ringOf_13 hl (k := 3) rfl (xinc1 _) (by decide) rfl (fun ls hl => ?_)
    refine lv_aload_n hx hb dX4_ringOf_16 rfl (lv_at hl 2 rfl) ?_
    refine lv_iload hx hb dX4_ringOf_17 (lv_at hl 4 rfl) ?_
    refine x_iald hx hb hK hR (it_ltn hp hj _) (by omega) dX4_ringOf_19 ?_
    refine lv_istore (lv' := [(4, .int (nI (f (it f k j)))), (3, .int (nI (k + 1))), (0, .ref o), (1, .ref q), (2, .int (nI j))]) hx hb dX4_ringOf_20 hl (by decide) rfl (fun ls hl => ?_)
    refine lv_goto (tgt := 7) hx hb dX4_ringOf_22 (by decide) ?_
    exact ih7 (k + 1, f (it f k j)) ls ⟨(by dsimp only; omega), (by dsimp only; omega), (by dsimp only; rfl), lv_sub hl [2, 3, 4, 1, 0] rfl⟩ (by dsimp only; omega)

set_option maxRecDepth 100000 in
set_option maxHeartbeats 4000000 in
theorem cX4_isFirst_ (l : Launch) (D : va_G) (cI cC : ClassId) (o bk kp t n ch st rg : Nat) (bf kf : Nat → Nat) (q : Nat) (f : Nat → Nat) (hn : n ≤ 8) (hp : Prm n f) (j : Nat) (hj : j < n) : Met l yX4_isFirst wsX4_isFirst (xRm 0 0 0) (va_Pc [.ref o, .ref q, .int (nI j)] (xB D cI cC (fun H => xMo D cI o bk kp t n ch st rg bf kf H ∧ xRow D cI q n f H))) (vp_Si (fun x => x = nI (lst f n j))) 0 0 (fun _ => False) := by
  refine Met.ofW (cc := cX4_isFirst) (maxL := 5) (ret := (some .boolean)) (by decide) rfl ?_
  intro p e s m args below meth c s₁ B hml hv
  obtain ⟨rfl, hP, hK⟩ := hv
  have hx := B.exec
  have hb := B.bytes
  have hr := B.returns
  have hts := atoms_spec (ws := wsX4_isFirst) B.pre
  have hown : s.vm.findClass RX4 = some m.cls := findClass_of_methodNamed B.named
  have hlocks := B.notSynchronized
  obtain ⟨hM, hR⟩ := hP
  have hl := lv_entry ([.ref o, .ref q, .int (nI j)]) (n := 5) (Nat.le_of_ble_eq_true rfl)
  rw [lg_entry_eq]
  generalize (lg_sl ([.ref o, .ref q, .int (nI j)]) ++ List.replicate (5 - (lg_sl ([.ref o, .ref q, .int (nI j)])).length) Slot.unset).toArray = ls at hl ⊢
  have hl : lv_has ls 5 [(0, .ref o), (1, .ref q), (2, .int (nI j))] := hl
  refine xn_iconst (v := 1) hx hb dX4_isFirst_0 (by decide) ?_
  refine lv_istore_n (lv' := [(3, .int (nI 1)), (0, .ref o), (1, .ref q), (2, .int (nI j))]) hx hb dX4_isFirst_1 rfl hl (by decide) rfl (fun ls hl => ?_)
  refine lv_aload_n hx hb dX4_isFirst_2 rfl (lv_at hl 2 rfl) ?_
  refine lv_iload_n hx hb dX4_isFirst_3 rfl (lv_at hl 3 rfl) ?_
  refine x_iald hx hb hK hR (by omega) (by omega) dX4_isFirst_4 ?_
  refine lv_istore (lv' := [(4, .int (nI (f j))), (3, .int (nI 1)), (0, .ref o), (1, .ref q), (2, .int (nI j))]) hx hb dX4_isFirst_5 hl (by decide) rfl (fun ls hl => ?_)
  refine x_loop (σ := Nat × Nat × Nat) (fun a => per f n j - a.2.2) (fun a ls => (1 ≤ a.2.2) ∧ (a.2.2 ≤ per f n j) ∧ (a.2.1 = it f a.2.2 j) ∧ (a.1 = isf f j (a.2.2 - 1)) ∧ lv_has ls 5 [(0, .ref o), (1, .ref q), (2, .int (nI j)), (3, .int (nI a.1)), (4, .int (nI a.2.1))]) ?_ (1, f j, 1) ls ⟨(Nat.le_refl _), (per_1 _ _ _), rfl, rfl, lv_sub hl [2, 3, 4, 1, 0] rfl⟩
  rintro ⟨w, p9, k⟩ ls ⟨h1, h2, h3, h4, hl⟩ ih7
  dsimp only at h1 h2 h3 h4 hl
  subst h3
  refine lv_iload hx hb dX4_isFirst_7 (lv_at hl 4 rfl) ?_
  refine lv_iload_n hx hb dX4_isFirst_9 rfl (lv_at hl 2 rfl) ?_
  refine xn_icmp_eq (tgt := 36) hx hb dX4_isFirst_10 (by decide) (Nat.lt_trans (it_ltn hp hj _) (by omega)) (by omega) (fun c10 => ?_) (fun c10 => ?_)
  · refine lv_iload_n hx hb dX4_isFirst_36 rfl (lv_at hl 3 rfl) ?_
    exact x_zret hx hb hr hlocks rfl (by have hw : w < 2 := (by rw [h4]; exact isf_le _ _ _); rcases (show w = 0 ∨ w = 1 by omega) with e9 | e9 <;> rw [e9] <;> decide) (congrArg nI (by
          rcases Nat.lt_or_ge k (per f n j) with z | z
          · exact absurd c10 (per_min h1 z)
          · rw [h4, show k = per f n j by omega]; exact isf_lst hp hj)) dX4_isFirst_37
  · have hk : k < per f n j := by
      rcases Nat.lt_or_ge k (per f n j) with z | z
      · exact z
      · exact absurd (by rw [show k = per f n j by omega]; exact per_it hp hj) c10
    refine lv_iload_n hx hb dX4_isFirst_13 rfl (lv_at hl 3 rfl) ?_
    refine lv_iload hx hb dX4_isFirst_14 (lv_at hl 4 rfl) ?_
    refine lv_iload_n hx hb dX4_isFirst_16 rfl (lv_at hl 2 rfl) ?_
    refine xn_icmp_le (tgt := 24) hx hb dX4_isFirst_17 (by decide) (Nat.lt_trans (it_ltn hp hj _) (by omega)) (by omega) (fun c17 => ?_) (fun c17 => ?_)
    · refine xn_iconst (v := 0) hx hb dX4_isFirst_24 (by decide) ?_
      refine lv_iand hx hb dX4_isFirst_25 ?_
      refine xz_i (xand01 w (by rw [h4]; exact isf_le _ _ _) 0 (by decide)) ?_
      refine lv_istore_n (lv' := [(3, .int (nI (w * 0))), (0, .ref o), (1, .ref q), (2, .int (nI j)), (4, .int (nI (it f k j)))]) hx hb dX4_isFirst_26 rfl hl (by decide) rfl (fun ls hl => ?_)
      refine lv_aload_n hx hb dX4_isFirst_27 rfl (lv_at hl 2 rfl) ?_
      refine lv_iload hx hb dX4_isFirst_28 (lv_at hl 4 rfl) ?_
      refine x_iald hx hb hK hR (it_ltn hp hj _) (by omega) dX4_isFirst_30 ?_
      refine lv_istore (lv' := [(4, .int (nI (f (it f k j)))), (3, .int (nI (w * 0))), (0, .ref o), (1, .ref q), (2, .int (nI j))]) hx hb dX4_isFirst_31 hl (by decide) rfl (fun ls hl => ?_)
      refine lv_goto (tgt := 7) hx hb dX4_isFirst_33 (by decide) ?_
      exact ih7 (w * 0, f (it f k j), k + 1) ls ⟨(by dsimp only; omega), (by dsimp only; omega), (by dsimp only; rfl), (by dsimp only; rw [Nat.add_sub_cancel]; exact (by obtain ⟨k, rfl⟩ : ∃ z, k = z + 1 := ⟨k - 1, by omega⟩; rw [Nat.add_sub_cancel] at h4; show w * 0 = isf f j k * (if j < it f (k + 1) j then 1 else 0); rw [if_neg (by omega), h4])), lv_sub hl [2, 3, 4, 1, 0] rfl⟩ (by dsimp only; omega)
    · refine xn_iconst (v := 1) hx hb dX4_isFirst_20 (by decide) ?_
      refine lv_goto (tgt := 25) hx hb dX4_isFirst_21 (by decide) ?_
      refine lv_iand hx hb dX4_isFirst_25 ?_
      refine xz_i (xand01 w (by rw [h4]; exact isf_le _ _ _) 1 (by decide)) ?_
      refine lv_istore_n (lv' := [(3, .int (nI (w * 1))), (0, .ref o), (1, .ref q), (2, .int (nI j)), (4, .int (nI (it f k j)))]) hx hb dX4_isFirst_26 rfl hl (by decide) rfl (fun ls hl => ?_)
      refine lv_aload_n hx hb dX4_isFirst_27 rfl (lv_at hl 2 rfl) ?_
      refine lv_iload hx hb dX4_isFirst_28 (lv_at hl 4 rfl) ?_
      refine x_iald hx hb hK hR (it_ltn hp hj _) (by omega) dX4_isFirst_30 ?_
      refine lv_istore (lv' := [(4, .int (nI (f (it f k j)))), (3, .int (nI (w * 1))), (0, .ref o), (1, .ref q), (2, .int (nI j))]) hx hb dX4_isFirst_31 hl (by decide) rfl (fun ls hl => ?_)
      refine lv_goto (tgt := 7) hx hb dX4_isFirst_33 (by decide) ?_
      exact ih7 (w * 1, f (it f k j), k + 1) ls ⟨(by dsimp only; omega), (by dsimp only; omega), (by dsimp only; rfl), (by dsimp only; rw [Nat.add_sub_cancel]; exact (by obtain ⟨k, rfl⟩ : ∃ z, k = z + 1 := ⟨k - 1, by omega⟩; rw [Nat.add_sub_cancel] at h4; show w * 1 = isf f j k * (if j < it f (k + 1) j then 1 else 0); rw [if_pos (by omega), h4])), lv_sub hl [2, 3, 4, 1, 0] rfl⟩ (by dsimp only; omega)

set_option maxRecDepth 100000 in
set_option maxHeartbeats 4000000 in
theorem cX4_divisork_ (l : Launch) (D : va_G) (cI cC : ClassId) : ∀ (k u v : Nat), v ≤ k → u < 2 ^ 31 → v < 2 ^ 31 → Met l yX4_divisor wsX4_divisor (xRm k 0 0) (va_Pc [.int (nI u), .int (nI v)] (xB D cI cC (fun _ => True))) (vp_Si (fun x => x = nI (Nat.gcd v u))) 0 0 (fun _ => False) := by
  intro k
  induction k with
  | zero =>
    intro u v hk0 hu hv
    refine Met.ofW (cc := cX4_divisor) (maxL := 2) (ret := (some .int)) (by decide) rfl ?_
    intro p e s m args below meth c s₁ B hml hv
    obtain ⟨rfl, hP, hK⟩ := hv
    have hx := B.exec
    have hb := B.bytes
    have hr := B.returns
    have hts := atoms_spec (ws := wsX4_divisor) B.pre
    have hown : s.vm.findClass RX4 = some m.cls := findClass_of_methodNamed B.named
    have hlocks := B.notSynchronized
    have hl := lv_entry ([.int (nI u), .int (nI v)]) (n := 2) (Nat.le_of_ble_eq_true rfl)
    rw [lg_entry_eq]
    generalize (lg_sl ([.int (nI u), .int (nI v)]) ++ List.replicate (2 - (lg_sl ([.int (nI u), .int (nI v)])).length) Slot.unset).toArray = ls at hl ⊢
    have hl : lv_has ls 2 [(0, .int (nI u)), (1, .int (nI v))] := hl
    refine lv_iload_n hx hb dX4_divisor_0 rfl (lv_at hl 1 rfl) ?_
    refine xn_if_ne (tgt := 8) hx hb dX4_divisor_1 (by decide) (by omega) (fun c1 => ?_) (fun c1 => ?_)
    · exact absurd c1 (by omega)
    · refine lv_iload_n hx hb dX4_divisor_4 rfl (lv_at hl 0 rfl) ?_
      refine lv_goto (tgt := 15) hx hb dX4_divisor_5 (by decide) ?_
      exact x_iret hx hb hr hlocks rfl (congrArg nI (by rw [c1, Nat.gcd_zero_left])) dX4_divisor_15
  | succ k ih =>
    intro u v hk0 hu hv
    refine Met.ofW (cc := cX4_divisor) (maxL := 2) (ret := (some .int)) (by decide) rfl ?_
    intro p e s m args below meth c s₁ B hml hv
    obtain ⟨rfl, hP, hK⟩ := hv
    have hx := B.exec
    have hb := B.bytes
    have hr := B.returns
    have hts := atoms_spec (ws := wsX4_divisor) B.pre
    have hown : s.vm.findClass RX4 = some m.cls := findClass_of_methodNamed B.named
    have hlocks := B.notSynchronized
    have hl := lv_entry ([.int (nI u), .int (nI v)]) (n := 2) (Nat.le_of_ble_eq_true rfl)
    rw [lg_entry_eq]
    generalize (lg_sl ([.int (nI u), .int (nI v)]) ++ List.replicate (2 - (lg_sl ([.int (nI u), .int (nI v)])).length) Slot.unset).toArray = ls at hl ⊢
    have hl : lv_has ls 2 [(0, .int (nI u)), (1, .int (nI v))] := hl
    refine lv_iload_n hx hb dX4_divisor_0 rfl (lv_at hl 1 rfl) ?_
    refine xn_if_ne (tgt := 8) hx hb dX4_divisor_1 (by decide) (by omega) (fun c1 => ?_) (fun c1 => ?_)
    · refine lv_iload_n hx hb dX4_divisor_8 rfl (lv_at hl 1 rfl) ?_
      refine lv_iload_n hx hb dX4_divisor_9 rfl (lv_at hl 0 rfl) ?_
      refine lv_iload_n hx hb dX4_divisor_10 rfl (lv_at hl 1 rfl) ?_
      refine xn_irem hx hb (by omega) (by omega) (by omega) dX4_divisor_11 ?_
      refine xcS (As := [.int (nI v), .int (nI (u % v))]) (rest := []) ⟨hx, hb, hml, hown, hts⟩ (ih v (u % v) (by have := Nat.mod_lt u c1; omega) (by omega) (by have := Nat.mod_lt u c1; omega)) (cwS 2 hts gX4_divisor_X4_divisor rfl rfl rfl (by decide +kernel) ⟨Nat.le_refl _, by show 8 + (2 + 11) + 40 * k ≤ 40 * (k + 1); omega⟩) hK trivial rfl hl.1 rfl (Nat.le_of_ble_eq_true rfl) dX4_divisor_12 ⟨Nat.zero_le _, Nat.zero_le _⟩ (fun x12 e12 => ?_)
      subst e12
      exact x_iret hx hb hr hlocks rfl (congrArg nI (Nat.gcd_rec v u).symm) dX4_divisor_15
    · refine lv_iload_n hx hb dX4_divisor_4 rfl (lv_at hl 0 rfl) ?_
      refine lv_goto (tgt := 15) hx hb dX4_divisor_5 (by decide) ?_
      exact x_iret hx hb hr hlocks rfl (congrArg nI (by rw [c1, Nat.gcd_zero_left])) dX4_divisor_15

theorem cX4_divisor_ (l : Launch) (D : va_G) (cI cC : ClassId) (u v : Nat) (hu : u < 841) (hv : v < 9) : Met l yX4_divisor wsX4_divisor (xRm 8 0 0) (va_Pc [.int (nI u), .int (nI v)] (xB D cI cC (fun _ => True))) (vp_Si (fun x => x = nI (Nat.gcd v u))) 0 0 (fun _ => False) := cX4_divisork_ l D cI cC 8 u v (by omega) (by omega) (by omega)

set_option maxRecDepth 100000 in
set_option maxHeartbeats 4000000 in
theorem cX4_order_ (l : Launch) (D : va_G) (cI cC : ClassId) (o bk kp t n ch st rg : Nat) (bf kf : Nat → Nat) (q : Nat) (f : Nat → Nat) (hn : n ≤ 8) (hp : Prm n f) : Met l yX4_order wsX4_order (xRm 9 0 0) (va_Pc [.ref o, .ref q] (xB D cI cC (fun H => xMo D cI o bk kp t n ch st rg bf kf H ∧ xRow D cI q n f H))) (vp_Si (fun x => x = nI (ord f n n))) 0 0 (fun _ => False) := by
  refine Met.ofW (cc := cX4_order) (maxL := 4) (ret := (some .int)) (by decide) rfl ?_
  intro p e s m args below meth c s₁ B hml hv
  obtain ⟨rfl, hP, hK⟩ := hv
  have hx := B.exec
  have hb := B.bytes
  have hr := B.returns
  have hts := atoms_spec (ws := wsX4_order) B.pre
  have hown : s.vm.findClass RX4 = some m.cls := findClass_of_methodNamed B.named
  have hlocks := B.notSynchronized
  obtain ⟨hM, hR⟩ := hP
  have hl := lv_entry ([.ref o, .ref q]) (n := 4) (Nat.le_of_ble_eq_true rfl)
  rw [lg_entry_eq]
  generalize (lg_sl ([.ref o, .ref q]) ++ List.replicate (4 - (lg_sl ([.ref o, .ref q])).length) Slot.unset).toArray = ls at hl ⊢
  have hl : lv_has ls 4 [(0, .ref o), (1, .ref q)] := hl
  refine xn_iconst (v := 1) hx hb dX4_order_0 (by decide) ?_
  refine lv_istore_n (lv' := [(2, .int (nI 1)), (0, .ref o), (1, .ref q)]) hx hb dX4_order_1 rfl hl (by decide) rfl (fun ls hl => ?_)
  refine xn_iconst (v := 0) hx hb dX4_order_2 (by decide) ?_
  refine lv_istore_n (lv' := [(3, .int (nI 0)), (2, .int (nI 1)), (0, .ref o), (1, .ref q)]) hx hb dX4_order_3 rfl hl (by decide) rfl (fun ls hl => ?_)
  refine x_loop (σ := Nat × Nat) (fun a => n - a.2) (fun a ls => (a.2 ≤ n) ∧ (a.1 = ord f n a.2) ∧ lv_has ls 4 [(0, .ref o), (1, .ref q), (2, .int (nI a.1)), (3, .int (nI a.2))]) ?_ (1, 0) ls ⟨(Nat.zero_le _), rfl, lv_sub hl [2, 3, 1, 0] rfl⟩
  rintro ⟨L, i⟩ ls ⟨h2, h3, hl⟩ ih4
  dsimp only at h2 h3 hl
  have hL := ord_ok (a := f) hn i h2
  rw [← h3] at hL
  refine lv_iload_n hx hb dX4_order_4 rfl (lv_at hl 3 rfl) ?_
  refine lv_aload_n hx hb dX4_order_5 rfl (lv_at hl 0 rfl) ?_
  refine x_get (v := .int (nI n)) (C := RX4) (T := TX4) (N := 7) hx hb hts (by decide +kernel) hown hK hM.1 rfl 1 (by decide) (hts (.fieldLink RX4 7 "BellRanksModel" "bells" "I") (by decide +kernel)) (fun _ h9 => h9) rfl dX4_order_6 ?_
  refine xn_icmp_ge (tgt := 38) hx hb dX4_order_9 (by decide) (by omega) (by omega) (fun c9 => ?_) (fun c9 => ?_)
  · refine lv_iload_n hx hb dX4_order_38 rfl (lv_at hl 2 rfl) ?_
    exact x_iret hx hb hr hlocks rfl (by rw [h3, show i = n by omega]) dX4_order_39
  · have hp8 := per_le (f := f) c9 i
    obtain ⟨hlm, -, -, -, -, -, hg1, hg2⟩ := lmu_tab L hL.2.1 (per f n i) (by omega) hL.1 (per_1 _ _ _) hL.2.2
    refine lv_iload_n hx hb dX4_order_12 rfl (lv_at hl 2 rfl) ?_
    refine lv_iload_n hx hb dX4_order_13 rfl (lv_at hl 2 rfl) ?_
    refine lv_aload_n hx hb dX4_order_14 rfl (lv_at hl 0 rfl) ?_
    refine lv_aload_n hx hb dX4_order_15 rfl (lv_at hl 1 rfl) ?_
    refine lv_iload_n hx hb dX4_order_16 rfl (lv_at hl 3 rfl) ?_
    refine xcV (As := [.ref q, .int (nI i)]) (rest := [.int (nI L), .int (nI L)]) ⟨hx, hb, hml, hown, hts⟩ (cX4_ringOf_ l D cI cC o bk kp t n ch st rg bf kf q f hn hp i (by omega)) (cwV 2 hts gX4_order_X4_ringOf rfl rfl rfl (by decide +kernel) ⟨Nat.le_of_ble_eq_true rfl, Nat.le_of_ble_eq_true rfl⟩) hK ⟨hM, hR⟩ (xRecv hK rfl hM.1) rfl hl.1 rfl (Nat.le_of_ble_eq_true rfl) dX4_order_17 ⟨Nat.zero_le _, Nat.zero_le _⟩ (fun x17 e17 => ?_)
    subst e17
    refine xcS (As := [.int (nI L), .int (nI (per f n i))]) (rest := [.int (nI L)]) ⟨hx, hb, hml, hown, hts⟩ (cX4_divisor_ l D cI cC L (per f n i) (by omega) (by omega)) (va_cwS 2 hts gX4_order_X4_divisor rfl rfl rfl (by decide +kernel) ⟨Nat.le_of_ble_eq_true rfl, Nat.le_of_ble_eq_true rfl⟩) hK trivial rfl hl.1 rfl (Nat.le_of_ble_eq_true rfl) dX4_order_20 ⟨Nat.zero_le _, Nat.zero_le _⟩ (fun x20 e20 => ?_)
    subst e20
    refine xn_idiv hx hb (by omega) hg1 (by omega) dX4_order_23 ?_
    refine lv_aload_n hx hb dX4_order_24 rfl (lv_at hl 0 rfl) ?_
    refine lv_aload_n hx hb dX4_order_25 rfl (lv_at hl 1 rfl) ?_
    refine lv_iload_n hx hb dX4_order_26 rfl (lv_at hl 3 rfl) ?_
    refine xcV (As := [.ref q, .int (nI i)]) (rest := [.int (nI (L / (Nat.gcd (per f n i) L)))]) ⟨hx, hb, hml, hown, hts⟩ (cX4_ringOf_ l D cI cC o bk kp t n ch st rg bf kf q f hn hp i (by omega)) (cwV 2 hts gX4_order_X4_ringOf rfl rfl rfl (by decide +kernel) ⟨Nat.le_of_ble_eq_true rfl, Nat.le_of_ble_eq_true rfl⟩) hK ⟨hM, hR⟩ (xRecv hK rfl hM.1) rfl hl.1 rfl (Nat.le_of_ble_eq_true rfl) dX4_order_27 ⟨Nat.zero_le _, Nat.zero_le _⟩ (fun x27 e27 => ?_)
    subst e27
    refine xn_imul hx hb dX4_order_30 ?_
    refine lv_istore_n (lv' := [(2, .int (nI ((L / (Nat.gcd (per f n i) L)) * (per f n i)))), (0, .ref o), (1, .ref q), (3, .int (nI i))]) hx hb dX4_order_31 rfl hl (by decide) rfl (fun ls hl => ?_)
    refine xn_iinc (v := i + 1) (lv' := [(3, .int (nI (i + 1))), (2, .int (nI ((L / (Nat.gcd (per f n i) L)) * (per f n i)))), (0, .ref o), (1, .ref q)]) hx hb dX4_order_32 hl (k := 3) rfl (xinc1 _) (by decide) rfl (fun ls hl => ?_)
    refine lv_goto (tgt := 4) hx hb dX4_order_35 (by decide) ?_
    exact ih4 ((L / (Nat.gcd (per f n i) L)) * (per f n i), i + 1) ls ⟨(by dsimp only; omega), (by dsimp only; rw [← hlm, h3]; rfl), lv_sub hl [2, 3, 1, 0] rfl⟩ (by dsimp only; omega)

set_option maxRecDepth 100000 in
set_option maxHeartbeats 4000000 in
theorem cX4_bellAt_ (l : Launch) (D : va_G) (cI cC : ClassId) (w k x9 : Nat) (hw : w < 256) (hx9 : x9 < 8) (h1 : bitN w x9 = 1) (hk : sm (bitN w) x9 = k) (hk8 : k < 100) : Met l yX4_bellAt wsX4_bellAt (xRm 0 0 0) (va_Pc [.int (nI w), .int (nI k)] (xB D cI cC (fun _ => True))) (vp_Si (fun x => x = nI x9)) 0 0 (fun _ => False) := by
  refine Met.ofW (cc := cX4_bellAt) (maxL := 4) (ret := (some .int)) (by decide) rfl ?_
  intro p e s m args below meth c s₁ B hml hv
  obtain ⟨rfl, hP, hK⟩ := hv
  have hx := B.exec
  have hb := B.bytes
  have hr := B.returns
  have hts := atoms_spec (ws := wsX4_bellAt) B.pre
  have hown : s.vm.findClass RX4 = some m.cls := findClass_of_methodNamed B.named
  have hlocks := B.notSynchronized
  have hl := lv_entry ([.int (nI w), .int (nI k)]) (n := 4) (Nat.le_of_ble_eq_true rfl)
  rw [lg_entry_eq]
  generalize (lg_sl ([.int (nI w), .int (nI k)]) ++ List.replicate (4 - (lg_sl ([.int (nI w), .int (nI k)])).length) Slot.unset).toArray = ls at hl ⊢
  have hl : lv_has ls 4 [(0, .int (nI w)), (1, .int (nI k))] := hl
  refine xn_iconst (v := 0) hx hb dX4_bellAt_0 (by decide) ?_
  refine lv_istore_n (lv' := [(2, .int (nI 0)), (0, .int (nI w)), (1, .int (nI k))]) hx hb dX4_bellAt_1 rfl hl (by decide) rfl (fun ls hl => ?_)
  refine lv_iload_n hx hb dX4_bellAt_2 rfl (lv_at hl 2 rfl) ?_
  refine lv_istore_n (lv' := [(3, .int (nI k)), (2, .int (nI 0)), (0, .int (nI w)), (1, .int (nI k))]) hx hb dX4_bellAt_3 rfl hl (by decide) rfl (fun ls hl => ?_)
  refine x_loop (σ := Nat × Nat) (fun a => x9 - a.1) (fun a ls => (a.1 ≤ x9) ∧ (a.2 + sm (bitN w) a.1 = k) ∧ lv_has ls 4 [(0, .int (nI w)), (1, .int (nI k)), (2, .int (nI a.1)), (3, .int (nI a.2))]) ?_ (0, k) ls ⟨(Nat.zero_le _), rfl, lv_sub hl [2, 3, 1, 0] rfl⟩
  rintro ⟨i, L⟩ ls ⟨h1, h3, hl⟩ ih4
  dsimp only at h1 h3 hl
  have hb9 := bitN_lt w i
  refine lv_iload_n hx hb dX4_bellAt_4 rfl (lv_at hl 3 rfl) ?_
  refine xn_if_gt (tgt := 16) hx hb dX4_bellAt_5 (by decide) (by omega) (fun c5 => ?_) (fun c5 => ?_)
  · have hi : i < x9 := by
      rcases Nat.lt_or_ge i x9 with z | z
      · exact z
      · have e9 : i = x9 := by omega
        subst e9
        omega
    refine lv_iload_n hx hb dX4_bellAt_16 rfl (lv_at hl 3 rfl) ?_
    refine lv_iload_n hx hb dX4_bellAt_17 rfl (lv_at hl 0 rfl) ?_
    refine lv_iload_n hx hb dX4_bellAt_18 rfl (lv_at hl 2 rfl) ?_
    refine lv_ishr hx hb dX4_bellAt_19 ?_
    refine xz_i (xshr (by omega) (by omega)) ?_
    refine xn_iconst (v := 1) hx hb dX4_bellAt_20 (by decide) ?_
    refine lv_iand hx hb dX4_bellAt_21 ?_
    refine xz_i (y := nI (bitN w i)) (xand1 (Nat.lt_of_le_of_lt (Nat.div_le_self _ _) (by omega))) ?_
    refine xn_isub hx hb (by omega) dX4_bellAt_22 ?_
    refine lv_istore_n (lv' := [(3, .int (nI (L - (bitN w i)))), (0, .int (nI w)), (1, .int (nI k)), (2, .int (nI i))]) hx hb dX4_bellAt_23 rfl hl (by decide) rfl (fun ls hl => ?_)
    refine xn_iinc (v := i + 1) (lv' := [(2, .int (nI (i + 1))), (3, .int (nI (L - (bitN w i)))), (0, .int (nI w)), (1, .int (nI k))]) hx hb dX4_bellAt_24 hl (k := 3) rfl (xinc1 _) (by decide) rfl (fun ls hl => ?_)
    refine lv_goto (tgt := 4) hx hb dX4_bellAt_27 (by decide) ?_
    exact ih4 (i + 1, L - (bitN w i)) ls ⟨(by dsimp only; omega), (by dsimp only; rw [sm_succ]; have := bitN_lt w i; omega), lv_sub hl [2, 3, 0, 1] rfl⟩ (by dsimp only; omega)
  · refine lv_iload_n hx hb dX4_bellAt_8 rfl (lv_at hl 0 rfl) ?_
    refine lv_iload_n hx hb dX4_bellAt_9 rfl (lv_at hl 2 rfl) ?_
    refine lv_ishr hx hb dX4_bellAt_10 ?_
    refine xz_i (xshr (by omega) (by omega)) ?_
    refine xn_iconst (v := 1) hx hb dX4_bellAt_11 (by decide) ?_
    refine lv_iand hx hb dX4_bellAt_12 ?_
    refine xz_i (y := nI (bitN w i)) (xand1 (Nat.lt_of_le_of_lt (Nat.div_le_self _ _) (by omega))) ?_
    refine xn_if_ne (tgt := 30) hx hb dX4_bellAt_13 (by decide) (Nat.lt_trans hb9 (by decide)) (fun c13 => ?_) (fun c13 => ?_)
    · refine lv_iload_n hx hb dX4_bellAt_30 rfl (lv_at hl 2 rfl) ?_
      exact x_iret hx hb hr hlocks rfl (congrArg nI (by
            rcases Nat.lt_or_ge i x9 with z | z
            · have h8 : sm (bitN w) (i + 1) ≤ sm (bitN w) x9 := by
                rw [show x9 = (i + 1) + (x9 - (i + 1)) by omega, sm_add (bitN w) (i + 1)]; omega
              rw [sm_succ] at h8
              have h9 : 0 < bitN w i := c13
              omega
            · omega)) dX4_bellAt_31
    · have hi : i < x9 := by
        rcases Nat.lt_or_ge i x9 with z | z
        · exact z
        · have e9 : i = x9 := by omega
          subst e9
          omega
      refine lv_iload_n hx hb dX4_bellAt_16 rfl (lv_at hl 3 rfl) ?_
      refine lv_iload_n hx hb dX4_bellAt_17 rfl (lv_at hl 0 rfl) ?_
      refine lv_iload_n hx hb dX4_bellAt_18 rfl (lv_at hl 2 rfl) ?_
      refine lv_ishr hx hb dX4_bellAt_19 ?_
      refine xz_i (xshr (by omega) (by omega)) ?_
      refine xn_iconst (v := 1) hx hb dX4_bellAt_20 (by decide) ?_
      refine lv_iand hx hb dX4_bellAt_21 ?_
      refine xz_i (y := nI (bitN w i)) (xand1 (Nat.lt_of_le_of_lt (Nat.div_le_self _ _) (by omega))) ?_
      refine xn_isub hx hb (by omega) dX4_bellAt_22 ?_
      refine lv_istore_n (lv' := [(3, .int (nI (L - (bitN w i)))), (0, .int (nI w)), (1, .int (nI k)), (2, .int (nI i))]) hx hb dX4_bellAt_23 rfl hl (by decide) rfl (fun ls hl => ?_)
      refine xn_iinc (v := i + 1) (lv' := [(2, .int (nI (i + 1))), (3, .int (nI (L - (bitN w i)))), (0, .int (nI w)), (1, .int (nI k))]) hx hb dX4_bellAt_24 hl (k := 3) rfl (xinc1 _) (by decide) rfl (fun ls hl => ?_)
      refine lv_goto (tgt := 4) hx hb dX4_bellAt_27 (by decide) ?_
      exact ih4 (i + 1, L - (bitN w i)) ls ⟨(by dsimp only; omega), (by dsimp only; rw [sm_succ]; have := bitN_lt w i; omega), lv_sub hl [2, 3, 0, 1] rfl⟩ (by dsimp only; omega)

