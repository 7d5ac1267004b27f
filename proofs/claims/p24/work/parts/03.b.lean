/-! BellRanks$Change: the methods that write; Method.keeps -/
def rpF (g : Nat → Nat) (n t : Nat) : Nat → Nat := fun q => it g (t % per g n q) q
theorem xsh31 : ∀ i, i < 32 → ((nI i &&& 31).toBitVec.smod 32).toNat = i := by decide
theorem xshr {k i : Nat} (hk : k < 2 ^ 31) (hi : i < 32) : nI k >>> (nI i &&& 31) = nI (k / 2 ^ i) := pk_shrN hk _ i (xsh31 i hi)
theorem xshl {k i : Nat} (h : k * 2 ^ i < 2 ^ 32) (hi : i < 32) : nI k <<< (nI i &&& 31) = nI (k * 2 ^ i) := pk_shlN _ i (xsh31 i hi) h
theorem xand1 {k : Nat} (hk : k < 2 ^ 31) : nI k &&& nI 1 = nI (k % 2) := pk_andN (Nat.lt_trans hk (by decide)) 1 rfl
set_option maxRecDepth 100000 in
set_option maxHeartbeats 4000000 in
theorem cX0_put_ (l : Launch) (D : va_G) (cI cC : ClassId) (o r n : Nat) (f : Nat → Nat) (hor : o ≠ r) (j v : Nat) (hj : j < 8) : Met l yX0_put wsX0_put (xRm 0 0 0) (va_Pc [.ref o, .int (nI j), .int (nI v)] (xB D cI cC (xCh D cI o r n f))) (xV (fun _ : Unit => True) (fun _ => xCh D cI o r n (va_up f j v)) (fun q => q = r)) 0 0 (fun q => q = r) := by
  refine Met.ofW (cc := cX0_put) (maxL := 3) (ret := none) (by decide) rfl ?_
  intro p e s m args below meth c s₁ B hml hv
  obtain ⟨rfl, hP, hK⟩ := hv
  have hx := B.exec
  have hb := B.bytes
  have hr := B.returns
  have hts := atoms_spec (ws := wsX0_put) B.pre
  have hown : s.vm.findClass RX0 = some m.cls := findClass_of_methodNamed B.named
  have hlocks := B.notSynchronized
  have hC := hP
  have hl := lv_entry ([.ref o, .int (nI j), .int (nI v)]) (n := 3) (Nat.le_of_ble_eq_true rfl)
  rw [lg_entry_eq]
  generalize (lg_sl ([.ref o, .int (nI j), .int (nI v)]) ++ List.replicate (3 - (lg_sl ([.ref o, .int (nI j), .int (nI v)])).length) Slot.unset).toArray = ls at hl ⊢
  have hl : lv_has ls 3 [(0, .ref o), (1, .int (nI j)), (2, .int (nI v))] := hl
  have hS : va_S (fun q => q = r) s.heap s.heap [] := va_S.rf
  refine lv_iload_n hx hb dX0_put_0 rfl (lv_at hl 1 rfl) ?_
  refine xn_if_lt (tgt := 20) hx hb dX0_put_1 (by decide) (by omega) ?_
  refine lv_iload_n hx hb dX0_put_4 rfl (lv_at hl 1 rfl) ?_
  refine lv_aload_n hx hb dX0_put_5 rfl (lv_at hl 0 rfl) ?_
  refine x_get (v := .ref r) (C := RX0) (T := TX0) (N := 2) hx hb hts (by decide +kernel) hown hK hC.1 rfl 0 (by decide) (hts (.fieldLink RX0 9 "BellRanks$Change" "row" "[I") (by decide +kernel)) (fun _ h9 => h9) rfl dX0_put_6 ?_
  refine x_alen hx hb hK hC.2 dX0_put_9 ?_
  refine xn_icmp_ge (tgt := 20) hx hb dX0_put_10 (by decide) (by omega) (by decide) (fun c10 => ?_) (fun c10 => ?_)
  · exact absurd c10 (by omega)
  · refine lv_aload_n hx hb dX0_put_13 rfl (lv_at hl 0 rfl) ?_
    refine x_get (v := .ref r) (C := RX0) (T := TX0) (N := 2) hx hb hts (by decide +kernel) hown hK hC.1 rfl 0 (by decide) (hts (.fieldLink RX0 9 "BellRanks$Change" "row" "[I") (by decide +kernel)) (fun _ h9 => h9) rfl dX0_put_14 ?_
    refine lv_iload_n hx hb dX0_put_17 rfl (lv_at hl 1 rfl) ?_
    refine lv_iload_n hx hb dX0_put_18 rfl (lv_at hl 2 rfl) ?_
    refine x_iast hx hb hK hC.2 hS rfl (by omega) (by decide) dX0_put_19 (fun H1 locs1 hN hz oq hS => ?_)
    have hC : xCh D cI o r n (va_up f j v) H1 := ⟨hC.1.kept (oq _ hor), hN⟩
    exact x_vret hx hb hr hlocks () trivial hC hS (fun _ h => h) dX0_put_20

set_option maxRecDepth 100000 in
set_option maxHeartbeats 4000000 in
theorem cX0_insertAhead_ (l : Launch) (D : va_G) (cI cC : ClassId) (o r n : Nat) (f : Nat → Nat) (hor : o ≠ r) (hn : n ≤ 8) (hf : ∀ i, f i < 100) (j v : Nat) (hj : j < n) (hv : v < 100) : Met l yX0_insertAhead wsX0_insertAhead (xRm 1 0 0) (va_Pc [.ref o, .int (nI j), .int (nI v)] (xB D cI cC (xCh D cI o r n f))) (xV (fun _ : Unit => True) (fun _ => xCh D cI o r n (insA f n j v)) (fun q => q = r)) 0 0 (fun q => q = r) := by
  refine Met.ofW (cc := cX0_insertAhead) (maxL := 4) (ret := none) (by decide) rfl ?_
  intro p e s m args below meth c s₁ B hml hv
  obtain ⟨rfl, hP, hK⟩ := hv
  have hx := B.exec
  have hb := B.bytes
  have hr := B.returns
  have hts := atoms_spec (ws := wsX0_insertAhead) B.pre
  have hown : s.vm.findClass RX0 = some m.cls := findClass_of_methodNamed B.named
  have hlocks := B.notSynchronized
  have hC := hP
  have hl := lv_entry ([.ref o, .int (nI j), .int (nI v)]) (n := 4) (Nat.le_of_ble_eq_true rfl)
  rw [lg_entry_eq]
  generalize (lg_sl ([.ref o, .int (nI j), .int (nI v)]) ++ List.replicate (4 - (lg_sl ([.ref o, .int (nI j), .int (nI v)])).length) Slot.unset).toArray = ls at hl ⊢
  have hl : lv_has ls 4 [(0, .ref o), (1, .int (nI j)), (2, .int (nI v))] := hl
  have hS : va_S (fun q => q = r) s.heap s.heap [] := va_S.rf
  refine lv_aload_n hx hb dX0_insertAhead_0 rfl (lv_at hl 0 rfl) ?_
  refine lv_iload_n hx hb dX0_insertAhead_1 rfl (lv_at hl 1 rfl) ?_
  refine lv_iload_n hx hb dX0_insertAhead_2 rfl (lv_at hl 2 rfl) ?_
  refine xmV (As := [.int (nI j), .int (nI v)]) (rest := []) ⟨hx, hb, hml, hown, hts⟩ (cX0_put_ l D cI cC o r n f hor j v (by omega)) (cwV 2 hts gX0_insertAhead_X0_put rfl rfl rfl (by decide +kernel) ⟨Nat.le_of_ble_eq_true rfl, Nat.le_of_ble_eq_true rfl⟩) hK hC (xRecv hK rfl hC.1) rfl hl.1 rfl (Nat.le_of_ble_eq_true rfl) dX0_insertAhead_3 ⟨Nat.zero_le _, Nat.zero_le _⟩ hS (fun _ h => h) (fun _ h => h) (fun u3 H1 locs1 hp3 hF3 hz3 hk3 hS => ?_)
  have hC : xCh D cI o r n (va_up f j v) H1 := hF3
  refine lv_iload_n hx hb dX0_insertAhead_6 rfl (lv_at hl 1 rfl) ?_
  refine xn_iconst (v := 1) hx hb dX0_insertAhead_7 (by decide) ?_
  refine xn_iadd hx hb dX0_insertAhead_8 ?_
  refine lv_istore_n (lv' := [(3, .int (nI (j + 1))), (0, .ref o), (1, .int (nI j)), (2, .int (nI v))]) hx hb dX0_insertAhead_9 rfl hl (by decide) rfl (fun ls hl => ?_)
  refine x_loopH (σ := Nat) (fun a => n - a) (fun a H locs cells slots ls => (j < a) ∧ (a ≤ n) ∧ (xCh D cI o r n (insA f a j v) H) ∧ (va_S (fun q9 => q9 = r) s.heap H locs) ∧ (cells = 0) ∧ (slots = 0) ∧ lv_has ls 4 [(0, .ref o), (1, .int (nI j)), (2, .int (nI v)), (3, .int (nI a))]) ?_ (j + 1) _ _ _ _ ls ⟨(by omega), (by omega), (by rw [← insA_0]; exact hC), hS, rfl, rfl, lv_sub hl [1, 2, 3, 0] rfl⟩
  rintro i H locs cells slots ls ⟨h1, h2, hC, hS, rfl, rfl, hl⟩ ih10
  
  refine lv_iload_n hx hb dX0_insertAhead_10 rfl (lv_at hl 3 rfl) ?_
  refine lv_aload_n hx hb dX0_insertAhead_11 rfl (lv_at hl 0 rfl) ?_
  refine x_get (v := .int (nI n)) (C := RX0) (T := TX0) (N := 2) hx hb hts (by decide +kernel) hown hK hC.1 rfl 1 (by decide) (hts (.fieldLink RX0 15 "BellRanks$Change" "size" "I") (by decide +kernel)) (fun _ h9 => h9) rfl dX0_insertAhead_12 ?_
  refine xn_icmp_ge (tgt := 45) hx hb dX0_insertAhead_15 (by decide) (by omega) (by omega) (fun c15 => ?_) (fun c15 => ?_)
  · exact x_vret hx hb hr hlocks () trivial (by have e9 : i = n := (by omega); rw [← e9]; rw [← e9] at hC; exact hC) hS (fun _ h => h) dX0_insertAhead_45
  · refine lv_aload_n hx hb dX0_insertAhead_18 rfl (lv_at hl 0 rfl) ?_
    refine lv_iload_n hx hb dX0_insertAhead_19 rfl (lv_at hl 3 rfl) ?_
    refine xcV (As := [.int (nI i)]) (rest := []) ⟨hx, hb, hml, hown, hts⟩ (cX0_bellAt_ l D cI cC o r n (insA f i j v) i (by omega)) (cwV 1 hts gX0_insertAhead_X0_bellAt rfl rfl rfl (by decide +kernel) ⟨Nat.le_of_ble_eq_true rfl, Nat.le_of_ble_eq_true rfl⟩) hK hC (xRecv hK rfl hC.1) rfl hl.1 rfl (Nat.le_of_ble_eq_true rfl) dX0_insertAhead_20 ⟨Nat.zero_le _, Nat.zero_le _⟩ (fun x20 e20 => ?_)
    subst e20
    refine xz_i (congrArg nI (insA_at h1)) ?_
    refine lv_iload_n hx hb dX0_insertAhead_23 rfl (lv_at hl 2 rfl) ?_
    refine xn_icmp_lt (tgt := 39) hx hb dX0_insertAhead_24 (by decide) (Nat.lt_trans (hf i) (by decide)) (by omega) (fun c24 => ?_) (fun c24 => ?_)
    · refine xn_iinc (v := i + 1) (lv' := [(3, .int (nI (i + 1))), (0, .ref o), (1, .int (nI j)), (2, .int (nI v))]) hx hb dX0_insertAhead_39 hl (k := 3) rfl (xinc1 _) (by decide) rfl (fun ls hl => ?_)
      refine lv_goto (tgt := 10) hx hb dX0_insertAhead_42 (by decide) ?_
      exact ih10 (i + 1) _ _ _ _ ls ⟨(by omega), (by omega), (by rw [← insA_lo c24]; exact hC), hS, rfl, rfl, lv_sub hl [1, 2, 3, 0] rfl⟩ (by omega)
    · refine lv_aload_n hx hb dX0_insertAhead_27 rfl (lv_at hl 0 rfl) ?_
      refine lv_iload_n hx hb dX0_insertAhead_28 rfl (lv_at hl 3 rfl) ?_
      refine lv_aload_n hx hb dX0_insertAhead_29 rfl (lv_at hl 0 rfl) ?_
      refine lv_iload_n hx hb dX0_insertAhead_30 rfl (lv_at hl 3 rfl) ?_
      refine xcV (As := [.int (nI i)]) (rest := [.int (nI i), .ref o]) ⟨hx, hb, hml, hown, hts⟩ (cX0_bellAt_ l D cI cC o r n (insA f i j v) i (by omega)) (cwV 1 hts gX0_insertAhead_X0_bellAt rfl rfl rfl (by decide +kernel) ⟨Nat.le_of_ble_eq_true rfl, Nat.le_of_ble_eq_true rfl⟩) hK hC (xRecv hK rfl hC.1) rfl hl.1 rfl (Nat.le_of_ble_eq_true rfl) dX0_insertAhead_31 ⟨Nat.zero_le _, Nat.zero_le _⟩ (fun x31 e31 => ?_)
      subst e31
      refine xz_i (congrArg nI (insA_at h1)) ?_
      refine xn_iconst (v := 1) hx hb dX0_insertAhead_34 (by decide) ?_
      refine xn_iadd hx hb dX0_insertAhead_35 ?_
      refine xmV (As := [.int (nI i), .int (nI (f i + 1))]) (rest := []) ⟨hx, hb, hml, hown, hts⟩ (cX0_put_ l D cI cC o r n (insA f i j v) hor i (f i + 1) (by omega)) (cwV 2 hts gX0_insertAhead_X0_put rfl rfl rfl (by decide +kernel) ⟨Nat.le_of_ble_eq_true rfl, Nat.le_of_ble_eq_true rfl⟩) hK hC (xRecv hK rfl hC.1) rfl hl.1 rfl (Nat.le_of_ble_eq_true rfl) dX0_insertAhead_36 ⟨Nat.zero_le _, Nat.zero_le _⟩ hS (fun _ h => h) (fun _ h => h) (fun u36 H1 locs1 hp36 hF36 hz36 hk36 hS => ?_)
      have hC : xCh D cI o r n (va_up (insA f i j v) i (f i + 1)) H1 := hF36
      refine xn_iinc (v := i + 1) (lv' := [(3, .int (nI (i + 1))), (0, .ref o), (1, .int (nI j)), (2, .int (nI v))]) hx hb dX0_insertAhead_39 hl (k := 3) rfl (xinc1 _) (by decide) rfl (fun ls hl => ?_)
      refine lv_goto (tgt := 10) hx hb dX0_insertAhead_42 (by decide) ?_
      exact ih10 (i + 1) _ _ _ _ ls ⟨(by omega), (by omega), (by rw [← insA_hi h1 c24]; exact hC), hS, rfl, rfl, lv_sub hl [1, 2, 3, 0] rfl⟩ (by omega)

set_option maxRecDepth 100000 in
set_option maxHeartbeats 4000000 in
theorem cX0_setRank_ (l : Launch) (D : va_G) (cI cC : ClassId) (o r n0 : Nat) (f : Nat → Nat) (hor : o ≠ r) (hf : ∀ i, f i < 8) (n rk : Nat) (hn : n ≤ 8) (hrk : rk < 2 ^ 31) : Met l yX0_setRank wsX0_setRank (xRm 2 0 0) (va_Pc [.ref o, .int (nI n), .int (nI rk)] (xB D cI cC (xCh D cI o r n0 f))) (xV (fun _ : Unit => True) (fun _ => xCh D cI o r n (srG f n rk n)) (fun q => q = o ∨ q = r)) 0 0 (fun q => q = o ∨ q = r) := by
  refine Met.ofW (cc := cX0_setRank) (maxL := 5) (ret := none) (by decide) rfl ?_
  intro p e s m args below meth c s₁ B hml hv
  obtain ⟨rfl, hP, hK⟩ := hv
  have hx := B.exec
  have hb := B.bytes
  have hr := B.returns
  have hts := atoms_spec (ws := wsX0_setRank) B.pre
  have hown : s.vm.findClass RX0 = some m.cls := findClass_of_methodNamed B.named
  have hlocks := B.notSynchronized
  have hC := hP
  have hl := lv_entry ([.ref o, .int (nI n), .int (nI rk)]) (n := 5) (Nat.le_of_ble_eq_true rfl)
  rw [lg_entry_eq]
  generalize (lg_sl ([.ref o, .int (nI n), .int (nI rk)]) ++ List.replicate (5 - (lg_sl ([.ref o, .int (nI n), .int (nI rk)])).length) Slot.unset).toArray = ls at hl ⊢
  have hl : lv_has ls 5 [(0, .ref o), (1, .int (nI n)), (2, .int (nI rk))] := hl
  have hS : va_S (fun q => q = o ∨ q = r) s.heap s.heap [] := va_S.rf
  refine lv_aload_n hx hb dX0_setRank_0 rfl (lv_at hl 0 rfl) ?_
  refine lv_iload_n hx hb dX0_setRank_1 rfl (lv_at hl 1 rfl) ?_
  refine x_put (v := .int (nI n)) (ty := .int) (C := RX0) (T := TX0) (N := 2) hx hb hts (by decide +kernel) tyX0 tyX0_ok nmX0 hown hK hC.1 hS (Or.inl rfl) rfl 1 (by decide) (hts (.fieldLink RX0 15 "BellRanks$Change" "size" "I") (by decide +kernel)) (fun _ h9 => h9) rfl (by decide +kernel) rfl rfl (Nat.le_of_ble_eq_true rfl) dX0_setRank_2 (fun H1 locs1 hN hz oq hS => ?_)
  have hC : xCh D cI o r n f H1 := ⟨hN, hC.2.kept (oq _ (Ne.symm hor))⟩
  refine lv_iload_n hx hb dX0_setRank_5 rfl (lv_at hl 2 rfl) ?_
  refine lv_istore_n (lv' := [(3, .int (nI rk)), (0, .ref o), (1, .int (nI n)), (2, .int (nI rk))]) hx hb dX0_setRank_6 rfl hl (by decide) rfl (fun ls hl => ?_)
  refine xn_iconst (v := 1) hx hb dX0_setRank_7 (by decide) ?_
  refine lv_istore (lv' := [(4, .int (nI 1)), (3, .int (nI rk)), (0, .ref o), (1, .int (nI n)), (2, .int (nI rk))]) hx hb dX0_setRank_8 hl (by decide) rfl (fun ls hl => ?_)
  refine x_loopH (σ := Nat × Nat) (fun a => n + 1 - a.1) (fun a H locs cells slots ls => (1 ≤ a.1) ∧ (a.1 ≤ n + 1) ∧ (a.2 = srR rk (a.1 - 1)) ∧ (xCh D cI o r n (srG f n rk (a.1 - 1)) H) ∧ (va_S (fun q9 => q9 = o ∨ q9 = r) s.heap H locs) ∧ (cells = 0) ∧ (slots = 0) ∧ lv_has ls 5 [(0, .ref o), (1, .int (nI n)), (2, .int (nI rk)), (3, .int (nI a.2)), (4, .int (nI a.1))]) ?_ (1, rk) _ _ _ _ ls ⟨(Nat.le_refl _), (by dsimp only; omega), rfl, hC, hS, rfl, rfl, lv_sub hl [2, 3, 4, 1, 0] rfl⟩
  rintro ⟨w, q⟩ H locs cells slots ls ⟨h1, h2, hq, hC, hS, rfl, rfl, hl⟩ ih10
  dsimp only at h1 h2 hq hC hS hl
  obtain ⟨t, rfl⟩ : ∃ z, w = z + 1 := ⟨w - 1, by omega⟩
  rw [Nat.add_sub_cancel] at hC hq
  have hqb : q < 2 ^ 31 := by rw [hq]; exact Nat.lt_of_le_of_lt (srR_le rk t) hrk
  refine lv_iload hx hb dX0_setRank_10 (lv_at hl 4 rfl) ?_
  refine lv_iload_n hx hb dX0_setRank_12 rfl (lv_at hl 1 rfl) ?_
  refine xn_icmp_gt (tgt := 39) hx hb dX0_setRank_13 (by decide) (by omega) (by omega) (fun c13 => ?_) (fun c13 => ?_)
  · exact x_vret hx hb hr hlocks () trivial (by have e9 : t = n := (by omega); rw [← e9]; rw [← e9] at hC; exact hC) hS (fun _ h => h) dX0_setRank_39
  · refine lv_aload_n hx hb dX0_setRank_16 rfl (lv_at hl 0 rfl) ?_
    refine lv_iload_n hx hb dX0_setRank_17 rfl (lv_at hl 1 rfl) ?_
    refine lv_iload hx hb dX0_setRank_18 (lv_at hl 4 rfl) ?_
    refine xn_isub hx hb (by omega) dX0_setRank_20 ?_
    refine lv_iload_n hx hb dX0_setRank_21 rfl (lv_at hl 3 rfl) ?_
    refine lv_iload hx hb dX0_setRank_22 (lv_at hl 4 rfl) ?_
    refine xn_irem hx hb (by omega) (by omega) (by omega) dX0_setRank_24 ?_
    refine xmV (As := [.int (nI (n - (t + 1))), .int (nI (q % (t + 1)))]) (rest := []) ⟨hx, hb, hml, hown, hts⟩ (cX0_insertAhead_ l D cI cC o r n (srG f n rk t) hor hn (fun i => Nat.lt_trans (srG_bd hf (Nat.le_refl 8) t (by omega) i) (by omega)) (n - (t + 1)) (q % (t + 1)) (by omega) (Nat.lt_trans (Nat.mod_lt _ (by omega)) (by omega))) (cwV 2 hts gX0_setRank_X0_insertAhead rfl rfl rfl (by decide +kernel) ⟨Nat.le_of_ble_eq_true rfl, Nat.le_of_ble_eq_true rfl⟩) hK hC (xRecv hK rfl hC.1) rfl hl.1 rfl (Nat.le_of_ble_eq_true rfl) dX0_setRank_25 ⟨Nat.zero_le _, Nat.zero_le _⟩ hS (fun _ h => Or.inr h) (fun _ h => Or.inr h) (fun u25 H1 locs1 hp25 hF25 hz25 hk25 hS => ?_)
    have hC : xCh D cI o r n (insA (srG f n rk t) n (n - (t + 1)) (q % (t + 1))) H1 := hF25
    refine lv_iload_n hx hb dX0_setRank_28 rfl (lv_at hl 3 rfl) ?_
    refine lv_iload hx hb dX0_setRank_29 (lv_at hl 4 rfl) ?_
    refine xn_idiv hx hb (by omega) (by omega) (by omega) dX0_setRank_31 ?_
    refine lv_istore_n (lv' := [(3, .int (nI (q / (t + 1)))), (0, .ref o), (1, .int (nI n)), (2, .int (nI rk)), (4, .int (nI (t + 1)))]) hx hb dX0_setRank_32 rfl hl (by decide) rfl (fun ls hl => ?_)
    refine xn_iinc (v := t + 1 + 1) (lv' := [(4, .int (nI (t + 1 + 1))), (3, .int (nI (q / (t + 1)))), (0, .ref o), (1, .int (nI n)), (2, .int (nI rk))]) hx hb dX0_setRank_33 hl (k := 4) rfl (xinc1 _) (by decide) rfl (fun ls hl => ?_)
    refine lv_goto (tgt := 10) hx hb dX0_setRank_36 (by decide) ?_
    exact ih10 (t + 1 + 1, q / (t + 1)) _ _ _ _ ls ⟨(by dsimp only; omega), (by dsimp only; omega), (by dsimp only; rw [Nat.add_sub_cancel, hq]; rfl), (by dsimp only; rw [Nat.add_sub_cancel]; rw [hq] at hC; exact hC), hS, rfl, rfl, lv_sub hl [2, 3, 4, 1, 0] rfl⟩ (by dsimp only; omega)

set_option maxRecDepth 100000 in
set_option maxHeartbeats 4000000 in
theorem cX0_setCopy_ (l : Launch) (D : va_G) (cI cC : ClassId) (o r n0 : Nat) (f : Nat → Nat) (o2 r2 n : Nat) (f2 : Nat → Nat) (hor : o ≠ r) (h2o : o2 ≠ o) (h2r : o2 ≠ r) (g2o : r2 ≠ o) (g2r : r2 ≠ r) (hn : n ≤ 8) : Met l yX0_setCopy wsX0_setCopy (xRm 1 0 0) (va_Pc [.ref o, .ref o2] (xB D cI cC (fun H => xCh D cI o r n0 f H ∧ xCh D cI o2 r2 n f2 H))) (xV (fun _ : Unit => True) (fun _ => xCh D cI o r n (cpy f f2 n)) (fun q => q = o ∨ q = r)) 0 0 (fun q => q = o ∨ q = r) := by
  refine Met.ofW (cc := cX0_setCopy) (maxL := 3) (ret := none) (by decide) rfl ?_
  intro p e s m args below meth c s₁ B hml hv
  obtain ⟨rfl, hP, hK⟩ := hv
  have hx := B.exec
  have hb := B.bytes
  have hr := B.returns
  have hts := atoms_spec (ws := wsX0_setCopy) B.pre
  have hown : s.vm.findClass RX0 = some m.cls := findClass_of_methodNamed B.named
  have hlocks := B.notSynchronized
  obtain ⟨hC, hC2⟩ := hP
  have hl := lv_entry ([.ref o, .ref o2]) (n := 3) (Nat.le_of_ble_eq_true rfl)
  rw [lg_entry_eq]
  generalize (lg_sl ([.ref o, .ref o2]) ++ List.replicate (3 - (lg_sl ([.ref o, .ref o2])).length) Slot.unset).toArray = ls at hl ⊢
  have hl : lv_has ls 3 [(0, .ref o), (1, .ref o2)] := hl
  have hS : va_S (fun q => q = o ∨ q = r) s.heap s.heap [] := va_S.rf
  refine lv_aload_n hx hb dX0_setCopy_0 rfl (lv_at hl 0 rfl) ?_
  refine lv_aload_n hx hb dX0_setCopy_1 rfl (lv_at hl 1 rfl) ?_
  refine x_get (v := .int (nI n)) (C := RX0) (T := TX0) (N := 2) hx hb hts (by decide +kernel) hown hK hC2.1 rfl 1 (by decide) (hts (.fieldLink RX0 15 "BellRanks$Change" "size" "I") (by decide +kernel)) (fun _ h9 => h9) rfl dX0_setCopy_2 ?_
  refine x_put (v := .int (nI n)) (ty := .int) (C := RX0) (T := TX0) (N := 2) hx hb hts (by decide +kernel) tyX0 tyX0_ok nmX0 hown hK hC.1 hS (Or.inl rfl) rfl 1 (by decide) (hts (.fieldLink RX0 15 "BellRanks$Change" "size" "I") (by decide +kernel)) (fun _ h9 => h9) rfl (by decide +kernel) rfl rfl (Nat.le_of_ble_eq_true rfl) dX0_setCopy_5 (fun H1 locs1 hN hz oq hS => ?_)
  have hC : xCh D cI o r n f H1 := ⟨hN, hC.2.kept (oq _ (Ne.symm hor))⟩
  have hC2 : xCh D cI o2 r2 n f2 H1 := ⟨hC2.1.kept (oq _ h2o), hC2.2.kept (oq _ g2o)⟩
  refine xn_iconst (v := 0) hx hb dX0_setCopy_8 (by decide) ?_
  refine lv_istore_n (lv' := [(2, .int (nI 0)), (0, .ref o), (1, .ref o2)]) hx hb dX0_setCopy_9 rfl hl (by decide) rfl (fun ls hl => ?_)
  refine x_loopH (σ := Nat) (fun a => n - a) (fun a H locs cells slots ls => (a ≤ n) ∧ (xCh D cI o r n (cpy f f2 a) H) ∧ (xCh D cI o2 r2 n f2 H) ∧ (va_S (fun q9 => q9 = o ∨ q9 = r) s.heap H locs) ∧ (cells = 0) ∧ (slots = 0) ∧ lv_has ls 3 [(0, .ref o), (1, .ref o2), (2, .int (nI a))]) ?_ 0 _ _ _ _ ls ⟨(Nat.zero_le _), (by rw [cpy_0]; exact hC), hC2, hS, rfl, rfl, lv_sub hl [1, 2, 0] rfl⟩
  rintro i H locs cells slots ls ⟨h2, hC, hC2, hS, rfl, rfl, hl⟩ ih10
  
  refine lv_iload_n hx hb dX0_setCopy_10 rfl (lv_at hl 2 rfl) ?_
  refine lv_aload_n hx hb dX0_setCopy_11 rfl (lv_at hl 0 rfl) ?_
  refine x_get (v := .int (nI n)) (C := RX0) (T := TX0) (N := 2) hx hb hts (by decide +kernel) hown hK hC.1 rfl 1 (by decide) (hts (.fieldLink RX0 15 "BellRanks$Change" "size" "I") (by decide +kernel)) (fun _ h9 => h9) rfl dX0_setCopy_12 ?_
  refine xn_icmp_ge (tgt := 34) hx hb dX0_setCopy_15 (by decide) (by omega) (by omega) (fun c15 => ?_) (fun c15 => ?_)
  · exact x_vret hx hb hr hlocks () trivial (by have e9 : i = n := (by omega); rw [e9] at hC; exact hC) hS (fun _ h => h) dX0_setCopy_34
  · refine lv_aload_n hx hb dX0_setCopy_18 rfl (lv_at hl 0 rfl) ?_
    refine lv_iload_n hx hb dX0_setCopy_19 rfl (lv_at hl 2 rfl) ?_
    refine lv_aload_n hx hb dX0_setCopy_20 rfl (lv_at hl 1 rfl) ?_
    refine lv_iload_n hx hb dX0_setCopy_21 rfl (lv_at hl 2 rfl) ?_
    refine xcV (As := [.int (nI i)]) (rest := [.int (nI i), .ref o]) ⟨hx, hb, hml, hown, hts⟩ (cX0_bellAt_ l D cI cC o2 r2 n f2 i (by omega)) (cwV 1 hts gX0_setCopy_X0_bellAt rfl rfl rfl (by decide +kernel) ⟨Nat.le_of_ble_eq_true rfl, Nat.le_of_ble_eq_true rfl⟩) hK hC2 (xRecv hK rfl hC2.1) rfl hl.1 rfl (Nat.le_of_ble_eq_true rfl) dX0_setCopy_22 ⟨Nat.zero_le _, Nat.zero_le _⟩ (fun x22 e22 => ?_)
    subst e22
    refine xmV (As := [.int (nI i), .int (nI (f2 i))]) (rest := []) ⟨hx, hb, hml, hown, hts⟩ (cX0_put_ l D cI cC o r n (cpy f f2 i) hor i (f2 i) (by omega)) (cwV 2 hts gX0_setCopy_X0_put rfl rfl rfl (by decide +kernel) ⟨Nat.le_of_ble_eq_true rfl, Nat.le_of_ble_eq_true rfl⟩) hK hC (xRecv hK rfl hC.1) rfl hl.1 rfl (Nat.le_of_ble_eq_true rfl) dX0_setCopy_25 ⟨Nat.zero_le _, Nat.zero_le _⟩ hS (fun _ h => Or.inr h) (fun _ h => Or.inr h) (fun u25 H1 locs1 hp25 hF25 hz25 hk25 hS => ?_)
    have hC : xCh D cI o r n (va_up (cpy f f2 i) i (f2 i)) H1 := hF25
    have hC2 := xCh_keep hC2 hk25 h2r g2r
    refine xn_iinc (v := i + 1) (lv' := [(2, .int (nI (i + 1))), (0, .ref o), (1, .ref o2)]) hx hb dX0_setCopy_28 hl (k := 2) rfl (xinc1 _) (by decide) rfl (fun ls hl => ?_)
    refine lv_goto (tgt := 10) hx hb dX0_setCopy_31 (by decide) ?_
    exact ih10 (i + 1) _ _ _ _ ls ⟨(by omega), (by rw [← cpy_s]; exact hC), hC2, hS, rfl, rfl, lv_sub hl [1, 2, 0] rfl⟩ (by omega)

set_option maxRecDepth 100000 in
set_option maxHeartbeats 4000000 in
theorem cX0_setBack_ (l : Launch) (D : va_G) (cI cC : ClassId) (o r n0 : Nat) (f : Nat → Nat) (o2 r2 n : Nat) (f2 : Nat → Nat) (hor : o ≠ r) (h2o : o2 ≠ o) (h2r : o2 ≠ r) (g2o : r2 ≠ o) (g2r : r2 ≠ r) (hn : n ≤ 8) (hf2 : ∀ i, f2 i < 8) : Met l yX0_setBack wsX0_setBack (xRm 1 0 0) (va_Pc [.ref o, .ref o2] (xB D cI cC (fun H => xCh D cI o r n0 f H ∧ xCh D cI o2 r2 n f2 H))) (xV (fun _ : Unit => True) (fun _ => xCh D cI o r n (bck f f2 n)) (fun q => q = o ∨ q = r)) 0 0 (fun q => q = o ∨ q = r) := by
  refine Met.ofW (cc := cX0_setBack) (maxL := 3) (ret := none) (by decide) rfl ?_
  intro p e s m args below meth c s₁ B hml hv
  obtain ⟨rfl, hP, hK⟩ := hv
  have hx := B.exec
  have hb := B.bytes
  have hr := B.returns
  have hts := atoms_spec (ws := wsX0_setBack) B.pre
  have hown : s.vm.findClass RX0 = some m.cls := findClass_of_methodNamed B.named
  have hlocks := B.notSynchronized
  obtain ⟨hC, hC2⟩ := hP
  have hl := lv_entry ([.ref o, .ref o2]) (n := 3) (Nat.le_of_ble_eq_true rfl)
  rw [lg_entry_eq]
  generalize (lg_sl ([.ref o, .ref o2]) ++ List.replicate (3 - (lg_sl ([.ref o, .ref o2])).length) Slot.unset).toArray = ls at hl ⊢
  have hl : lv_has ls 3 [(0, .ref o), (1, .ref o2)] := hl
  have hS : va_S (fun q => q = o ∨ q = r) s.heap s.heap [] := va_S.rf
  refine lv_aload_n hx hb dX0_setBack_0 rfl (lv_at hl 0 rfl) ?_
  refine lv_aload_n hx hb dX0_setBack_1 rfl (lv_at hl 1 rfl) ?_
  refine x_get (v := .int (nI n)) (C := RX0) (T := TX0) (N := 2) hx hb hts (by decide +kernel) hown hK hC2.1 rfl 1 (by decide) (hts (.fieldLink RX0 15 "BellRanks$Change" "size" "I") (by decide +kernel)) (fun _ h9 => h9) rfl dX0_setBack_2 ?_
  refine x_put (v := .int (nI n)) (ty := .int) (C := RX0) (T := TX0) (N := 2) hx hb hts (by decide +kernel) tyX0 tyX0_ok nmX0 hown hK hC.1 hS (Or.inl rfl) rfl 1 (by decide) (hts (.fieldLink RX0 15 "BellRanks$Change" "size" "I") (by decide +kernel)) (fun _ h9 => h9) rfl (by decide +kernel) rfl rfl (Nat.le_of_ble_eq_true rfl) dX0_setBack_5 (fun H1 locs1 hN hz oq hS => ?_)
  have hC : xCh D cI o r n f H1 := ⟨hN, hC.2.kept (oq _ (Ne.symm hor))⟩
  have hC2 : xCh D cI o2 r2 n f2 H1 := ⟨hC2.1.kept (oq _ h2o), hC2.2.kept (oq _ g2o)⟩
  refine xn_iconst (v := 0) hx hb dX0_setBack_8 (by decide) ?_
  refine lv_istore_n (lv' := [(2, .int (nI 0)), (0, .ref o), (1, .ref o2)]) hx hb dX0_setBack_9 rfl hl (by decide) rfl (fun ls hl => ?_)
  refine x_loopH (σ := Nat) (fun a => n - a) (fun a H locs cells slots ls => (a ≤ n) ∧ (xCh D cI o r n (bck f f2 a) H) ∧ (xCh D cI o2 r2 n f2 H) ∧ (va_S (fun q9 => q9 = o ∨ q9 = r) s.heap H locs) ∧ (cells = 0) ∧ (slots = 0) ∧ lv_has ls 3 [(0, .ref o), (1, .ref o2), (2, .int (nI a))]) ?_ 0 _ _ _ _ ls ⟨(Nat.zero_le _), hC, hC2, hS, rfl, rfl, lv_sub hl [1, 2, 0] rfl⟩
  rintro i H locs cells slots ls ⟨h2, hC, hC2, hS, rfl, rfl, hl⟩ ih10
  
  refine lv_iload_n hx hb dX0_setBack_10 rfl (lv_at hl 2 rfl) ?_
  refine lv_aload_n hx hb dX0_setBack_11 rfl (lv_at hl 0 rfl) ?_
  refine x_get (v := .int (nI n)) (C := RX0) (T := TX0) (N := 2) hx hb hts (by decide +kernel) hown hK hC.1 rfl 1 (by decide) (hts (.fieldLink RX0 15 "BellRanks$Change" "size" "I") (by decide +kernel)) (fun _ h9 => h9) rfl dX0_setBack_12 ?_
  refine xn_icmp_ge (tgt := 34) hx hb dX0_setBack_15 (by decide) (by omega) (by omega) (fun c15 => ?_) (fun c15 => ?_)
  · exact x_vret hx hb hr hlocks () trivial (by have e9 : i = n := (by omega); rw [e9] at hC; exact hC) hS (fun _ h => h) dX0_setBack_34
  · refine lv_aload_n hx hb dX0_setBack_18 rfl (lv_at hl 0 rfl) ?_
    refine lv_aload_n hx hb dX0_setBack_19 rfl (lv_at hl 1 rfl) ?_
    refine lv_iload_n hx hb dX0_setBack_20 rfl (lv_at hl 2 rfl) ?_
    refine xcV (As := [.int (nI i)]) (rest := [.ref o]) ⟨hx, hb, hml, hown, hts⟩ (cX0_bellAt_ l D cI cC o2 r2 n f2 i (by omega)) (cwV 1 hts gX0_setBack_X0_bellAt rfl rfl rfl (by decide +kernel) ⟨Nat.le_of_ble_eq_true rfl, Nat.le_of_ble_eq_true rfl⟩) hK hC2 (xRecv hK rfl hC2.1) rfl hl.1 rfl (Nat.le_of_ble_eq_true rfl) dX0_setBack_21 ⟨Nat.zero_le _, Nat.zero_le _⟩ (fun x21 e21 => ?_)
    subst e21
    refine lv_iload_n hx hb dX0_setBack_24 rfl (lv_at hl 2 rfl) ?_
    refine xmV (As := [.int (nI (f2 i)), .int (nI i)]) (rest := []) ⟨hx, hb, hml, hown, hts⟩ (cX0_put_ l D cI cC o r n (bck f f2 i) hor (f2 i) i (hf2 _)) (cwV 2 hts gX0_setBack_X0_put rfl rfl rfl (by decide +kernel) ⟨Nat.le_of_ble_eq_true rfl, Nat.le_of_ble_eq_true rfl⟩) hK hC (xRecv hK rfl hC.1) rfl hl.1 rfl (Nat.le_of_ble_eq_true rfl) dX0_setBack_25 ⟨Nat.zero_le _, Nat.zero_le _⟩ hS (fun _ h => Or.inr h) (fun _ h => Or.inr h) (fun u25 H1 locs1 hp25 hF25 hz25 hk25 hS => ?_)
    have hC : xCh D cI o r n (va_up (bck f f2 i) (f2 i) i) H1 := hF25
    have hC2 := xCh_keep hC2 hk25 h2r g2r
    refine xn_iinc (v := i + 1) (lv' := [(2, .int (nI (i + 1))), (0, .ref o), (1, .ref o2)]) hx hb dX0_setBack_28 hl (k := 2) rfl (xinc1 _) (by decide) rfl (fun ls hl => ?_)
    refine lv_goto (tgt := 10) hx hb dX0_setBack_31 (by decide) ?_
    exact ih10 (i + 1) _ _ _ _ ls ⟨(by omega), hC, hC2, hS, rfl, rfl, lv_sub hl [1, 2, 0] rfl⟩ (by omega)

set_option maxRecDepth 100000 in
set_option maxHeartbeats 4000000 in
theorem cX0_setBehind_ (l : Launch) (D : va_G) (cI cC : ClassId) (o r n0 : Nat) (f : Nat → Nat) (o2 r2 n : Nat) (f2 : Nat → Nat) (o1 r1 n1 : Nat) (f1 : Nat → Nat) (hor : o ≠ r) (h2o : o2 ≠ o) (h2r : o2 ≠ r) (g2o : r2 ≠ o) (g2r : r2 ≠ r) (h1o : o1 ≠ o) (h1r : o1 ≠ r) (g1o : r1 ≠ o) (g1r : r1 ≠ r) (hn : n ≤ 8) (hf2 : ∀ i, f2 i < 8) : Met l yX0_setBehind wsX0_setBehind (xRm 1 0 0) (va_Pc [.ref o, .ref o1, .ref o2] (xB D cI cC (fun H => xCh D cI o r n0 f H ∧ xCh D cI o1 r1 n1 f1 H ∧ xCh D cI o2 r2 n f2 H))) (xV (fun _ : Unit => True) (fun _ => xCh D cI o r n (cpy f (fun q9 => f1 (f2 q9)) n)) (fun q => q = o ∨ q = r)) 0 0 (fun q => q = o ∨ q = r) := by
  refine Met.ofW (cc := cX0_setBehind) (maxL := 4) (ret := none) (by decide) rfl ?_
  intro p e s m args below meth c s₁ B hml hv
  obtain ⟨rfl, hP, hK⟩ := hv
  have hx := B.exec
  have hb := B.bytes
  have hr := B.returns
  have hts := atoms_spec (ws := wsX0_setBehind) B.pre
  have hown : s.vm.findClass RX0 = some m.cls := findClass_of_methodNamed B.named
  have hlocks := B.notSynchronized
  obtain ⟨hC, hC1, hC2⟩ := hP
  have hl := lv_entry ([.ref o, .ref o1, .ref o2]) (n := 4) (Nat.le_of_ble_eq_true rfl)
  rw [lg_entry_eq]
  generalize (lg_sl ([.ref o, .ref o1, .ref o2]) ++ List.replicate (4 - (lg_sl ([.ref o, .ref o1, .ref o2])).length) Slot.unset).toArray = ls at hl ⊢
  have hl : lv_has ls 4 [(0, .ref o), (1, .ref o1), (2, .ref o2)] := hl
  have hS : va_S (fun q => q = o ∨ q = r) s.heap s.heap [] := va_S.rf
  refine lv_aload_n hx hb dX0_setBehind_0 rfl (lv_at hl 0 rfl) ?_
  refine lv_aload_n hx hb dX0_setBehind_1 rfl (lv_at hl 2 rfl) ?_
  refine x_get (v := .int (nI n)) (C := RX0) (T := TX0) (N := 2) hx hb hts (by decide +kernel) hown hK hC2.1 rfl 1 (by decide) (hts (.fieldLink RX0 15 "BellRanks$Change" "size" "I") (by decide +kernel)) (fun _ h9 => h9) rfl dX0_setBehind_2 ?_
  refine x_put (v := .int (nI n)) (ty := .int) (C := RX0) (T := TX0) (N := 2) hx hb hts (by decide +kernel) tyX0 tyX0_ok nmX0 hown hK hC.1 hS (Or.inl rfl) rfl 1 (by decide) (hts (.fieldLink RX0 15 "BellRanks$Change" "size" "I") (by decide +kernel)) (fun _ h9 => h9) rfl (by decide +kernel) rfl rfl (Nat.le_of_ble_eq_true rfl) dX0_setBehind_5 (fun H1 locs1 hN hz oq hS => ?_)
  have hC : xCh D cI o r n f H1 := ⟨hN, hC.2.kept (oq _ (Ne.symm hor))⟩
  have hC2 : xCh D cI o2 r2 n f2 H1 := ⟨hC2.1.kept (oq _ h2o), hC2.2.kept (oq _ g2o)⟩
  have hC1 : xCh D cI o1 r1 n1 f1 H1 := ⟨hC1.1.kept (oq _ h1o), hC1.2.kept (oq _ g1o)⟩
  refine xn_iconst (v := 0) hx hb dX0_setBehind_8 (by decide) ?_
  refine lv_istore_n (lv' := [(3, .int (nI 0)), (0, .ref o), (1, .ref o1), (2, .ref o2)]) hx hb dX0_setBehind_9 rfl hl (by decide) rfl (fun ls hl => ?_)
  refine x_loopH (σ := Nat) (fun a => n - a) (fun a H locs cells slots ls => (a ≤ n) ∧ (xCh D cI o r n (cpy f (fun q9 => f1 (f2 q9)) a) H) ∧ (xCh D cI o2 r2 n f2 H) ∧ (xCh D cI o1 r1 n1 f1 H) ∧ (va_S (fun q9 => q9 = o ∨ q9 = r) s.heap H locs) ∧ (cells = 0) ∧ (slots = 0) ∧ lv_has ls 4 [(0, .ref o), (1, .ref o1), (2, .ref o2), (3, .int (nI a))]) ?_ 0 _ _ _ _ ls ⟨(Nat.zero_le _), (by rw [cpy_0]; exact hC), hC2, hC1, hS, rfl, rfl, lv_sub hl [1, 2, 3, 0] rfl⟩
  rintro i H locs cells slots ls ⟨h2, hC, hC2, hC1, hS, rfl, rfl, hl⟩ ih10
  
  refine lv_iload_n hx hb dX0_setBehind_10 rfl (lv_at hl 3 rfl) ?_
  refine lv_aload_n hx hb dX0_setBehind_11 rfl (lv_at hl 0 rfl) ?_
  refine x_get (v := .int (nI n)) (C := RX0) (T := TX0) (N := 2) hx hb hts (by decide +kernel) hown hK hC.1 rfl 1 (by decide) (hts (.fieldLink RX0 15 "BellRanks$Change" "size" "I") (by decide +kernel)) (fun _ h9 => h9) rfl dX0_setBehind_12 ?_
  refine xn_icmp_ge (tgt := 38) hx hb dX0_setBehind_15 (by decide) (by omega) (by omega) (fun c15 => ?_) (fun c15 => ?_)
  · exact x_vret hx hb hr hlocks () trivial (by have e9 : i = n := (by omega); rw [e9] at hC; exact hC) hS (fun _ h => h) dX0_setBehind_38
  · refine lv_aload_n hx hb dX0_setBehind_18 rfl (lv_at hl 0 rfl) ?_
    refine lv_iload_n hx hb dX0_setBehind_19 rfl (lv_at hl 3 rfl) ?_
    refine lv_aload_n hx hb dX0_setBehind_20 rfl (lv_at hl 1 rfl) ?_
    refine lv_aload_n hx hb dX0_setBehind_21 rfl (lv_at hl 2 rfl) ?_
    refine lv_iload_n hx hb dX0_setBehind_22 rfl (lv_at hl 3 rfl) ?_
    refine xcV (As := [.int (nI i)]) (rest := [.ref o1, .int (nI i), .ref o]) ⟨hx, hb, hml, hown, hts⟩ (cX0_bellAt_ l D cI cC o2 r2 n f2 i (by omega)) (cwV 1 hts gX0_setBehind_X0_bellAt rfl rfl rfl (by decide +kernel) ⟨Nat.le_of_ble_eq_true rfl, Nat.le_of_ble_eq_true rfl⟩) hK hC2 (xRecv hK rfl hC2.1) rfl hl.1 rfl (Nat.le_of_ble_eq_true rfl) dX0_setBehind_23 ⟨Nat.zero_le _, Nat.zero_le _⟩ (fun x23 e23 => ?_)
    subst e23
    refine xcV (As := [.int (nI (f2 i))]) (rest := [.int (nI i), .ref o]) ⟨hx, hb, hml, hown, hts⟩ (cX0_bellAt_ l D cI cC o1 r1 n1 f1 (f2 i) (hf2 _)) (cwV 1 hts gX0_setBehind_X0_bellAt rfl rfl rfl (by decide +kernel) ⟨Nat.le_of_ble_eq_true rfl, Nat.le_of_ble_eq_true rfl⟩) hK hC1 (xRecv hK rfl hC1.1) rfl hl.1 rfl (Nat.le_of_ble_eq_true rfl) dX0_setBehind_26 ⟨Nat.zero_le _, Nat.zero_le _⟩ (fun x26 e26 => ?_)
    subst e26
    refine xmV (As := [.int (nI i), .int (nI (f1 (f2 i)))]) (rest := []) ⟨hx, hb, hml, hown, hts⟩ (cX0_put_ l D cI cC o r n (cpy f (fun q9 => f1 (f2 q9)) i) hor i (f1 (f2 i)) (by omega)) (cwV 2 hts gX0_setBehind_X0_put rfl rfl rfl (by decide +kernel) ⟨Nat.le_of_ble_eq_true rfl, Nat.le_of_ble_eq_true rfl⟩) hK hC (xRecv hK rfl hC.1) rfl hl.1 rfl (Nat.le_of_ble_eq_true rfl) dX0_setBehind_29 ⟨Nat.zero_le _, Nat.zero_le _⟩ hS (fun _ h => Or.inr h) (fun _ h => Or.inr h) (fun u29 H1 locs1 hp29 hF29 hz29 hk29 hS => ?_)
    have hC : xCh D cI o r n (va_up (cpy f (fun q9 => f1 (f2 q9)) i) i (f1 (f2 i))) H1 := hF29
    have hC2 := xCh_keep hC2 hk29 h2r g2r
    have hC1 := xCh_keep hC1 hk29 h1r g1r
    refine xn_iinc (v := i + 1) (lv' := [(3, .int (nI (i + 1))), (0, .ref o), (1, .ref o1), (2, .ref o2)]) hx hb dX0_setBehind_32 hl (k := 3) rfl (xinc1 _) (by decide) rfl (fun ls hl => ?_)
    refine lv_goto (tgt := 10) hx hb dX0_setBehind_35 (by decide) ?_
    exact ih10 (i + 1) _ _ _ _ ls ⟨(by omega), (by rw [← cpy_s]; exact hC), hC2, hC1, hS, rfl, rfl, lv_sub hl [1, 2, 3, 0] rfl⟩ (by omega)

set_option maxRecDepth 100000 in
set_option maxHeartbeats 4000000 in
theorem cX0_exchange_ (l : Launch) (D : va_G) (cI cC : ClassId) (o r n : Nat) (f : Nat → Nat) (hor : o ≠ r) (j : Nat) (hj : j + 1 < 8) : Met l yX0_exchange wsX0_exchange (xRm 1 0 0) (va_Pc [.ref o, .int (nI j)] (xB D cI cC (xCh D cI o r n f))) (xV (fun _ : Unit => True) (fun _ => xCh D cI o r n (xch f j)) (fun q => q = r)) 0 0 (fun q => q = r) := by
  refine Met.ofW (cc := cX0_exchange) (maxL := 3) (ret := none) (by decide) rfl ?_
  intro p e s m args below meth c s₁ B hml hv
  obtain ⟨rfl, hP, hK⟩ := hv
  have hx := B.exec
  have hb := B.bytes
  have hr := B.returns
  have hts := atoms_spec (ws := wsX0_exchange) B.pre
  have hown : s.vm.findClass RX0 = some m.cls := findClass_of_methodNamed B.named
  have hlocks := B.notSynchronized
  have hC := hP
  have hl := lv_entry ([.ref o, .int (nI j)]) (n := 3) (Nat.le_of_ble_eq_true rfl)
  rw [lg_entry_eq]
  generalize (lg_sl ([.ref o, .int (nI j)]) ++ List.replicate (3 - (lg_sl ([.ref o, .int (nI j)])).length) Slot.unset).toArray = ls at hl ⊢
  have hl : lv_has ls 3 [(0, .ref o), (1, .int (nI j))] := hl
  have hS : va_S (fun q => q = r) s.heap s.heap [] := va_S.rf
  refine lv_aload_n hx hb dX0_exchange_0 rfl (lv_at hl 0 rfl) ?_
  refine lv_iload_n hx hb dX0_exchange_1 rfl (lv_at hl 1 rfl) ?_
  refine xcV (As := [.int (nI j)]) (rest := []) ⟨hx, hb, hml, hown, hts⟩ (cX0_bellAt_ l D cI cC o r n f j (by omega)) (cwV 1 hts gX0_exchange_X0_bellAt rfl rfl rfl (by decide +kernel) ⟨Nat.le_of_ble_eq_true rfl, Nat.le_of_ble_eq_true rfl⟩) hK hC (xRecv hK rfl hC.1) rfl hl.1 rfl (Nat.le_of_ble_eq_true rfl) dX0_exchange_2 ⟨Nat.zero_le _, Nat.zero_le _⟩ (fun x2 e2 => ?_)
  subst e2
  refine lv_istore_n (lv' := [(2, .int (nI (f j))), (0, .ref o), (1, .int (nI j))]) hx hb dX0_exchange_5 rfl hl (by decide) rfl (fun ls hl => ?_)
  refine lv_aload_n hx hb dX0_exchange_6 rfl (lv_at hl 1 rfl) ?_
  refine lv_iload_n hx hb dX0_exchange_7 rfl (lv_at hl 2 rfl) ?_
  refine lv_aload_n hx hb dX0_exchange_8 rfl (lv_at hl 1 rfl) ?_
  refine lv_iload_n hx hb dX0_exchange_9 rfl (lv_at hl 2 rfl) ?_
  refine xn_iconst (v := 1) hx hb dX0_exchange_10 (by decide) ?_
  refine xn_iadd hx hb dX0_exchange_11 ?_
  refine xcV (As := [.int (nI (j + 1))]) (rest := [.int (nI j), .ref o]) ⟨hx, hb, hml, hown, hts⟩ (cX0_bellAt_ l D cI cC o r n f (j + 1) (by omega)) (cwV 1 hts gX0_exchange_X0_bellAt rfl rfl rfl (by decide +kernel) ⟨Nat.le_of_ble_eq_true rfl, Nat.le_of_ble_eq_true rfl⟩) hK hC (xRecv hK rfl hC.1) rfl hl.1 rfl (Nat.le_of_ble_eq_true rfl) dX0_exchange_12 ⟨Nat.zero_le _, Nat.zero_le _⟩ (fun x12 e12 => ?_)
  subst e12
  refine xmV (As := [.int (nI j), .int (nI (f (j + 1)))]) (rest := []) ⟨hx, hb, hml, hown, hts⟩ (cX0_put_ l D cI cC o r n f hor j (f (j + 1)) (by omega)) (cwV 2 hts gX0_exchange_X0_put rfl rfl rfl (by decide +kernel) ⟨Nat.le_of_ble_eq_true rfl, Nat.le_of_ble_eq_true rfl⟩) hK hC (xRecv hK rfl hC.1) rfl hl.1 rfl (Nat.le_of_ble_eq_true rfl) dX0_exchange_15 ⟨Nat.zero_le _, Nat.zero_le _⟩ hS (fun _ h => h) (fun _ h => h) (fun u15 H1 locs1 hp15 hF15 hz15 hk15 hS => ?_)
  have hC : xCh D cI o r n (va_up f j (f (j + 1))) H1 := hF15
  refine lv_aload_n hx hb dX0_exchange_18 rfl (lv_at hl 1 rfl) ?_
  refine lv_iload_n hx hb dX0_exchange_19 rfl (lv_at hl 2 rfl) ?_
  refine xn_iconst (v := 1) hx hb dX0_exchange_20 (by decide) ?_
  refine xn_iadd hx hb dX0_exchange_21 ?_
  refine lv_iload_n hx hb dX0_exchange_22 rfl (lv_at hl 0 rfl) ?_
  refine xmV (As := [.int (nI (j + 1)), .int (nI (f j))]) (rest := []) ⟨hx, hb, hml, hown, hts⟩ (cX0_put_ l D cI cC o r n (va_up f j (f (j + 1))) hor (j + 1) (f j) (by omega)) (cwV 2 hts gX0_exchange_X0_put rfl rfl rfl (by decide +kernel) ⟨Nat.le_of_ble_eq_true rfl, Nat.le_of_ble_eq_true rfl⟩) hK hC (xRecv hK rfl hC.1) rfl hl.1 rfl (Nat.le_of_ble_eq_true rfl) dX0_exchange_23 ⟨Nat.zero_le _, Nat.zero_le _⟩ hS (fun _ h => h) (fun _ h => h) (fun u23 H1 locs1 hp23 hF23 hz23 hk23 hS => ?_)
  have hC : xCh D cI o r n (va_up (va_up f j (f (j + 1))) (j + 1) (f j)) H1 := hF23
  exact x_vret hx hb hr hlocks () trivial hC hS (fun _ h => h) dX0_exchange_26

set_option maxRecDepth 100000 in
set_option maxHeartbeats 4000000 in
theorem cX1_keeps_ (l : Launch) (D : va_G) (cI cC : ClassId) (k i : Nat) (hk : k < 2 ^ 31) (hi : i < 32) : Met l yX1_keeps wsX1_keeps (xRm 0 0 0) (va_Pc [.int (nI k), .int (nI i)] (xB D cI cC (fun _ => True))) (vp_Si (fun x => x = nI (bitN k i))) 0 0 (fun _ => False) := by
  refine Met.ofW (cc := cX1_keeps) (maxL := 2) (ret := (some .boolean)) (by decide) rfl ?_
  intro p e s m args below meth c s₁ B hml hv
  obtain ⟨rfl, hP, hK⟩ := hv
  have hx := B.exec
  have hb := B.bytes
  have hr := B.returns
  have hts := atoms_spec (ws := wsX1_keeps) B.pre
  have hown : s.vm.findClass RX1 = some m.cls := findClass_of_methodNamed B.named
  have hlocks := B.notSynchronized
  have hl := lv_entry ([.int (nI k), .int (nI i)]) (n := 2) (Nat.le_of_ble_eq_true rfl)
  rw [lg_entry_eq]
  generalize (lg_sl ([.int (nI k), .int (nI i)]) ++ List.replicate (2 - (lg_sl ([.int (nI k), .int (nI i)])).length) Slot.unset).toArray = ls at hl ⊢
  have hl : lv_has ls 2 [(0, .int (nI k)), (1, .int (nI i))] := hl
  refine lv_iload_n hx hb dX1_keeps_0 rfl (lv_at hl 0 rfl) ?_
  refine lv_iload_n hx hb dX1_keeps_1 rfl (lv_at hl 1 rfl) ?_
  refine lv_ishr hx hb dX1_keeps_2 ?_
  refine xz_i (xshr hk hi) ?_
  refine xn_iconst (v := 1) hx hb dX1_keeps_3 (by decide) ?_
  refine lv_iand hx hb dX1_keeps_4 ?_
  refine xz_i (xand1 (Nat.lt_of_le_of_lt (Nat.div_le_self _ _) hk)) ?_
  refine xn_iconst (v := 1) hx hb dX1_keeps_5 (by decide) ?_
  refine xn_icmp_ne (tgt := 13) hx hb dX1_keeps_6 (by decide) (Nat.lt_trans (bitN_lt k i) (by decide)) (by decide) (fun c6 => ?_) (fun c6 => ?_)
  · refine xn_iconst (v := 0) hx hb dX1_keeps_13 (by decide) ?_
    exact x_zret hx hb hr hlocks rfl (by decide) (congrArg nI (by have h1 := bitN_lt k i; have h2 : bitN k i ≠ 1 := c6; omega)) dX1_keeps_14
  · refine xn_iconst (v := 1) hx hb dX1_keeps_9 (by decide) ?_
    refine lv_goto (tgt := 14) hx hb dX1_keeps_10 (by decide) ?_
    exact x_zret hx hb hr hlocks rfl (by decide) (congrArg nI (Eq.symm c6)) dX1_keeps_14

set_option maxRecDepth 100000 in
set_option maxHeartbeats 4000000 in
theorem cX0_ringStep_ (l : Launch) (D : va_G) (cI cC : ClassId) (o r n : Nat) (f : Nat → Nat) (hor : o ≠ r) (hn : n ≤ 8) (k : Nat) (hk : k < 2 ^ 31) : Met l yX0_ringStep wsX0_ringStep (xRm 2 0 0) (va_Pc [.ref o, .int (nI k)] (xB D cI cC (xCh D cI o r n f))) (xV (fun _ : Unit => True) (fun _ => xCh D cI o r n (rst k n n 0 f)) (fun q => q = r)) 0 0 (fun q => q = r) := by
  refine Met.ofW (cc := cX0_ringStep) (maxL := 3) (ret := none) (by decide) rfl ?_
  intro p e s m args below meth c s₁ B hml hv
  obtain ⟨rfl, hP, hK⟩ := hv
  have hx := B.exec
  have hb := B.bytes
  have hr := B.returns
  have hts := atoms_spec (ws := wsX0_ringStep) B.pre
  have hown : s.vm.findClass RX0 = some m.cls := findClass_of_methodNamed B.named
  have hlocks := B.notSynchronized
  have hC := hP
  have hl := lv_entry ([.ref o, .int (nI k)]) (n := 3) (Nat.le_of_ble_eq_true rfl)
  rw [lg_entry_eq]
  generalize (lg_sl ([.ref o, .int (nI k)]) ++ List.replicate (3 - (lg_sl ([.ref o, .int (nI k)])).length) Slot.unset).toArray = ls at hl ⊢
  have hl : lv_has ls 3 [(0, .ref o), (1, .int (nI k))] := hl
  have hS : va_S (fun q => q = r) s.heap s.heap [] := va_S.rf
  refine xn_iconst (v := 0) hx hb dX0_ringStep_0 (by decide) ?_
  refine lv_istore_n (lv' := [(2, .int (nI 0)), (0, .ref o), (1, .int (nI k))]) hx hb dX0_ringStep_1 rfl hl (by decide) rfl (fun ls hl => ?_)
  refine x_loopH (σ := Nat × Nat × (Nat → Nat)) (fun a => n - a.1) (fun a H locs cells slots ls => (n ≤ a.1 + a.2.1) ∧ (a.1 ≤ n + 1) ∧ (rst k n a.2.1 a.1 a.2.2 = rst k n n 0 f) ∧ (xCh D cI o r n a.2.2 H) ∧ (va_S (fun q9 => q9 = r) s.heap H locs) ∧ (cells = 0) ∧ (slots = 0) ∧ lv_has ls 3 [(0, .ref o), (1, .int (nI k)), (2, .int (nI a.1))]) ?_ (0, n, f) _ _ _ _ ls ⟨(by dsimp only; omega), (Nat.zero_le _), rfl, hC, hS, rfl, rfl, lv_sub hl [1, 2, 0] rfl⟩
  rintro ⟨i, u, g⟩ H locs cells slots ls ⟨hu, h2, ht, hC, hS, rfl, rfl, hl⟩ ih2
  dsimp only at hu h2 ht hC hS hl
  refine lv_iload_n hx hb dX0_ringStep_2 rfl (lv_at hl 2 rfl) ?_
  refine xn_iconst (v := 1) hx hb dX0_ringStep_3 (by decide) ?_
  refine xn_iadd hx hb dX0_ringStep_4 ?_
  refine lv_aload_n hx hb dX0_ringStep_5 rfl (lv_at hl 0 rfl) ?_
  refine x_get (v := .int (nI n)) (C := RX0) (T := TX0) (N := 2) hx hb hts (by decide +kernel) hown hK hC.1 rfl 1 (by decide) (hts (.fieldLink RX0 15 "BellRanks$Change" "size" "I") (by decide +kernel)) (fun _ h9 => h9) rfl dX0_ringStep_6 ?_
  refine xn_icmp_ge (tgt := 37) hx hb dX0_ringStep_9 (by decide) (by omega) (by omega) (fun c9 => ?_) (fun c9 => ?_)
  · exact x_vret hx hb hr hlocks () trivial (by rw [← ht, rst_end c9]; exact hC) hS (fun _ h => h) dX0_ringStep_37
  · obtain ⟨u, rfl⟩ : ∃ z, u = z + 1 := ⟨u - 1, by omega⟩
    refine lv_iload_n hx hb dX0_ringStep_12 rfl (lv_at hl 1 rfl) ?_
    refine lv_iload_n hx hb dX0_ringStep_13 rfl (lv_at hl 2 rfl) ?_
    refine xcS (As := [.int (nI k), .int (nI i)]) (rest := []) ⟨hx, hb, hml, hown, hts⟩ (cX1_keeps_ l D cI cC k i hk (by omega)) (va_cwS 2 hts gX0_ringStep_X1_keeps rfl rfl rfl (by decide +kernel) ⟨Nat.le_of_ble_eq_true rfl, Nat.le_of_ble_eq_true rfl⟩) hK trivial rfl hl.1 rfl (Nat.le_of_ble_eq_true rfl) dX0_ringStep_14 ⟨Nat.zero_le _, Nat.zero_le _⟩ (fun x14 e14 => ?_)
    subst e14
    refine xn_if_eq (tgt := 26) hx hb dX0_ringStep_17 (by decide) (Nat.lt_trans (bitN_lt k i) (by decide)) (fun c17 => ?_) (fun c17 => ?_)
    · refine lv_aload_n hx hb dX0_ringStep_26 rfl (lv_at hl 0 rfl) ?_
      refine lv_iload_n hx hb dX0_ringStep_27 rfl (lv_at hl 2 rfl) ?_
      refine xmV (As := [.int (nI i)]) (rest := []) ⟨hx, hb, hml, hown, hts⟩ (cX0_exchange_ l D cI cC o r n g hor i (by omega)) (cwV 1 hts gX0_ringStep_X0_exchange rfl rfl rfl (by decide +kernel) ⟨Nat.le_of_ble_eq_true rfl, Nat.le_of_ble_eq_true rfl⟩) hK hC (xRecv hK rfl hC.1) rfl hl.1 rfl (Nat.le_of_ble_eq_true rfl) dX0_ringStep_28 ⟨Nat.zero_le _, Nat.zero_le _⟩ hS (fun _ h => h) (fun _ h => h) (fun u28 H1 locs1 hp28 hF28 hz28 hk28 hS => ?_)
      have hC : xCh D cI o r n (xch g i) H1 := hF28
      refine xn_iinc (v := i + 2) (lv' := [(2, .int (nI (i + 2))), (0, .ref o), (1, .int (nI k))]) hx hb dX0_ringStep_31 hl (k := 2) rfl (xinc2 _) (by decide) rfl (fun ls hl => ?_)
      refine lv_goto (tgt := 2) hx hb dX0_ringStep_34 (by decide) ?_
      exact ih2 (i + 2, u, (xch g i)) _ _ _ _ ls ⟨(by dsimp only; omega), (by dsimp only; omega), (by rw [← rst_x c9 c17]; exact ht), hC, hS, rfl, rfl, lv_sub hl [1, 2, 0] rfl⟩ (by dsimp only; omega)
    · refine xn_iinc (v := i + 1) (lv' := [(2, .int (nI (i + 1))), (0, .ref o), (1, .int (nI k))]) hx hb dX0_ringStep_20 hl (k := 2) rfl (xinc1 _) (by decide) rfl (fun ls hl => ?_)
      refine lv_goto (tgt := 2) hx hb dX0_ringStep_23 (by decide) ?_
      exact ih2 (i + 1, u, g) _ _ _ _ ls ⟨(by dsimp only; omega), (by dsimp only; omega), (by rw [← rst_k c9 (by have := bitN_lt k i; omega)]; exact ht), hC, hS, rfl, rfl, lv_sub hl [1, 2, 0] rfl⟩ (by dsimp only; omega)
