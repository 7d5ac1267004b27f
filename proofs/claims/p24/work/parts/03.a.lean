/-! BellRanks$Change: the methods that only read -/
theorem lst_le (f : Nat → Nat) (n j : Nat) : lst f n j ≤ 1 := by
  unfold lst; split <;> decide
theorem per_1 (f : Nat → Nat) (n j : Nat) : 1 ≤ per f n j := Nat.succ_le_succ (Nat.zero_le _)
theorem per_le {f : Nat → Nat} {n j : Nat} (h : j < n) (i : Nat) : per f n i ≤ n := by
  have := (fnd_spec (fun k => it f (k + 1) i == i) (n - 1)).1
  unfold per
  omega
theorem mxr_le {f : Nat → Nat} {n : Nat} (hn : n ≤ 8) : ∀ i, i ≤ n → mxr f n i ≤ 8
  | 0, _ => Nat.zero_le _
  | i + 1, h => by
    have h1 := mxr_le (f := f) hn i (by omega)
    have h2 := per_le (f := f) (show i < n by omega) i
    show max (mxr f n i) (per f n i) ≤ 8
    omega
theorem xmaxN {a b : Nat} (ha : a < 2 ^ 31) (hb : b < 2 ^ 31) : (if nI a < nI b then nI b else nI a) = nI (max a b) := by
  by_cases h : a < b
  · rw [if_pos ((nI_ltI ha hb).mpr h), Nat.max_eq_right (by omega)]
  · rw [if_neg (fun z => h ((nI_ltI ha hb).mp z)), Nat.max_eq_left (by omega)]
theorem xn_irem {p : Program} {l : Launch} {e : Env} {R : Room} {s : State} {m : MethodId} {args : Array Value} {below : List Frame} {meth : Method} {c : Code} {H : Heap} {locs : List Loc} {cells slots : Nat} {Q : State → Prop} {cc : ByteArray} {pc : Nat} {ls : Array Slot} {rest : List Value} (hx : p.tables.exec = Jvm.exec) (hb : c.code = cc) {a b : Nat} (ha : a < 2 ^ 31) (h0 : 0 < b) (hb2 : b < 2 ^ 31) (hdg : decode cc pc = .ok (.irem, 1)) (k : W p l e R s m args below meth c H locs cells slots Q (F0 m (pc + 1) ls (.int (nI (a % b)) :: rest))) : W p l e R s m args below meth c H locs cells slots Q (F0 m pc ls (.int (nI b) :: .int (nI a) :: rest)) :=
  lv_irem hx hb hdg (nI_ne0 h0 hb2) (xz_i (pk_rem ha h0 hb2) k)
theorem xn_idiv {p : Program} {l : Launch} {e : Env} {R : Room} {s : State} {m : MethodId} {args : Array Value} {below : List Frame} {meth : Method} {c : Code} {H : Heap} {locs : List Loc} {cells slots : Nat} {Q : State → Prop} {cc : ByteArray} {pc : Nat} {ls : Array Slot} {rest : List Value} (hx : p.tables.exec = Jvm.exec) (hb : c.code = cc) {a b : Nat} (ha : a < 2 ^ 31) (h0 : 0 < b) (hb2 : b < 2 ^ 31) (hdg : decode cc pc = .ok (.idiv, 1)) (k : W p l e R s m args below meth c H locs cells slots Q (F0 m (pc + 1) ls (.int (nI (a / b)) :: rest))) : W p l e R s m args below meth c H locs cells slots Q (F0 m pc ls (.int (nI b) :: .int (nI a) :: rest)) :=
  lv_idiv hx hb hdg (nI_ne0 h0 hb2) (xz_i (pk_div ha h0 hb2) k)
set_option maxRecDepth 100000 in
set_option maxHeartbeats 4000000 in
theorem cX0_bellAt_ (l : Launch) (D : va_G) (cI cC : ClassId) (o r n : Nat) (f : Nat → Nat) (j : Nat) (hj : j < 8) : Met l yX0_bellAt wsX0_bellAt (xRm 0 0 0) (va_Pc [.ref o, .int (nI j)] (xB D cI cC (xCh D cI o r n f))) (vp_Si (fun x => x = nI (f j))) 0 0 (fun _ => False) := by
  refine Met.ofW (cc := cX0_bellAt) (maxL := 2) (ret := (some .int)) (by decide) rfl ?_
  intro p e s m args below meth c s₁ B hml hv
  obtain ⟨rfl, hP, hK⟩ := hv
  have hx := B.exec
  have hb := B.bytes
  have hr := B.returns
  have hts := atoms_spec (ws := wsX0_bellAt) B.pre
  have hown : s.vm.findClass RX0 = some m.cls := findClass_of_methodNamed B.named
  have hlocks := B.notSynchronized
  have hC := hP
  have hl := lv_entry ([.ref o, .int (nI j)]) (n := 2) (Nat.le_of_ble_eq_true rfl)
  rw [lg_entry_eq]
  generalize (lg_sl ([.ref o, .int (nI j)]) ++ List.replicate (2 - (lg_sl ([.ref o, .int (nI j)])).length) Slot.unset).toArray = ls at hl ⊢
  have hl : lv_has ls 2 [(0, .ref o), (1, .int (nI j))] := hl
  refine lv_iload_n hx hb dX0_bellAt_0 rfl (lv_at hl 1 rfl) ?_
  refine xn_if_lt (tgt := 22) hx hb dX0_bellAt_1 (by decide) (by omega) ?_
  refine lv_iload_n hx hb dX0_bellAt_4 rfl (lv_at hl 1 rfl) ?_
  refine lv_aload_n hx hb dX0_bellAt_5 rfl (lv_at hl 0 rfl) ?_
  refine x_get (v := .ref r) (C := RX0) (T := TX0) (N := 2) hx hb hts (by decide +kernel) hown hK hC.1 rfl 0 (by decide) (hts (.fieldLink RX0 9 "BellRanks$Change" "row" "[I") (by decide +kernel)) (fun _ h9 => h9) rfl dX0_bellAt_6 ?_
  refine x_alen hx hb hK hC.2 dX0_bellAt_9 ?_
  refine xn_icmp_ge (tgt := 22) hx hb dX0_bellAt_10 (by decide) (by omega) (by decide) (fun c10 => ?_) (fun c10 => ?_)
  · exact absurd c10 (by omega)
  · refine lv_aload_n hx hb dX0_bellAt_13 rfl (lv_at hl 0 rfl) ?_
    refine x_get (v := .ref r) (C := RX0) (T := TX0) (N := 2) hx hb hts (by decide +kernel) hown hK hC.1 rfl 0 (by decide) (hts (.fieldLink RX0 9 "BellRanks$Change" "row" "[I") (by decide +kernel)) (fun _ h9 => h9) rfl dX0_bellAt_14 ?_
    refine lv_iload_n hx hb dX0_bellAt_17 rfl (lv_at hl 1 rfl) ?_
    refine x_iald hx hb hK hC.2 (by omega) (by decide) dX0_bellAt_18 ?_
    refine lv_goto (tgt := 23) hx hb dX0_bellAt_19 (by decide) ?_
    exact x_iret hx hb hr hlocks rfl rfl dX0_bellAt_23

set_option maxRecDepth 100000 in
set_option maxHeartbeats 4000000 in
theorem cX0_lesserBehind_ (l : Launch) (D : va_G) (cI cC : ClassId) (o r n : Nat) (f : Nat → Nat) (hn : n ≤ 8) (hf : ∀ i, f i < 100) (j : Nat) (hj : j < n) : Met l yX0_lesserBehind wsX0_lesserBehind (xRm 1 0 0) (va_Pc [.ref o, .int (nI j)] (xB D cI cC (xCh D cI o r n f))) (vp_Si (fun x => x = nI (lss f n j))) 0 0 (fun _ => False) := by
  refine Met.ofW (cc := cX0_lesserBehind) (maxL := 4) (ret := (some .int)) (by decide) rfl ?_
  intro p e s m args below meth c s₁ B hml hv
  obtain ⟨rfl, hP, hK⟩ := hv
  have hx := B.exec
  have hb := B.bytes
  have hr := B.returns
  have hts := atoms_spec (ws := wsX0_lesserBehind) B.pre
  have hown : s.vm.findClass RX0 = some m.cls := findClass_of_methodNamed B.named
  have hlocks := B.notSynchronized
  have hC := hP
  have hl := lv_entry ([.ref o, .int (nI j)]) (n := 4) (Nat.le_of_ble_eq_true rfl)
  rw [lg_entry_eq]
  generalize (lg_sl ([.ref o, .int (nI j)]) ++ List.replicate (4 - (lg_sl ([.ref o, .int (nI j)])).length) Slot.unset).toArray = ls at hl ⊢
  have hl : lv_has ls 4 [(0, .ref o), (1, .int (nI j))] := hl
  refine xn_iconst (v := 0) hx hb dX0_lesserBehind_0 (by decide) ?_
  refine lv_istore_n (lv' := [(2, .int (nI 0)), (0, .ref o), (1, .int (nI j))]) hx hb dX0_lesserBehind_1 rfl hl (by decide) rfl (fun ls hl => ?_)
  refine lv_iload_n hx hb dX0_lesserBehind_2 rfl (lv_at hl 2 rfl) ?_
  refine xn_iconst (v := 1) hx hb dX0_lesserBehind_3 (by decide) ?_
  refine xn_iadd hx hb dX0_lesserBehind_4 ?_
  refine lv_istore_n (lv' := [(3, .int (nI (j + 1))), (2, .int (nI 0)), (0, .ref o), (1, .int (nI j))]) hx hb dX0_lesserBehind_5 rfl hl (by decide) rfl (fun ls hl => ?_)
  refine x_loop (σ := Nat × Nat) (fun a => n - a.2) (fun a ls => (j < a.2) ∧ (a.2 ≤ n) ∧ (a.1 = sm (lsf f j) a.2) ∧ lv_has ls 4 [(0, .ref o), (1, .int (nI j)), (2, .int (nI a.1)), (3, .int (nI a.2))]) ?_ (0, j + 1) ls ⟨(by dsimp only; omega), (by dsimp only; omega), (sm_zero fun q hq => lsf_le (by dsimp only at hq; omega)).symm, lv_sub hl [2, 3, 1, 0] rfl⟩
  rintro ⟨L, i⟩ ls ⟨h1, h2, h3, hl⟩ ih6
  dsimp only at h1 h2 h3 hl
  refine lv_iload_n hx hb dX0_lesserBehind_6 rfl (lv_at hl 3 rfl) ?_
  refine lv_aload_n hx hb dX0_lesserBehind_7 rfl (lv_at hl 0 rfl) ?_
  refine x_get (v := .int (nI n)) (C := RX0) (T := TX0) (N := 2) hx hb hts (by decide +kernel) hown hK hC.1 rfl 1 (by decide) (hts (.fieldLink RX0 15 "BellRanks$Change" "size" "I") (by decide +kernel)) (fun _ h9 => h9) rfl dX0_lesserBehind_8 ?_
  refine xn_icmp_ge (tgt := 36) hx hb dX0_lesserBehind_11 (by decide) (by omega) (by omega) (fun c11 => ?_) (fun c11 => ?_)
  · refine lv_iload_n hx hb dX0_lesserBehind_36 rfl (lv_at hl 2 rfl) ?_
    exact x_iret hx hb hr hlocks rfl (by rw [h3, show i = n by omega]; rfl) dX0_lesserBehind_37
  · refine lv_aload_n hx hb dX0_lesserBehind_14 rfl (lv_at hl 0 rfl) ?_
    refine lv_iload_n hx hb dX0_lesserBehind_15 rfl (lv_at hl 3 rfl) ?_
    refine xcV (As := [.int (nI i)]) (rest := []) ⟨hx, hb, hml, hown, hts⟩ (cX0_bellAt_ l D cI cC o r n f i (by omega)) (cwV 1 hts gX0_lesserBehind_X0_bellAt rfl rfl rfl (by decide +kernel) ⟨Nat.le_of_ble_eq_true rfl, Nat.le_of_ble_eq_true rfl⟩) hK hC (xRecv hK rfl hC.1) rfl hl.1 rfl (Nat.le_of_ble_eq_true rfl) dX0_lesserBehind_16 ⟨Nat.zero_le _, Nat.zero_le _⟩ (fun x16 e16 => ?_)
    subst e16
    refine lv_aload_n hx hb dX0_lesserBehind_19 rfl (lv_at hl 0 rfl) ?_
    refine lv_iload_n hx hb dX0_lesserBehind_20 rfl (lv_at hl 1 rfl) ?_
    refine xcV (As := [.int (nI j)]) (rest := [.int (nI (f i))]) ⟨hx, hb, hml, hown, hts⟩ (cX0_bellAt_ l D cI cC o r n f j (by omega)) (cwV 1 hts gX0_lesserBehind_X0_bellAt rfl rfl rfl (by decide +kernel) ⟨Nat.le_of_ble_eq_true rfl, Nat.le_of_ble_eq_true rfl⟩) hK hC (xRecv hK rfl hC.1) rfl hl.1 rfl (Nat.le_of_ble_eq_true rfl) dX0_lesserBehind_21 ⟨Nat.zero_le _, Nat.zero_le _⟩ (fun x21 e21 => ?_)
    subst e21
    refine xn_icmp_ge (tgt := 30) hx hb dX0_lesserBehind_24 (by decide) (Nat.lt_trans (hf i) (by decide)) (Nat.lt_trans (hf j) (by decide)) (fun c24 => ?_) (fun c24 => ?_)
    · refine xn_iinc (v := i + 1) (lv' := [(3, .int (nI (i + 1))), (0, .ref o), (1, .int (nI j)), (2, .int (nI L))]) hx hb dX0_lesserBehind_30 hl (k := 3) rfl (xinc1 _) (by decide) rfl (fun ls hl => ?_)
      refine lv_goto (tgt := 6) hx hb dX0_lesserBehind_33 (by decide) ?_
      exact ih6 (L, i + 1) ls ⟨(by dsimp only; omega), (by dsimp only; omega), (by dsimp only; rw [sm_succ, ← h3, lsf0 c24] <;> rfl), lv_sub hl [1, 2, 3, 0] rfl⟩ (by dsimp only; omega)
    · refine xn_iinc (v := L + 1) (lv' := [(2, .int (nI (L + 1))), (0, .ref o), (1, .int (nI j)), (3, .int (nI i))]) hx hb dX0_lesserBehind_27 hl (k := 2) rfl (xinc1 _) (by decide) rfl (fun ls hl => ?_)
      refine xn_iinc (v := i + 1) (lv' := [(3, .int (nI (i + 1))), (2, .int (nI (L + 1))), (0, .ref o), (1, .int (nI j))]) hx hb dX0_lesserBehind_30 hl (k := 3) rfl (xinc1 _) (by decide) rfl (fun ls hl => ?_)
      refine lv_goto (tgt := 6) hx hb dX0_lesserBehind_33 (by decide) ?_
      exact ih6 (L + 1, i + 1) ls ⟨(by dsimp only; omega), (by dsimp only; omega), (by dsimp only; rw [sm_succ, ← h3, lsf1 h1 c24] <;> rfl), lv_sub hl [2, 3, 1, 0] rfl⟩ (by dsimp only; omega)

set_option maxRecDepth 100000 in
set_option maxHeartbeats 4000000 in
theorem cX0_rank_ (l : Launch) (D : va_G) (cI cC : ClassId) (o r n : Nat) (f : Nat → Nat) (hn : n ≤ 8) (hf : ∀ i, f i < 100) : Met l yX0_rank wsX0_rank (xRm 2 0 0) (va_Pc [.ref o] (xB D cI cC (xCh D cI o r n f))) (vp_Si (fun x => x = nI (hrk f n n))) 0 0 (fun _ => False) := by
  refine Met.ofW (cc := cX0_rank) (maxL := 3) (ret := (some .int)) (by decide) rfl ?_
  intro p e s m args below meth c s₁ B hml hv
  obtain ⟨rfl, hP, hK⟩ := hv
  have hx := B.exec
  have hb := B.bytes
  have hr := B.returns
  have hts := atoms_spec (ws := wsX0_rank) B.pre
  have hown : s.vm.findClass RX0 = some m.cls := findClass_of_methodNamed B.named
  have hlocks := B.notSynchronized
  have hC := hP
  have hl := lv_entry ([.ref o]) (n := 3) (Nat.le_of_ble_eq_true rfl)
  rw [lg_entry_eq]
  generalize (lg_sl ([.ref o]) ++ List.replicate (3 - (lg_sl ([.ref o])).length) Slot.unset).toArray = ls at hl ⊢
  have hl : lv_has ls 3 [(0, .ref o)] := hl
  refine xn_iconst (v := 0) hx hb dX0_rank_0 (by decide) ?_
  refine lv_istore_n (lv' := [(1, .int (nI 0)), (0, .ref o)]) hx hb dX0_rank_1 rfl hl (by decide) rfl (fun ls hl => ?_)
  refine xn_iconst (v := 0) hx hb dX0_rank_2 (by decide) ?_
  refine lv_istore_n (lv' := [(2, .int (nI 0)), (1, .int (nI 0)), (0, .ref o)]) hx hb dX0_rank_3 rfl hl (by decide) rfl (fun ls hl => ?_)
  refine x_loop (σ := Nat × Nat) (fun a => n - a.2) (fun a ls => (a.2 ≤ n) ∧ (a.1 = hrk f n a.2) ∧ lv_has ls 3 [(0, .ref o), (1, .int (nI a.1)), (2, .int (nI a.2))]) ?_ (0, 0) ls ⟨(Nat.zero_le _), rfl, lv_sub hl [2, 1, 0] rfl⟩
  rintro ⟨L, i⟩ ls ⟨h2, h3, hl⟩ ih4
  dsimp only at h2 h3 hl
  refine lv_iload_n hx hb dX0_rank_4 rfl (lv_at hl 2 rfl) ?_
  refine lv_aload_n hx hb dX0_rank_5 rfl (lv_at hl 0 rfl) ?_
  refine x_get (v := .int (nI n)) (C := RX0) (T := TX0) (N := 2) hx hb hts (by decide +kernel) hown hK hC.1 rfl 1 (by decide) (hts (.fieldLink RX0 15 "BellRanks$Change" "size" "I") (by decide +kernel)) (fun _ h9 => h9) rfl dX0_rank_6 ?_
  refine xn_icmp_ge (tgt := 33) hx hb dX0_rank_9 (by decide) (by omega) (by omega) (fun c9 => ?_) (fun c9 => ?_)
  · refine lv_iload_n hx hb dX0_rank_33 rfl (lv_at hl 1 rfl) ?_
    exact x_iret hx hb hr hlocks rfl (by rw [h3, show i = n by omega]) dX0_rank_34
  · refine lv_iload_n hx hb dX0_rank_12 rfl (lv_at hl 1 rfl) ?_
    refine lv_aload_n hx hb dX0_rank_13 rfl (lv_at hl 0 rfl) ?_
    refine x_get (v := .int (nI n)) (C := RX0) (T := TX0) (N := 2) hx hb hts (by decide +kernel) hown hK hC.1 rfl 1 (by decide) (hts (.fieldLink RX0 15 "BellRanks$Change" "size" "I") (by decide +kernel)) (fun _ h9 => h9) rfl dX0_rank_14 ?_
    refine lv_iload_n hx hb dX0_rank_17 rfl (lv_at hl 2 rfl) ?_
    refine xn_isub hx hb (by omega) dX0_rank_18 ?_
    refine xn_imul hx hb dX0_rank_19 ?_
    refine lv_aload_n hx hb dX0_rank_20 rfl (lv_at hl 0 rfl) ?_
    refine lv_iload_n hx hb dX0_rank_21 rfl (lv_at hl 2 rfl) ?_
    refine xcV (As := [.int (nI i)]) (rest := [.int (nI (L * (n - i)))]) ⟨hx, hb, hml, hown, hts⟩ (cX0_lesserBehind_ l D cI cC o r n f hn hf i (by omega)) (cwV 1 hts gX0_rank_X0_lesserBehind rfl rfl rfl (by decide +kernel) ⟨Nat.le_of_ble_eq_true rfl, Nat.le_of_ble_eq_true rfl⟩) hK hC (xRecv hK rfl hC.1) rfl hl.1 rfl (Nat.le_of_ble_eq_true rfl) dX0_rank_22 ⟨Nat.zero_le _, Nat.zero_le _⟩ (fun x22 e22 => ?_)
    subst e22
    refine xn_iadd hx hb dX0_rank_25 ?_
    refine lv_istore_n (lv' := [(1, .int (nI ((L * (n - i)) + (lss f n i)))), (0, .ref o), (2, .int (nI i))]) hx hb dX0_rank_26 rfl hl (by decide) rfl (fun ls hl => ?_)
    refine xn_iinc (v := i + 1) (lv' := [(2, .int (nI (i + 1))), (1, .int (nI ((L * (n - i)) + (lss f n i)))), (0, .ref o)]) hx hb dX0_rank_27 hl (k := 2) rfl (xinc1 _) (by decide) rfl (fun ls hl => ?_)
    refine lv_goto (tgt := 4) hx hb dX0_rank_30 (by decide) ?_
    exact ih4 ((L * (n - i)) + (lss f n i), i + 1) ls ⟨(by dsimp only; omega), (by dsimp only; rw [h3]; rfl), lv_sub hl [2, 1, 0] rfl⟩ (by dsimp only; omega)

set_option maxRecDepth 100000 in
set_option maxHeartbeats 4000000 in
theorem cX0_inversions_ (l : Launch) (D : va_G) (cI cC : ClassId) (o r n : Nat) (f : Nat → Nat) (hn : n ≤ 8) (hf : ∀ i, f i < 100) : Met l yX0_inversions wsX0_inversions (xRm 2 0 0) (va_Pc [.ref o] (xB D cI cC (xCh D cI o r n f))) (vp_Si (fun x => x = nI (ivs f n))) 0 0 (fun _ => False) := by
  refine Met.ofW (cc := cX0_inversions) (maxL := 3) (ret := (some .int)) (by decide) rfl ?_
  intro p e s m args below meth c s₁ B hml hv
  obtain ⟨rfl, hP, hK⟩ := hv
  have hx := B.exec
  have hb := B.bytes
  have hr := B.returns
  have hts := atoms_spec (ws := wsX0_inversions) B.pre
  have hown : s.vm.findClass RX0 = some m.cls := findClass_of_methodNamed B.named
  have hlocks := B.notSynchronized
  have hC := hP
  have hl := lv_entry ([.ref o]) (n := 3) (Nat.le_of_ble_eq_true rfl)
  rw [lg_entry_eq]
  generalize (lg_sl ([.ref o]) ++ List.replicate (3 - (lg_sl ([.ref o])).length) Slot.unset).toArray = ls at hl ⊢
  have hl : lv_has ls 3 [(0, .ref o)] := hl
  refine xn_iconst (v := 0) hx hb dX0_inversions_0 (by decide) ?_
  refine lv_istore_n (lv' := [(1, .int (nI 0)), (0, .ref o)]) hx hb dX0_inversions_1 rfl hl (by decide) rfl (fun ls hl => ?_)
  refine xn_iconst (v := 0) hx hb dX0_inversions_2 (by decide) ?_
  refine lv_istore_n (lv' := [(2, .int (nI 0)), (1, .int (nI 0)), (0, .ref o)]) hx hb dX0_inversions_3 rfl hl (by decide) rfl (fun ls hl => ?_)
  refine x_loop (σ := Nat × Nat) (fun a => n - a.2) (fun a ls => (a.2 ≤ n) ∧ (a.1 = sm (lss f n) a.2) ∧ lv_has ls 3 [(0, .ref o), (1, .int (nI a.1)), (2, .int (nI a.2))]) ?_ (0, 0) ls ⟨(Nat.zero_le _), rfl, lv_sub hl [2, 1, 0] rfl⟩
  rintro ⟨L, i⟩ ls ⟨h2, h3, hl⟩ ih4
  dsimp only at h2 h3 hl
  refine lv_iload_n hx hb dX0_inversions_4 rfl (lv_at hl 2 rfl) ?_
  refine lv_aload_n hx hb dX0_inversions_5 rfl (lv_at hl 0 rfl) ?_
  refine x_get (v := .int (nI n)) (C := RX0) (T := TX0) (N := 2) hx hb hts (by decide +kernel) hown hK hC.1 rfl 1 (by decide) (hts (.fieldLink RX0 15 "BellRanks$Change" "size" "I") (by decide +kernel)) (fun _ h9 => h9) rfl dX0_inversions_6 ?_
  refine xn_icmp_ge (tgt := 26) hx hb dX0_inversions_9 (by decide) (by omega) (by omega) (fun c9 => ?_) (fun c9 => ?_)
  · refine lv_iload_n hx hb dX0_inversions_26 rfl (lv_at hl 1 rfl) ?_
    exact x_iret hx hb hr hlocks rfl (by rw [h3, show i = n by omega]; rfl) dX0_inversions_27
  · refine lv_iload_n hx hb dX0_inversions_12 rfl (lv_at hl 1 rfl) ?_
    refine lv_aload_n hx hb dX0_inversions_13 rfl (lv_at hl 0 rfl) ?_
    refine lv_iload_n hx hb dX0_inversions_14 rfl (lv_at hl 2 rfl) ?_
    refine xcV (As := [.int (nI i)]) (rest := [.int (nI L)]) ⟨hx, hb, hml, hown, hts⟩ (cX0_lesserBehind_ l D cI cC o r n f hn hf i (by omega)) (cwV 1 hts gX0_inversions_X0_lesserBehind rfl rfl rfl (by decide +kernel) ⟨Nat.le_of_ble_eq_true rfl, Nat.le_of_ble_eq_true rfl⟩) hK hC (xRecv hK rfl hC.1) rfl hl.1 rfl (Nat.le_of_ble_eq_true rfl) dX0_inversions_15 ⟨Nat.zero_le _, Nat.zero_le _⟩ (fun x15 e15 => ?_)
    subst e15
    refine xn_iadd hx hb dX0_inversions_18 ?_
    refine lv_istore_n (lv' := [(1, .int (nI (L + (lss f n i)))), (0, .ref o), (2, .int (nI i))]) hx hb dX0_inversions_19 rfl hl (by decide) rfl (fun ls hl => ?_)
    refine xn_iinc (v := i + 1) (lv' := [(2, .int (nI (i + 1))), (1, .int (nI (L + (lss f n i)))), (0, .ref o)]) hx hb dX0_inversions_20 hl (k := 2) rfl (xinc1 _) (by decide) rfl (fun ls hl => ?_)
    refine lv_goto (tgt := 4) hx hb dX0_inversions_23 (by decide) ?_
    exact ih4 (L + (lss f n i), i + 1) ls ⟨(by dsimp only; omega), (by dsimp only; rw [h3]; rfl), lv_sub hl [2, 1, 0] rfl⟩ (by dsimp only; omega)

set_option maxRecDepth 100000 in
set_option maxHeartbeats 4000000 in
theorem cX0_placeOf_ (l : Launch) (D : va_G) (cI cC : ClassId) (o r n : Nat) (f : Nat → Nat) (hn : n ≤ 8) (hf : ∀ i, f i < 100) (v : Nat) (hv : v < 100) : Met l yX0_placeOf wsX0_placeOf (xRm 1 0 0) (va_Pc [.ref o, .int (nI v)] (xB D cI cC (xCh D cI o r n f))) (vp_Si (fun x => x = nI (pos f n v))) 0 0 (fun _ => False) := by
  refine Met.ofW (cc := cX0_placeOf) (maxL := 3) (ret := (some .int)) (by decide) rfl ?_
  intro p e s m args below meth c s₁ B hml hv
  obtain ⟨rfl, hP, hK⟩ := hv
  have hx := B.exec
  have hb := B.bytes
  have hr := B.returns
  have hts := atoms_spec (ws := wsX0_placeOf) B.pre
  have hown : s.vm.findClass RX0 = some m.cls := findClass_of_methodNamed B.named
  have hlocks := B.notSynchronized
  have hC := hP
  have hl := lv_entry ([.ref o, .int (nI v)]) (n := 3) (Nat.le_of_ble_eq_true rfl)
  rw [lg_entry_eq]
  generalize (lg_sl ([.ref o, .int (nI v)]) ++ List.replicate (3 - (lg_sl ([.ref o, .int (nI v)])).length) Slot.unset).toArray = ls at hl ⊢
  have hl : lv_has ls 3 [(0, .ref o), (1, .int (nI v))] := hl
  refine xn_iconst (v := 0) hx hb dX0_placeOf_0 (by decide) ?_
  refine lv_istore_n (lv' := [(2, .int (nI 0)), (0, .ref o), (1, .int (nI v))]) hx hb dX0_placeOf_1 rfl hl (by decide) rfl (fun ls hl => ?_)
  refine x_loop (σ := Nat) (fun a => n - a) (fun a ls => (a ≤ n) ∧ (∀ q, q < a → (f q == v) = false) ∧ lv_has ls 3 [(0, .ref o), (1, .int (nI v)), (2, .int (nI a))]) ?_ 0 ls ⟨(Nat.zero_le _), (fun q h => absurd h (Nat.not_lt_zero _)), lv_sub hl [1, 2, 0] rfl⟩
  rintro i ls ⟨h2, h3, hl⟩ ih2
  
  refine lv_iload_n hx hb dX0_placeOf_2 rfl (lv_at hl 2 rfl) ?_
  refine lv_aload_n hx hb dX0_placeOf_3 rfl (lv_at hl 0 rfl) ?_
  refine x_get (v := .int (nI n)) (C := RX0) (T := TX0) (N := 2) hx hb hts (by decide +kernel) hown hK hC.1 rfl 1 (by decide) (hts (.fieldLink RX0 15 "BellRanks$Change" "size" "I") (by decide +kernel)) (fun _ h9 => h9) rfl dX0_placeOf_4 ?_
  refine xn_icmp_ge (tgt := 25) hx hb dX0_placeOf_7 (by decide) (by omega) (by omega) (fun c7 => ?_) (fun c7 => ?_)
  · refine lv_iload_n hx hb dX0_placeOf_25 rfl (lv_at hl 2 rfl) ?_
    exact x_iret hx hb hr hlocks rfl (congrArg nI (fnd_eq h2 h3 (fun z => absurd z (by omega))).symm) dX0_placeOf_26
  · refine lv_aload_n hx hb dX0_placeOf_10 rfl (lv_at hl 0 rfl) ?_
    refine lv_iload_n hx hb dX0_placeOf_11 rfl (lv_at hl 2 rfl) ?_
    refine xcV (As := [.int (nI i)]) (rest := []) ⟨hx, hb, hml, hown, hts⟩ (cX0_bellAt_ l D cI cC o r n f i (by omega)) (cwV 1 hts gX0_placeOf_X0_bellAt rfl rfl rfl (by decide +kernel) ⟨Nat.le_of_ble_eq_true rfl, Nat.le_of_ble_eq_true rfl⟩) hK hC (xRecv hK rfl hC.1) rfl hl.1 rfl (Nat.le_of_ble_eq_true rfl) dX0_placeOf_12 ⟨Nat.zero_le _, Nat.zero_le _⟩ (fun x12 e12 => ?_)
    subst e12
    refine lv_iload_n hx hb dX0_placeOf_15 rfl (lv_at hl 1 rfl) ?_
    refine xn_icmp_eq (tgt := 25) hx hb dX0_placeOf_16 (by decide) (Nat.lt_trans (hf i) (by decide)) (by omega) (fun c16 => ?_) (fun c16 => ?_)
    · refine lv_iload_n hx hb dX0_placeOf_25 rfl (lv_at hl 2 rfl) ?_
      exact x_iret hx hb hr hlocks rfl (congrArg nI (fnd_eq h2 h3 (fun _ => by simpa using c16)).symm) dX0_placeOf_26
    · refine xn_iinc (v := i + 1) (lv' := [(2, .int (nI (i + 1))), (0, .ref o), (1, .int (nI v))]) hx hb dX0_placeOf_19 hl (k := 2) rfl (xinc1 _) (by decide) rfl (fun ls hl => ?_)
      refine lv_goto (tgt := 2) hx hb dX0_placeOf_22 (by decide) ?_
      exact ih2 (i + 1) ls ⟨(by omega), (fun q hq => by
            by_cases h9 : q = i
            · subst h9; simpa using c16
            · exact h3 q (by omega)), lv_sub hl [1, 2, 0] rfl⟩ (by omega)

set_option maxRecDepth 100000 in
set_option maxHeartbeats 4000000 in
theorem cX0_isSame_ (l : Launch) (D : va_G) (cI cC : ClassId) (o r n : Nat) (f : Nat → Nat) (o2 r2 n2 : Nat) (f2 : Nat → Nat) (hn : n ≤ 8) (hf : ∀ i, f i < 100) (hf2 : ∀ i, f2 i < 100) : Met l yX0_isSame wsX0_isSame (xRm 1 0 0) (va_Pc [.ref o, .ref o2] (xB D cI cC (fun H => xCh D cI o r n f H ∧ xCh D cI o2 r2 n2 f2 H))) (vp_Si (fun x => (x = nI 1 ∧ ∀ q, q < n → f q = f2 q) ∨ (x = nI 0 ∧ ∃ q, q < n ∧ f q ≠ f2 q))) 0 0 (fun _ => False) := by
  refine Met.ofW (cc := cX0_isSame) (maxL := 3) (ret := (some .boolean)) (by decide) rfl ?_
  intro p e s m args below meth c s₁ B hml hv
  obtain ⟨rfl, hP, hK⟩ := hv
  have hx := B.exec
  have hb := B.bytes
  have hr := B.returns
  have hts := atoms_spec (ws := wsX0_isSame) B.pre
  have hown : s.vm.findClass RX0 = some m.cls := findClass_of_methodNamed B.named
  have hlocks := B.notSynchronized
  obtain ⟨hC, hC2⟩ := hP
  have hl := lv_entry ([.ref o, .ref o2]) (n := 3) (Nat.le_of_ble_eq_true rfl)
  rw [lg_entry_eq]
  generalize (lg_sl ([.ref o, .ref o2]) ++ List.replicate (3 - (lg_sl ([.ref o, .ref o2])).length) Slot.unset).toArray = ls at hl ⊢
  have hl : lv_has ls 3 [(0, .ref o), (1, .ref o2)] := hl
  refine xn_iconst (v := 0) hx hb dX0_isSame_0 (by decide) ?_
  refine lv_istore_n (lv' := [(2, .int (nI 0)), (0, .ref o), (1, .ref o2)]) hx hb dX0_isSame_1 rfl hl (by decide) rfl (fun ls hl => ?_)
  refine x_loop (σ := Nat) (fun a => n - a) (fun a ls => (a ≤ n) ∧ (∀ q, q < a → f q = f2 q) ∧ lv_has ls 3 [(0, .ref o), (1, .ref o2), (2, .int (nI a))]) ?_ 0 ls ⟨(Nat.zero_le _), (fun q h => absurd h (Nat.not_lt_zero _)), lv_sub hl [1, 2, 0] rfl⟩
  rintro i ls ⟨h2, h3, hl⟩ ih2
  
  refine lv_iload_n hx hb dX0_isSame_2 rfl (lv_at hl 2 rfl) ?_
  refine lv_aload_n hx hb dX0_isSame_3 rfl (lv_at hl 0 rfl) ?_
  refine x_get (v := .int (nI n)) (C := RX0) (T := TX0) (N := 2) hx hb hts (by decide +kernel) hown hK hC.1 rfl 1 (by decide) (hts (.fieldLink RX0 15 "BellRanks$Change" "size" "I") (by decide +kernel)) (fun _ h9 => h9) rfl dX0_isSame_4 ?_
  refine xn_icmp_ge (tgt := 31) hx hb dX0_isSame_7 (by decide) (by omega) (by omega) (fun c7 => ?_) (fun c7 => ?_)
  · refine xn_iconst (v := 1) hx hb dX0_isSame_31 (by decide) ?_
    exact x_zret hx hb hr hlocks rfl (by decide) (Or.inl ⟨rfl, fun q hq => h3 q (by omega)⟩) dX0_isSame_32
  · refine lv_aload_n hx hb dX0_isSame_10 rfl (lv_at hl 0 rfl) ?_
    refine lv_iload_n hx hb dX0_isSame_11 rfl (lv_at hl 2 rfl) ?_
    refine xcV (As := [.int (nI i)]) (rest := []) ⟨hx, hb, hml, hown, hts⟩ (cX0_bellAt_ l D cI cC o r n f i (by omega)) (cwV 1 hts gX0_isSame_X0_bellAt rfl rfl rfl (by decide +kernel) ⟨Nat.le_of_ble_eq_true rfl, Nat.le_of_ble_eq_true rfl⟩) hK hC (xRecv hK rfl hC.1) rfl hl.1 rfl (Nat.le_of_ble_eq_true rfl) dX0_isSame_12 ⟨Nat.zero_le _, Nat.zero_le _⟩ (fun x12 e12 => ?_)
    subst e12
    refine lv_aload_n hx hb dX0_isSame_15 rfl (lv_at hl 1 rfl) ?_
    refine lv_iload_n hx hb dX0_isSame_16 rfl (lv_at hl 2 rfl) ?_
    refine xcV (As := [.int (nI i)]) (rest := [.int (nI (f i))]) ⟨hx, hb, hml, hown, hts⟩ (cX0_bellAt_ l D cI cC o2 r2 n2 f2 i (by omega)) (cwV 1 hts gX0_isSame_X0_bellAt rfl rfl rfl (by decide +kernel) ⟨Nat.le_of_ble_eq_true rfl, Nat.le_of_ble_eq_true rfl⟩) hK hC2 (xRecv hK rfl hC2.1) rfl hl.1 rfl (Nat.le_of_ble_eq_true rfl) dX0_isSame_17 ⟨Nat.zero_le _, Nat.zero_le _⟩ (fun x17 e17 => ?_)
    subst e17
    refine xn_icmp_eq (tgt := 25) hx hb dX0_isSame_20 (by decide) (Nat.lt_trans (hf i) (by decide)) (Nat.lt_trans (hf2 i) (by decide)) (fun c20 => ?_) (fun c20 => ?_)
    · refine xn_iinc (v := i + 1) (lv' := [(2, .int (nI (i + 1))), (0, .ref o), (1, .ref o2)]) hx hb dX0_isSame_25 hl (k := 2) rfl (xinc1 _) (by decide) rfl (fun ls hl => ?_)
      refine lv_goto (tgt := 2) hx hb dX0_isSame_28 (by decide) ?_
      exact ih2 (i + 1) ls ⟨(by omega), (fun q hq => by
            by_cases h9 : q = i
            · subst h9; exact c20
            · exact h3 q (by omega)), lv_sub hl [1, 2, 0] rfl⟩ (by omega)
    · refine xn_iconst (v := 0) hx hb dX0_isSame_23 (by decide) ?_
      exact x_zret hx hb hr hlocks rfl (by decide) (Or.inr ⟨rfl, i, by omega, c20⟩) dX0_isSame_24

set_option maxRecDepth 100000 in
set_option maxHeartbeats 4000000 in
theorem cX0_ringLength_ (l : Launch) (D : va_G) (cI cC : ClassId) (o r n : Nat) (f : Nat → Nat) (hn : n ≤ 8) (hf : ∀ i, f i < 8) (j : Nat) (hj : j < n) : Met l yX0_ringLength wsX0_ringLength (xRm 1 0 0) (va_Pc [.ref o, .int (nI j)] (xB D cI cC (xCh D cI o r n f))) (vp_Si (fun x => x = nI (per f n j))) 0 0 (fun _ => False) := by
  refine Met.ofW (cc := cX0_ringLength) (maxL := 4) (ret := (some .int)) (by decide) rfl ?_
  intro p e s m args below meth c s₁ B hml hv
  obtain ⟨rfl, hP, hK⟩ := hv
  have hx := B.exec
  have hb := B.bytes
  have hr := B.returns
  have hts := atoms_spec (ws := wsX0_ringLength) B.pre
  have hown : s.vm.findClass RX0 = some m.cls := findClass_of_methodNamed B.named
  have hlocks := B.notSynchronized
  have hC := hP
  have hl := lv_entry ([.ref o, .int (nI j)]) (n := 4) (Nat.le_of_ble_eq_true rfl)
  rw [lg_entry_eq]
  generalize (lg_sl ([.ref o, .int (nI j)]) ++ List.replicate (4 - (lg_sl ([.ref o, .int (nI j)])).length) Slot.unset).toArray = ls at hl ⊢
  have hl : lv_has ls 4 [(0, .ref o), (1, .int (nI j))] := hl
  refine xn_iconst (v := 1) hx hb dX0_ringLength_0 (by decide) ?_
  refine lv_istore_n (lv' := [(2, .int (nI 1)), (0, .ref o), (1, .int (nI j))]) hx hb dX0_ringLength_1 rfl hl (by decide) rfl (fun ls hl => ?_)
  refine lv_aload_n hx hb dX0_ringLength_2 rfl (lv_at hl 1 rfl) ?_
  refine lv_iload_n hx hb dX0_ringLength_3 rfl (lv_at hl 2 rfl) ?_
  refine xcV (As := [.int (nI j)]) (rest := []) ⟨hx, hb, hml, hown, hts⟩ (cX0_bellAt_ l D cI cC o r n f j (by omega)) (cwV 1 hts gX0_ringLength_X0_bellAt rfl rfl rfl (by decide +kernel) ⟨Nat.le_of_ble_eq_true rfl, Nat.le_of_ble_eq_true rfl⟩) hK hC (xRecv hK rfl hC.1) rfl hl.1 rfl (Nat.le_of_ble_eq_true rfl) dX0_ringLength_4 ⟨Nat.zero_le _, Nat.zero_le _⟩ (fun x4 e4 => ?_)
  subst e4
  refine lv_istore_n (lv' := [(3, .int (nI (f j))), (2, .int (nI 1)), (0, .ref o), (1, .int (nI j))]) hx hb dX0_ringLength_7 rfl hl (by decide) rfl (fun ls hl => ?_)
  refine x_loop (σ := Nat × Nat) (fun a => n - a.1) (fun a ls => (1 ≤ a.1) ∧ (a.1 ≤ n) ∧ (a.2 = it f a.1 j) ∧ (∀ q9, q9 < a.1 - 1 → (it f (q9 + 1) j == j) = false) ∧ lv_has ls 4 [(0, .ref o), (1, .int (nI j)), (2, .int (nI a.1)), (3, .int (nI a.2))]) ?_ (1, f j) ls ⟨(Nat.le_refl _), (by dsimp only; omega), rfl, (fun q h => absurd h (by omega)), lv_sub hl [2, 3, 1, 0] rfl⟩
  rintro ⟨k, q⟩ ls ⟨h1, h2, h3, h4, hl⟩ ih8
  dsimp only at h1 h2 h3 h4 hl
  subst h3
  refine lv_iload_n hx hb dX0_ringLength_8 rfl (lv_at hl 3 rfl) ?_
  refine lv_iload_n hx hb dX0_ringLength_9 rfl (lv_at hl 1 rfl) ?_
  refine xn_icmp_eq (tgt := 33) hx hb dX0_ringLength_10 (by decide) (Nat.lt_trans (it_lt hf (by omega) _) (by decide)) (by omega) (fun c10 => ?_) (fun c10 => ?_)
  · refine lv_iload_n hx hb dX0_ringLength_33 rfl (lv_at hl 2 rfl) ?_
    exact x_iret hx hb hr hlocks rfl (congrArg nI (by unfold per; rw [fnd_eq (k := k - 1) (by omega) h4 (fun _ => by rw [Nat.sub_add_cancel h1]; simpa using c10)]; omega)) dX0_ringLength_34
  · refine lv_iload_n hx hb dX0_ringLength_13 rfl (lv_at hl 2 rfl) ?_
    refine lv_aload_n hx hb dX0_ringLength_14 rfl (lv_at hl 0 rfl) ?_
    refine x_get (v := .int (nI n)) (C := RX0) (T := TX0) (N := 2) hx hb hts (by decide +kernel) hown hK hC.1 rfl 1 (by decide) (hts (.fieldLink RX0 15 "BellRanks$Change" "size" "I") (by decide +kernel)) (fun _ h9 => h9) rfl dX0_ringLength_15 ?_
    refine xn_icmp_ge (tgt := 33) hx hb dX0_ringLength_18 (by decide) (by omega) (by omega) (fun c18 => ?_) (fun c18 => ?_)
    · refine lv_iload_n hx hb dX0_ringLength_33 rfl (lv_at hl 2 rfl) ?_
      exact x_iret hx hb hr hlocks rfl (congrArg nI (by unfold per; rw [fnd_eq (k := k - 1) (by omega) h4 (fun z => absurd z (by omega))]; omega)) dX0_ringLength_34
    · refine lv_aload_n hx hb dX0_ringLength_21 rfl (lv_at hl 0 rfl) ?_
      refine lv_iload_n hx hb dX0_ringLength_22 rfl (lv_at hl 3 rfl) ?_
      refine xcV (As := [.int (nI (it f k j))]) (rest := []) ⟨hx, hb, hml, hown, hts⟩ (cX0_bellAt_ l D cI cC o r n f (it f k j) (it_lt hf (by omega) _)) (cwV 1 hts gX0_ringLength_X0_bellAt rfl rfl rfl (by decide +kernel) ⟨Nat.le_of_ble_eq_true rfl, Nat.le_of_ble_eq_true rfl⟩) hK hC (xRecv hK rfl hC.1) rfl hl.1 rfl (Nat.le_of_ble_eq_true rfl) dX0_ringLength_23 ⟨Nat.zero_le _, Nat.zero_le _⟩ (fun x23 e23 => ?_)
      subst e23
      refine lv_istore_n (lv' := [(3, .int (nI (f (it f k j)))), (0, .ref o), (1, .int (nI j)), (2, .int (nI k))]) hx hb dX0_ringLength_26 rfl hl (by decide) rfl (fun ls hl => ?_)
      refine xn_iinc (v := k + 1) (lv' := [(2, .int (nI (k + 1))), (3, .int (nI (f (it f k j)))), (0, .ref o), (1, .int (nI j))]) hx hb dX0_ringLength_27 hl (k := 3) rfl (xinc1 _) (by decide) rfl (fun ls hl => ?_)
      refine lv_goto (tgt := 8) hx hb dX0_ringLength_30 (by decide) ?_
      exact ih8 (k + 1, f (it f k j)) ls ⟨(by dsimp only; omega), (by dsimp only; omega), (by dsimp only; rfl), (fun q hq => by
            dsimp only at hq
            by_cases h9 : q + 1 = k
            · rw [h9]; simpa using c10
            · exact h4 q (by omega)), lv_sub hl [2, 3, 0, 1] rfl⟩ (by dsimp only; omega)

set_option maxRecDepth 100000 in
set_option maxHeartbeats 4000000 in
theorem cX0_isLeastOfRing_ (l : Launch) (D : va_G) (cI cC : ClassId) (o r n : Nat) (f : Nat → Nat) (hn : n ≤ 8) (hf : ∀ i, f i < 8) (j : Nat) (hj : j < n) : Met l yX0_isLeastOfRing wsX0_isLeastOfRing (xRm 1 0 0) (va_Pc [.ref o, .int (nI j)] (xB D cI cC (xCh D cI o r n f))) (vp_Si (fun x => x = nI (lst f n j))) 0 0 (fun _ => False) := by
  refine Met.ofW (cc := cX0_isLeastOfRing) (maxL := 4) (ret := (some .boolean)) (by decide) rfl ?_
  intro p e s m args below meth c s₁ B hml hv
  obtain ⟨rfl, hP, hK⟩ := hv
  have hx := B.exec
  have hb := B.bytes
  have hr := B.returns
  have hts := atoms_spec (ws := wsX0_isLeastOfRing) B.pre
  have hown : s.vm.findClass RX0 = some m.cls := findClass_of_methodNamed B.named
  have hlocks := B.notSynchronized
  have hC := hP
  have hl := lv_entry ([.ref o, .int (nI j)]) (n := 4) (Nat.le_of_ble_eq_true rfl)
  rw [lg_entry_eq]
  generalize (lg_sl ([.ref o, .int (nI j)]) ++ List.replicate (4 - (lg_sl ([.ref o, .int (nI j)])).length) Slot.unset).toArray = ls at hl ⊢
  have hl : lv_has ls 4 [(0, .ref o), (1, .int (nI j))] := hl
  refine lv_aload_n hx hb dX0_isLeastOfRing_0 rfl (lv_at hl 0 rfl) ?_
  refine lv_iload_n hx hb dX0_isLeastOfRing_1 rfl (lv_at hl 1 rfl) ?_
  refine xcV (As := [.int (nI j)]) (rest := []) ⟨hx, hb, hml, hown, hts⟩ (cX0_bellAt_ l D cI cC o r n f j (by omega)) (cwV 1 hts gX0_isLeastOfRing_X0_bellAt rfl rfl rfl (by decide +kernel) ⟨Nat.le_of_ble_eq_true rfl, Nat.le_of_ble_eq_true rfl⟩) hK hC (xRecv hK rfl hC.1) rfl hl.1 rfl (Nat.le_of_ble_eq_true rfl) dX0_isLeastOfRing_2 ⟨Nat.zero_le _, Nat.zero_le _⟩ (fun x2 e2 => ?_)
  subst e2
  refine lv_istore_n (lv' := [(2, .int (nI (f j))), (0, .ref o), (1, .int (nI j))]) hx hb dX0_isLeastOfRing_5 rfl hl (by decide) rfl (fun ls hl => ?_)
  refine xn_iconst (v := 0) hx hb dX0_isLeastOfRing_6 (by decide) ?_
  refine lv_istore_n (lv' := [(3, .int (nI 0)), (2, .int (nI (f j))), (0, .ref o), (1, .int (nI j))]) hx hb dX0_isLeastOfRing_7 rfl hl (by decide) rfl (fun ls hl => ?_)
  refine x_loop (σ := Nat × Nat) (fun a => n - a.2) (fun a ls => (a.2 ≤ n) ∧ (a.1 = it f (a.2 + 1) j) ∧ (∀ q9, q9 < a.2 → (decide (it f (q9 + 1) j ≤ j)) = false) ∧ lv_has ls 4 [(0, .ref o), (1, .int (nI j)), (2, .int (nI a.1)), (3, .int (nI a.2))]) ?_ (f j, 0) ls ⟨(Nat.zero_le _), rfl, (fun q h => absurd h (Nat.not_lt_zero _)), lv_sub hl [2, 3, 1, 0] rfl⟩
  rintro ⟨q, k⟩ ls ⟨h2, h3, h4, hl⟩ ih8
  dsimp only at h2 h3 h4 hl
  subst h3
  refine lv_iload_n hx hb dX0_isLeastOfRing_8 rfl (lv_at hl 3 rfl) ?_
  refine lv_aload_n hx hb dX0_isLeastOfRing_9 rfl (lv_at hl 0 rfl) ?_
  refine x_get (v := .int (nI n)) (C := RX0) (T := TX0) (N := 2) hx hb hts (by decide +kernel) hown hK hC.1 rfl 1 (by decide) (hts (.fieldLink RX0 15 "BellRanks$Change" "size" "I") (by decide +kernel)) (fun _ h9 => h9) rfl dX0_isLeastOfRing_10 ?_
  refine xn_icmp_ge (tgt := 33) hx hb dX0_isLeastOfRing_13 (by decide) (by omega) (by omega) (fun c13 => ?_) (fun c13 => ?_)
  · have h5 := fnd_eq (P := fun i => decide (it f (i + 1) j ≤ j)) (n := n) (k := k) h2 h4 (fun z => absurd z (by omega))
    refine lv_iload_n hx hb dX0_isLeastOfRing_33 rfl (lv_at hl 2 rfl) ?_
    refine lv_iload_n hx hb dX0_isLeastOfRing_34 rfl (lv_at hl 1 rfl) ?_
    refine xn_icmp_ne (tgt := 42) hx hb dX0_isLeastOfRing_35 (by decide) (Nat.lt_trans (it_lt hf (by omega) _) (by decide)) (by omega) (fun c35 => ?_) (fun c35 => ?_)
    · refine xn_iconst (v := 0) hx hb dX0_isLeastOfRing_42 (by decide) ?_
      exact x_zret hx hb hr hlocks rfl (by decide) (congrArg nI (by unfold lst; rw [h5, if_neg c35])) dX0_isLeastOfRing_43
    · refine xn_iconst (v := 1) hx hb dX0_isLeastOfRing_38 (by decide) ?_
      refine lv_goto (tgt := 43) hx hb dX0_isLeastOfRing_39 (by decide) ?_
      exact x_zret hx hb hr hlocks rfl (by decide) (congrArg nI (by unfold lst; rw [h5, if_pos c35])) dX0_isLeastOfRing_43
  · refine lv_iload_n hx hb dX0_isLeastOfRing_16 rfl (lv_at hl 2 rfl) ?_
    refine lv_iload_n hx hb dX0_isLeastOfRing_17 rfl (lv_at hl 1 rfl) ?_
    refine xn_icmp_le (tgt := 33) hx hb dX0_isLeastOfRing_18 (by decide) (Nat.lt_trans (it_lt hf (by omega) _) (by decide)) (by omega) (fun c18 => ?_) (fun c18 => ?_)
    · have h5 := fnd_eq (P := fun i => decide (it f (i + 1) j ≤ j)) (n := n) (k := k) h2 h4 (fun _ => by simpa using c18)
      refine lv_iload_n hx hb dX0_isLeastOfRing_33 rfl (lv_at hl 2 rfl) ?_
      refine lv_iload_n hx hb dX0_isLeastOfRing_34 rfl (lv_at hl 1 rfl) ?_
      refine xn_icmp_ne (tgt := 42) hx hb dX0_isLeastOfRing_35 (by decide) (Nat.lt_trans (it_lt hf (by omega) _) (by decide)) (by omega) (fun c35 => ?_) (fun c35 => ?_)
      · refine xn_iconst (v := 0) hx hb dX0_isLeastOfRing_42 (by decide) ?_
        exact x_zret hx hb hr hlocks rfl (by decide) (congrArg nI (by unfold lst; rw [h5, if_neg c35])) dX0_isLeastOfRing_43
      · refine xn_iconst (v := 1) hx hb dX0_isLeastOfRing_38 (by decide) ?_
        refine lv_goto (tgt := 43) hx hb dX0_isLeastOfRing_39 (by decide) ?_
        exact x_zret hx hb hr hlocks rfl (by decide) (congrArg nI (by unfold lst; rw [h5, if_pos c35])) dX0_isLeastOfRing_43
    · refine lv_aload_n hx hb dX0_isLeastOfRing_21 rfl (lv_at hl 0 rfl) ?_
      refine lv_iload_n hx hb dX0_isLeastOfRing_22 rfl (lv_at hl 2 rfl) ?_
      refine xcV (As := [.int (nI (it f (k + 1) j))]) (rest := []) ⟨hx, hb, hml, hown, hts⟩ (cX0_bellAt_ l D cI cC o r n f (it f (k + 1) j) (it_lt hf (by omega) _)) (cwV 1 hts gX0_isLeastOfRing_X0_bellAt rfl rfl rfl (by decide +kernel) ⟨Nat.le_of_ble_eq_true rfl, Nat.le_of_ble_eq_true rfl⟩) hK hC (xRecv hK rfl hC.1) rfl hl.1 rfl (Nat.le_of_ble_eq_true rfl) dX0_isLeastOfRing_23 ⟨Nat.zero_le _, Nat.zero_le _⟩ (fun x23 e23 => ?_)
      subst e23
      refine lv_istore_n (lv' := [(2, .int (nI (f (it f (k + 1) j)))), (0, .ref o), (1, .int (nI j)), (3, .int (nI k))]) hx hb dX0_isLeastOfRing_26 rfl hl (by decide) rfl (fun ls hl => ?_)
      refine xn_iinc (v := k + 1) (lv' := [(3, .int (nI (k + 1))), (2, .int (nI (f (it f (k + 1) j)))), (0, .ref o), (1, .int (nI j))]) hx hb dX0_isLeastOfRing_27 hl (k := 3) rfl (xinc1 _) (by decide) rfl (fun ls hl => ?_)
      refine lv_goto (tgt := 8) hx hb dX0_isLeastOfRing_30 (by decide) ?_
      exact ih8 (f (it f (k + 1) j), k + 1) ls ⟨(by dsimp only; omega), (by dsimp only; rfl), (fun q hq => by
            dsimp only at hq
            by_cases h9 : q = k
            · rw [h9]; simpa using c18
            · exact h4 q (by omega)), lv_sub hl [2, 3, 1, 0] rfl⟩ (by dsimp only; omega)

set_option maxRecDepth 100000 in
set_option maxHeartbeats 4000000 in
theorem cX0_ringCount_ (l : Launch) (D : va_G) (cI cC : ClassId) (o r n : Nat) (f : Nat → Nat) (hn : n ≤ 8) (hf : ∀ i, f i < 8) : Met l yX0_ringCount wsX0_ringCount (xRm 2 0 0) (va_Pc [.ref o] (xB D cI cC (xCh D cI o r n f))) (vp_Si (fun x => x = nI (sm (lst f n) n))) 0 0 (fun _ => False) := by
  refine Met.ofW (cc := cX0_ringCount) (maxL := 3) (ret := (some .int)) (by decide) rfl ?_
  intro p e s m args below meth c s₁ B hml hv
  obtain ⟨rfl, hP, hK⟩ := hv
  have hx := B.exec
  have hb := B.bytes
  have hr := B.returns
  have hts := atoms_spec (ws := wsX0_ringCount) B.pre
  have hown : s.vm.findClass RX0 = some m.cls := findClass_of_methodNamed B.named
  have hlocks := B.notSynchronized
  have hC := hP
  have hl := lv_entry ([.ref o]) (n := 3) (Nat.le_of_ble_eq_true rfl)
  rw [lg_entry_eq]
  generalize (lg_sl ([.ref o]) ++ List.replicate (3 - (lg_sl ([.ref o])).length) Slot.unset).toArray = ls at hl ⊢
  have hl : lv_has ls 3 [(0, .ref o)] := hl
  refine xn_iconst (v := 0) hx hb dX0_ringCount_0 (by decide) ?_
  refine lv_istore_n (lv' := [(1, .int (nI 0)), (0, .ref o)]) hx hb dX0_ringCount_1 rfl hl (by decide) rfl (fun ls hl => ?_)
  refine xn_iconst (v := 0) hx hb dX0_ringCount_2 (by decide) ?_
  refine lv_istore_n (lv' := [(2, .int (nI 0)), (1, .int (nI 0)), (0, .ref o)]) hx hb dX0_ringCount_3 rfl hl (by decide) rfl (fun ls hl => ?_)
  refine x_loop (σ := Nat × Nat) (fun a => n - a.2) (fun a ls => (a.2 ≤ n) ∧ (a.1 = sm (lst f n) a.2) ∧ lv_has ls 3 [(0, .ref o), (1, .int (nI a.1)), (2, .int (nI a.2))]) ?_ (0, 0) ls ⟨(Nat.zero_le _), rfl, lv_sub hl [2, 1, 0] rfl⟩
  rintro ⟨L, i⟩ ls ⟨h2, h3, hl⟩ ih4
  dsimp only at h2 h3 hl
  refine lv_iload_n hx hb dX0_ringCount_4 rfl (lv_at hl 2 rfl) ?_
  refine lv_aload_n hx hb dX0_ringCount_5 rfl (lv_at hl 0 rfl) ?_
  refine x_get (v := .int (nI n)) (C := RX0) (T := TX0) (N := 2) hx hb hts (by decide +kernel) hown hK hC.1 rfl 1 (by decide) (hts (.fieldLink RX0 15 "BellRanks$Change" "size" "I") (by decide +kernel)) (fun _ h9 => h9) rfl dX0_ringCount_6 ?_
  refine xn_icmp_ge (tgt := 29) hx hb dX0_ringCount_9 (by decide) (by omega) (by omega) (fun c9 => ?_) (fun c9 => ?_)
  · refine lv_iload_n hx hb dX0_ringCount_29 rfl (lv_at hl 1 rfl) ?_
    exact x_iret hx hb hr hlocks rfl (by rw [h3, show i = n by omega]) dX0_ringCount_30
  · refine lv_aload_n hx hb dX0_ringCount_12 rfl (lv_at hl 0 rfl) ?_
    refine lv_iload_n hx hb dX0_ringCount_13 rfl (lv_at hl 2 rfl) ?_
    refine xcV (As := [.int (nI i)]) (rest := []) ⟨hx, hb, hml, hown, hts⟩ (cX0_isLeastOfRing_ l D cI cC o r n f hn hf i (by omega)) (cwV 1 hts gX0_ringCount_X0_isLeastOfRing rfl rfl rfl (by decide +kernel) ⟨Nat.le_of_ble_eq_true rfl, Nat.le_of_ble_eq_true rfl⟩) hK hC (xRecv hK rfl hC.1) rfl hl.1 rfl (Nat.le_of_ble_eq_true rfl) dX0_ringCount_14 ⟨Nat.zero_le _, Nat.zero_le _⟩ (fun x14 e14 => ?_)
    subst e14
    refine xn_if_eq (tgt := 23) hx hb dX0_ringCount_17 (by decide) (by have := lst_le f n i; omega) (fun c17 => ?_) (fun c17 => ?_)
    · refine xn_iinc (v := i + 1) (lv' := [(2, .int (nI (i + 1))), (0, .ref o), (1, .int (nI L))]) hx hb dX0_ringCount_23 hl (k := 2) rfl (xinc1 _) (by decide) rfl (fun ls hl => ?_)
      refine lv_goto (tgt := 4) hx hb dX0_ringCount_26 (by decide) ?_
      exact ih4 (L, i + 1) ls ⟨(by dsimp only; omega), (by dsimp only; rw [sm_succ, h3, c17] <;> rfl), lv_sub hl [1, 2, 0] rfl⟩ (by dsimp only; omega)
    · have c17 : lst f n i = 1 := by have := lst_le f n i; omega
      refine xn_iinc (v := L + 1) (lv' := [(1, .int (nI (L + 1))), (0, .ref o), (2, .int (nI i))]) hx hb dX0_ringCount_20 hl (k := 1) rfl (xinc1 _) (by decide) rfl (fun ls hl => ?_)
      refine xn_iinc (v := i + 1) (lv' := [(2, .int (nI (i + 1))), (1, .int (nI (L + 1))), (0, .ref o)]) hx hb dX0_ringCount_23 hl (k := 2) rfl (xinc1 _) (by decide) rfl (fun ls hl => ?_)
      refine lv_goto (tgt := 4) hx hb dX0_ringCount_26 (by decide) ?_
      exact ih4 (L + 1, i + 1) ls ⟨(by dsimp only; omega), (by dsimp only; rw [sm_succ, h3, c17] <;> rfl), lv_sub hl [2, 1, 0] rfl⟩ (by dsimp only; omega)

set_option maxRecDepth 100000 in
set_option maxHeartbeats 4000000 in
theorem cX0_ownPlaces_ (l : Launch) (D : va_G) (cI cC : ClassId) (o r n : Nat) (f : Nat → Nat) (hn : n ≤ 8) (hf : ∀ i, f i < 100) : Met l yX0_ownPlaces wsX0_ownPlaces (xRm 1 0 0) (va_Pc [.ref o] (xB D cI cC (xCh D cI o r n f))) (vp_Si (fun x => x = nI (sm (own f) n))) 0 0 (fun _ => False) := by
  refine Met.ofW (cc := cX0_ownPlaces) (maxL := 3) (ret := (some .int)) (by decide) rfl ?_
  intro p e s m args below meth c s₁ B hml hv
  obtain ⟨rfl, hP, hK⟩ := hv
  have hx := B.exec
  have hb := B.bytes
  have hr := B.returns
  have hts := atoms_spec (ws := wsX0_ownPlaces) B.pre
  have hown : s.vm.findClass RX0 = some m.cls := findClass_of_methodNamed B.named
  have hlocks := B.notSynchronized
  have hC := hP
  have hl := lv_entry ([.ref o]) (n := 3) (Nat.le_of_ble_eq_true rfl)
  rw [lg_entry_eq]
  generalize (lg_sl ([.ref o]) ++ List.replicate (3 - (lg_sl ([.ref o])).length) Slot.unset).toArray = ls at hl ⊢
  have hl : lv_has ls 3 [(0, .ref o)] := hl
  refine xn_iconst (v := 0) hx hb dX0_ownPlaces_0 (by decide) ?_
  refine lv_istore_n (lv' := [(1, .int (nI 0)), (0, .ref o)]) hx hb dX0_ownPlaces_1 rfl hl (by decide) rfl (fun ls hl => ?_)
  refine xn_iconst (v := 0) hx hb dX0_ownPlaces_2 (by decide) ?_
  refine lv_istore_n (lv' := [(2, .int (nI 0)), (1, .int (nI 0)), (0, .ref o)]) hx hb dX0_ownPlaces_3 rfl hl (by decide) rfl (fun ls hl => ?_)
  refine x_loop (σ := Nat × Nat) (fun a => n - a.2) (fun a ls => (a.2 ≤ n) ∧ (a.1 = sm (own f) a.2) ∧ lv_has ls 3 [(0, .ref o), (1, .int (nI a.1)), (2, .int (nI a.2))]) ?_ (0, 0) ls ⟨(Nat.zero_le _), rfl, lv_sub hl [2, 1, 0] rfl⟩
  rintro ⟨L, i⟩ ls ⟨h2, h3, hl⟩ ih4
  dsimp only at h2 h3 hl
  refine lv_iload_n hx hb dX0_ownPlaces_4 rfl (lv_at hl 2 rfl) ?_
  refine lv_aload_n hx hb dX0_ownPlaces_5 rfl (lv_at hl 0 rfl) ?_
  refine x_get (v := .int (nI n)) (C := RX0) (T := TX0) (N := 2) hx hb hts (by decide +kernel) hown hK hC.1 rfl 1 (by decide) (hts (.fieldLink RX0 15 "BellRanks$Change" "size" "I") (by decide +kernel)) (fun _ h9 => h9) rfl dX0_ownPlaces_6 ?_
  refine xn_icmp_ge (tgt := 30) hx hb dX0_ownPlaces_9 (by decide) (by omega) (by omega) (fun c9 => ?_) (fun c9 => ?_)
  · refine lv_iload_n hx hb dX0_ownPlaces_30 rfl (lv_at hl 1 rfl) ?_
    exact x_iret hx hb hr hlocks rfl (by rw [h3, show i = n by omega]) dX0_ownPlaces_31
  · refine lv_aload_n hx hb dX0_ownPlaces_12 rfl (lv_at hl 0 rfl) ?_
    refine lv_iload_n hx hb dX0_ownPlaces_13 rfl (lv_at hl 2 rfl) ?_
    refine xcV (As := [.int (nI i)]) (rest := []) ⟨hx, hb, hml, hown, hts⟩ (cX0_bellAt_ l D cI cC o r n f i (by omega)) (cwV 1 hts gX0_ownPlaces_X0_bellAt rfl rfl rfl (by decide +kernel) ⟨Nat.le_of_ble_eq_true rfl, Nat.le_of_ble_eq_true rfl⟩) hK hC (xRecv hK rfl hC.1) rfl hl.1 rfl (Nat.le_of_ble_eq_true rfl) dX0_ownPlaces_14 ⟨Nat.zero_le _, Nat.zero_le _⟩ (fun x14 e14 => ?_)
    subst e14
    refine lv_iload_n hx hb dX0_ownPlaces_17 rfl (lv_at hl 2 rfl) ?_
    refine xn_icmp_ne (tgt := 24) hx hb dX0_ownPlaces_18 (by decide) (Nat.lt_trans (hf i) (by decide)) (by omega) (fun c18 => ?_) (fun c18 => ?_)
    · refine xn_iinc (v := i + 1) (lv' := [(2, .int (nI (i + 1))), (0, .ref o), (1, .int (nI L))]) hx hb dX0_ownPlaces_24 hl (k := 2) rfl (xinc1 _) (by decide) rfl (fun ls hl => ?_)
      refine lv_goto (tgt := 4) hx hb dX0_ownPlaces_27 (by decide) ?_
      exact ih4 (L, i + 1) ls ⟨(by dsimp only; omega), (by dsimp only; rw [sm_succ, h3]; unfold own; rw [if_neg c18] <;> rfl), lv_sub hl [1, 2, 0] rfl⟩ (by dsimp only; omega)
    · refine xn_iinc (v := L + 1) (lv' := [(1, .int (nI (L + 1))), (0, .ref o), (2, .int (nI i))]) hx hb dX0_ownPlaces_21 hl (k := 1) rfl (xinc1 _) (by decide) rfl (fun ls hl => ?_)
      refine xn_iinc (v := i + 1) (lv' := [(2, .int (nI (i + 1))), (1, .int (nI (L + 1))), (0, .ref o)]) hx hb dX0_ownPlaces_24 hl (k := 2) rfl (xinc1 _) (by decide) rfl (fun ls hl => ?_)
      refine lv_goto (tgt := 4) hx hb dX0_ownPlaces_27 (by decide) ?_
      exact ih4 (L + 1, i + 1) ls ⟨(by dsimp only; omega), (by dsimp only; rw [sm_succ, h3]; unfold own; rw [if_pos c18] <;> rfl), lv_sub hl [2, 1, 0] rfl⟩ (by dsimp only; omega)

set_option maxRecDepth 100000 in
set_option maxHeartbeats 4000000 in
theorem cX0_leastMultiple_ (l : Launch) (D : va_G) (cI cC : ClassId) (u v : Nat) (hu : u < 10000) (hv : 1 ≤ v) (hv8 : v ≤ 8) : Met l yX0_leastMultiple wsX0_leastMultiple (xRm 0 0 0) (va_Pc [.int (nI u), .int (nI v)] (xB D cI cC (fun _ => True))) (vp_Si (fun x => x = nI (lmu u v))) 0 0 (fun _ => False) := by
  refine Met.ofW (cc := cX0_leastMultiple) (maxL := 4) (ret := (some .int)) (by decide) rfl ?_
  intro p e s m args below meth c s₁ B hml hv
  obtain ⟨rfl, hP, hK⟩ := hv
  have hx := B.exec
  have hb := B.bytes
  have hr := B.returns
  have hts := atoms_spec (ws := wsX0_leastMultiple) B.pre
  have hown : s.vm.findClass RX0 = some m.cls := findClass_of_methodNamed B.named
  have hlocks := B.notSynchronized
  have hl := lv_entry ([.int (nI u), .int (nI v)]) (n := 4) (Nat.le_of_ble_eq_true rfl)
  rw [lg_entry_eq]
  generalize (lg_sl ([.int (nI u), .int (nI v)]) ++ List.replicate (4 - (lg_sl ([.int (nI u), .int (nI v)])).length) Slot.unset).toArray = ls at hl ⊢
  have hl : lv_has ls 4 [(0, .int (nI u)), (1, .int (nI v))] := hl
  refine lv_iload_n hx hb dX0_leastMultiple_0 rfl (lv_at hl 0 rfl) ?_
  refine lv_istore_n (lv' := [(2, .int (nI u)), (0, .int (nI u)), (1, .int (nI v))]) hx hb dX0_leastMultiple_1 rfl hl (by decide) rfl (fun ls hl => ?_)
  refine xn_iconst (v := 1) hx hb dX0_leastMultiple_2 (by decide) ?_
  refine lv_istore_n (lv' := [(3, .int (nI 1)), (2, .int (nI u)), (0, .int (nI u)), (1, .int (nI v))]) hx hb dX0_leastMultiple_3 rfl hl (by decide) rfl (fun ls hl => ?_)
  refine x_loop (σ := Nat × Nat) (fun a => v - a.2) (fun a ls => (1 ≤ a.2) ∧ (a.2 ≤ v) ∧ (a.1 = u * a.2) ∧ (∀ q, q < a.2 - 1 → (u * (q + 1) % v == 0) = false) ∧ lv_has ls 4 [(0, .int (nI u)), (1, .int (nI v)), (2, .int (nI a.1)), (3, .int (nI a.2))]) ?_ (u, 1) ls ⟨(Nat.le_refl _), (by dsimp only; omega), (Nat.mul_one u).symm, (fun q h => absurd h (by omega)), lv_sub hl [2, 3, 1, 0] rfl⟩
  rintro ⟨w, k⟩ ls ⟨h1, h2, h3, h4, hl⟩ ih4
  dsimp only at h1 h2 h3 h4 hl
  have hw : w < 100000 := by rw [h3]; exact Nat.lt_of_le_of_lt (Nat.mul_le_mul (Nat.le_of_lt hu) (Nat.le_trans h2 hv8)) (by decide)
  refine lv_iload_n hx hb dX0_leastMultiple_4 rfl (lv_at hl 3 rfl) ?_
  refine lv_iload_n hx hb dX0_leastMultiple_5 rfl (lv_at hl 1 rfl) ?_
  refine xn_icmp_ge (tgt := 25) hx hb dX0_leastMultiple_6 (by decide) (by omega) (by omega) (fun c6 => ?_) (fun c6 => ?_)
  · refine lv_iload_n hx hb dX0_leastMultiple_25 rfl (lv_at hl 2 rfl) ?_
    exact x_iret hx hb hr hlocks rfl (congrArg nI (by unfold lmu; rw [fnd_eq (k := k - 1) (by omega) h4 (fun z => absurd z (by omega)), Nat.sub_add_cancel h1, h3])) dX0_leastMultiple_26
  · refine lv_iload_n hx hb dX0_leastMultiple_9 rfl (lv_at hl 2 rfl) ?_
    refine lv_iload_n hx hb dX0_leastMultiple_10 rfl (lv_at hl 1 rfl) ?_
    refine xn_irem hx hb (by omega) (by omega) (by omega) dX0_leastMultiple_11 ?_
    refine xn_if_eq (tgt := 25) hx hb dX0_leastMultiple_12 (by decide) (Nat.lt_trans (Nat.mod_lt _ (by omega)) (by omega)) (fun c12 => ?_) (fun c12 => ?_)
    · refine lv_iload_n hx hb dX0_leastMultiple_25 rfl (lv_at hl 2 rfl) ?_
      exact x_iret hx hb hr hlocks rfl (congrArg nI (by unfold lmu; rw [fnd_eq (k := k - 1) (by omega) h4 (fun _ => by rw [Nat.sub_add_cancel h1, ← h3]; simpa using c12), Nat.sub_add_cancel h1, h3])) dX0_leastMultiple_26
    · refine lv_iload_n hx hb dX0_leastMultiple_15 rfl (lv_at hl 2 rfl) ?_
      refine lv_iload_n hx hb dX0_leastMultiple_16 rfl (lv_at hl 0 rfl) ?_
      refine xn_iadd hx hb dX0_leastMultiple_17 ?_
      refine lv_istore_n (lv' := [(2, .int (nI (w + u))), (0, .int (nI u)), (1, .int (nI v)), (3, .int (nI k))]) hx hb dX0_leastMultiple_18 rfl hl (by decide) rfl (fun ls hl => ?_)
      refine xn_iinc (v := k + 1) (lv' := [(3, .int (nI (k + 1))), (2, .int (nI (w + u))), (0, .int (nI u)), (1, .int (nI v))]) hx hb dX0_leastMultiple_19 hl (k := 3) rfl (xinc1 _) (by decide) rfl (fun ls hl => ?_)
      refine lv_goto (tgt := 4) hx hb dX0_leastMultiple_22 (by decide) ?_
      exact ih4 (w + u, k + 1) ls ⟨(by dsimp only; omega), (by dsimp only; omega), (by dsimp only; rw [h3, Nat.mul_succ]), (fun q hq => by
            dsimp only at hq
            by_cases h9 : q + 1 = k
            · rw [h9, ← h3]; simpa using Nat.pos_iff_ne_zero.mp c12
            · exact h4 q (by omega)), lv_sub hl [2, 3, 1, 0] rfl⟩ (by dsimp only; omega)

set_option maxRecDepth 100000 in
set_option maxHeartbeats 4000000 in
theorem cX0_order_ (l : Launch) (D : va_G) (cI cC : ClassId) (o r n : Nat) (f : Nat → Nat) (hn : n ≤ 8) (hf : ∀ i, f i < 8) (hord : ∀ i, i ≤ n → ord f n i < 10000) : Met l yX0_order wsX0_order (xRm 2 0 0) (va_Pc [.ref o] (xB D cI cC (xCh D cI o r n f))) (vp_Si (fun x => x = nI (ord f n n))) 0 0 (fun _ => False) := by
  refine Met.ofW (cc := cX0_order) (maxL := 3) (ret := (some .int)) (by decide) rfl ?_
  intro p e s m args below meth c s₁ B hml hv
  obtain ⟨rfl, hP, hK⟩ := hv
  have hx := B.exec
  have hb := B.bytes
  have hr := B.returns
  have hts := atoms_spec (ws := wsX0_order) B.pre
  have hown : s.vm.findClass RX0 = some m.cls := findClass_of_methodNamed B.named
  have hlocks := B.notSynchronized
  have hC := hP
  have hl := lv_entry ([.ref o]) (n := 3) (Nat.le_of_ble_eq_true rfl)
  rw [lg_entry_eq]
  generalize (lg_sl ([.ref o]) ++ List.replicate (3 - (lg_sl ([.ref o])).length) Slot.unset).toArray = ls at hl ⊢
  have hl : lv_has ls 3 [(0, .ref o)] := hl
  refine xn_iconst (v := 1) hx hb dX0_order_0 (by decide) ?_
  refine lv_istore_n (lv' := [(1, .int (nI 1)), (0, .ref o)]) hx hb dX0_order_1 rfl hl (by decide) rfl (fun ls hl => ?_)
  refine xn_iconst (v := 0) hx hb dX0_order_2 (by decide) ?_
  refine lv_istore_n (lv' := [(2, .int (nI 0)), (1, .int (nI 1)), (0, .ref o)]) hx hb dX0_order_3 rfl hl (by decide) rfl (fun ls hl => ?_)
  refine x_loop (σ := Nat × Nat) (fun a => n - a.2) (fun a ls => (a.2 ≤ n) ∧ (a.1 = ord f n a.2) ∧ lv_has ls 3 [(0, .ref o), (1, .int (nI a.1)), (2, .int (nI a.2))]) ?_ (1, 0) ls ⟨(Nat.zero_le _), rfl, lv_sub hl [2, 1, 0] rfl⟩
  rintro ⟨L, i⟩ ls ⟨h2, h3, hl⟩ ih4
  dsimp only at h2 h3 hl
  have hL : L < 10000 := by rw [h3]; exact hord i h2
  refine lv_iload_n hx hb dX0_order_4 rfl (lv_at hl 2 rfl) ?_
  refine lv_aload_n hx hb dX0_order_5 rfl (lv_at hl 0 rfl) ?_
  refine x_get (v := .int (nI n)) (C := RX0) (T := TX0) (N := 2) hx hb hts (by decide +kernel) hown hK hC.1 rfl 1 (by decide) (hts (.fieldLink RX0 15 "BellRanks$Change" "size" "I") (by decide +kernel)) (fun _ h9 => h9) rfl dX0_order_6 ?_
  refine xn_icmp_ge (tgt := 28) hx hb dX0_order_9 (by decide) (by omega) (by omega) (fun c9 => ?_) (fun c9 => ?_)
  · refine lv_iload_n hx hb dX0_order_28 rfl (lv_at hl 1 rfl) ?_
    exact x_iret hx hb hr hlocks rfl (by rw [h3, show i = n by omega]) dX0_order_29
  · refine lv_iload_n hx hb dX0_order_12 rfl (lv_at hl 1 rfl) ?_
    refine lv_aload_n hx hb dX0_order_13 rfl (lv_at hl 0 rfl) ?_
    refine lv_iload_n hx hb dX0_order_14 rfl (lv_at hl 2 rfl) ?_
    refine xcV (As := [.int (nI i)]) (rest := [.int (nI L)]) ⟨hx, hb, hml, hown, hts⟩ (cX0_ringLength_ l D cI cC o r n f hn hf i (by omega)) (cwV 1 hts gX0_order_X0_ringLength rfl rfl rfl (by decide +kernel) ⟨Nat.le_of_ble_eq_true rfl, Nat.le_of_ble_eq_true rfl⟩) hK hC (xRecv hK rfl hC.1) rfl hl.1 rfl (Nat.le_of_ble_eq_true rfl) dX0_order_15 ⟨Nat.zero_le _, Nat.zero_le _⟩ (fun x15 e15 => ?_)
    subst e15
    refine xcS (As := [.int (nI L), .int (nI (per f n i))]) (rest := []) ⟨hx, hb, hml, hown, hts⟩ (cX0_leastMultiple_ l D cI cC L (per f n i) (by omega) (per_1 _ _ _) (Nat.le_trans (per_le (by omega) _) hn)) (va_cwS 2 hts gX0_order_X0_leastMultiple rfl rfl rfl (by decide +kernel) ⟨Nat.le_of_ble_eq_true rfl, Nat.le_of_ble_eq_true rfl⟩) hK trivial rfl hl.1 rfl (Nat.le_of_ble_eq_true rfl) dX0_order_18 ⟨Nat.zero_le _, Nat.zero_le _⟩ (fun x18 e18 => ?_)
    subst e18
    refine lv_istore_n (lv' := [(1, .int (nI (lmu L (per f n i)))), (0, .ref o), (2, .int (nI i))]) hx hb dX0_order_21 rfl hl (by decide) rfl (fun ls hl => ?_)
    refine xn_iinc (v := i + 1) (lv' := [(2, .int (nI (i + 1))), (1, .int (nI (lmu L (per f n i)))), (0, .ref o)]) hx hb dX0_order_22 hl (k := 2) rfl (xinc1 _) (by decide) rfl (fun ls hl => ?_)
    refine lv_goto (tgt := 4) hx hb dX0_order_25 (by decide) ?_
    exact ih4 (lmu L (per f n i), i + 1) ls ⟨(by dsimp only; omega), (by dsimp only; rw [h3]; rfl), lv_sub hl [2, 1, 0] rfl⟩ (by dsimp only; omega)

set_option maxRecDepth 100000 in
set_option maxHeartbeats 4000000 in
theorem cX0_longestRing_ (l : Launch) (D : va_G) (cI cC : ClassId) (o r n : Nat) (f : Nat → Nat) (hn : n ≤ 8) (hf : ∀ i, f i < 8) : Met l yX0_longestRing wsX0_longestRing (xRm 2 0 0) (va_Pc [.ref o] (xB D cI cC (xCh D cI o r n f))) (vp_Si (fun x => x = nI (mxr f n n))) 0 0 (fun _ => False) := by
  refine Met.ofW (cc := cX0_longestRing) (maxL := 3) (ret := (some .int)) (by decide) rfl ?_
  intro p e s m args below meth c s₁ B hml hv
  obtain ⟨rfl, hP, hK⟩ := hv
  have hx := B.exec
  have hb := B.bytes
  have hr := B.returns
  have hts := atoms_spec (ws := wsX0_longestRing) B.pre
  have hown : s.vm.findClass RX0 = some m.cls := findClass_of_methodNamed B.named
  have hlocks := B.notSynchronized
  have hC := hP
  have hl := lv_entry ([.ref o]) (n := 3) (Nat.le_of_ble_eq_true rfl)
  rw [lg_entry_eq]
  generalize (lg_sl ([.ref o]) ++ List.replicate (3 - (lg_sl ([.ref o])).length) Slot.unset).toArray = ls at hl ⊢
  have hl : lv_has ls 3 [(0, .ref o)] := hl
  refine xn_iconst (v := 0) hx hb dX0_longestRing_0 (by decide) ?_
  refine lv_istore_n (lv' := [(1, .int (nI 0)), (0, .ref o)]) hx hb dX0_longestRing_1 rfl hl (by decide) rfl (fun ls hl => ?_)
  refine xn_iconst (v := 0) hx hb dX0_longestRing_2 (by decide) ?_
  refine lv_istore_n (lv' := [(2, .int (nI 0)), (1, .int (nI 0)), (0, .ref o)]) hx hb dX0_longestRing_3 rfl hl (by decide) rfl (fun ls hl => ?_)
  refine x_loop (σ := Nat × Nat) (fun a => n - a.2) (fun a ls => (a.2 ≤ n) ∧ (a.1 = mxr f n a.2) ∧ lv_has ls 3 [(0, .ref o), (1, .int (nI a.1)), (2, .int (nI a.2))]) ?_ (0, 0) ls ⟨(Nat.zero_le _), rfl, lv_sub hl [2, 1, 0] rfl⟩
  rintro ⟨L, i⟩ ls ⟨h2, h3, hl⟩ ih4
  dsimp only at h2 h3 hl
  refine lv_iload_n hx hb dX0_longestRing_4 rfl (lv_at hl 2 rfl) ?_
  refine lv_aload_n hx hb dX0_longestRing_5 rfl (lv_at hl 0 rfl) ?_
  refine x_get (v := .int (nI n)) (C := RX0) (T := TX0) (N := 2) hx hb hts (by decide +kernel) hown hK hC.1 rfl 1 (by decide) (hts (.fieldLink RX0 15 "BellRanks$Change" "size" "I") (by decide +kernel)) (fun _ h9 => h9) rfl dX0_longestRing_6 ?_
  refine xn_icmp_ge (tgt := 28) hx hb dX0_longestRing_9 (by decide) (by omega) (by omega) (fun c9 => ?_) (fun c9 => ?_)
  · refine lv_iload_n hx hb dX0_longestRing_28 rfl (lv_at hl 1 rfl) ?_
    exact x_iret hx hb hr hlocks rfl (by rw [h3, show i = n by omega]) dX0_longestRing_29
  · refine lv_iload_n hx hb dX0_longestRing_12 rfl (lv_at hl 1 rfl) ?_
    refine lv_aload_n hx hb dX0_longestRing_13 rfl (lv_at hl 0 rfl) ?_
    refine lv_iload_n hx hb dX0_longestRing_14 rfl (lv_at hl 2 rfl) ?_
    refine xcV (As := [.int (nI i)]) (rest := [.int (nI L)]) ⟨hx, hb, hml, hown, hts⟩ (cX0_ringLength_ l D cI cC o r n f hn hf i (by omega)) (cwV 1 hts gX0_longestRing_X0_ringLength rfl rfl rfl (by decide +kernel) ⟨Nat.le_of_ble_eq_true rfl, Nat.le_of_ble_eq_true rfl⟩) hK hC (xRecv hK rfl hC.1) rfl hl.1 rfl (Nat.le_of_ble_eq_true rfl) dX0_longestRing_15 ⟨Nat.zero_le _, Nat.zero_le _⟩ (fun x15 e15 => ?_)
    subst e15
    refine va_mmax hx hb (hml.trans hl.1.symm) hown (hts (.methodLink RX0 54 Lib.Math.max.name) (by decide +kernel)) (hts (.static Lib.Math.max.name) (by decide +kernel)) (hts (.initialized "java/lang/Math") (by decide +kernel)) (hts (.code Lib.Math.max.name Lib.Math.max.code 2 (some .int)) (by decide +kernel)) (Nat.le_of_ble_eq_true rfl) (Nat.le_of_ble_eq_true rfl) (Nat.zero_le _) (Nat.zero_le _) dX0_longestRing_18 ?_
    refine xz_i (xmaxN (by have := mxr_le (f := f) hn i (by omega); omega) (by have := per_le (f := f) (show i < n by omega) i; omega)) ?_
    refine lv_istore_n (lv' := [(1, .int (nI (max L (per f n i)))), (0, .ref o), (2, .int (nI i))]) hx hb dX0_longestRing_21 rfl hl (by decide) rfl (fun ls hl => ?_)
    refine xn_iinc (v := i + 1) (lv' := [(2, .int (nI (i + 1))), (1, .int (nI (max L (per f n i)))), (0, .ref o)]) hx hb dX0_longestRing_22 hl (k := 2) rfl (xinc1 _) (by decide) rfl (fun ls hl => ?_)
    refine lv_goto (tgt := 4) hx hb dX0_longestRing_25 (by decide) ?_
    exact ih4 (max L (per f n i), i + 1) ls ⟨(by dsimp only; omega), (by dsimp only; rw [h3]; rfl), lv_sub hl [2, 1, 0] rfl⟩ (by dsimp only; omega)
