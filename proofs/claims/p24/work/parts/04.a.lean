/-! Method and RankSet -/
def xMe (D : va_G) (cI : ClassId) (o r n : Nat) (f : Nat → Nat) (H : Heap) : Prop := va_at D vwCl (o, .inr (1, [.ref r, .int (nI n)])) H ∧ va_at D vwCl (r, .inl (cI, 10, .inl (xA f))) H
def xRs (D : va_G) (cI : ClassId) (o r n : Nat) (f : Nat → Nat) (H : Heap) : Prop := va_at D vwCl (o, .inr (2, [.ref r, .int (nI n)])) H ∧ va_at D vwCl (r, .inl (cI, 201, .inl (xA f))) H
theorem stp_end {k n u i : Nat} (h : n ≤ i) : stp k n u i = 1 := by
  cases u with
  | zero => rfl
  | succ u => show (if i < n then _ else _) = 1; rw [if_neg (by omega)]
theorem stp_k {k n u i : Nat} (h : i < n) (hb : bitN k i = 1) : stp k n (u + 1) i = stp k n u (i + 1) := by
  show (if i < n then (if bitN k i = 1 then _ else _) else _) = _
  rw [if_pos h, if_pos hb]
theorem stp_x {k n u i : Nat} (h : i < n) (hb : bitN k i = 0) (h1 : i + 1 < n) (hb1 : bitN k (i + 1) = 0) : stp k n (u + 1) i = stp k n u (i + 2) := by
  show (if i < n then (if bitN k i = 1 then _ else (if i + 1 < n ∧ bitN k (i + 1) = 0 then _ else _)) else _) = _
  rw [if_pos h, if_neg (by omega), if_pos ⟨h1, hb1⟩]
theorem stp_0 {k n u i : Nat} (h : i < n) (hb : bitN k i = 0) (h1 : ¬ (i + 1 < n ∧ bitN k (i + 1) = 0)) : stp k n (u + 1) i = 0 := by
  show (if i < n then (if bitN k i = 1 then _ else (if i + 1 < n ∧ bitN k (i + 1) = 0 then _ else _)) else _) = _
  rw [if_pos h, if_neg (by omega), if_neg h1]
set_option maxRecDepth 100000 in
set_option maxHeartbeats 4000000 in
theorem cX1_length_ (l : Launch) (D : va_G) (cI cC : ClassId) (o r ns : Nat) (f : Nat → Nat) : Met l yX1_length wsX1_length (xRm 0 0 0) (va_Pc [.ref o] (xB D cI cC (xMe D cI o r ns f))) (vp_Si (fun x => x = nI ns)) 0 0 (fun _ => False) := by
  refine Met.ofW (cc := cX1_length) (maxL := 1) (ret := (some .int)) (by decide) rfl ?_
  intro p e s m args below meth c s₁ B hml hv
  obtain ⟨rfl, hP, hK⟩ := hv
  have hx := B.exec
  have hb := B.bytes
  have hr := B.returns
  have hts := atoms_spec (ws := wsX1_length) B.pre
  have hown : s.vm.findClass RX1 = some m.cls := findClass_of_methodNamed B.named
  have hlocks := B.notSynchronized
  have hC := hP
  have hl := lv_entry ([.ref o]) (n := 1) (Nat.le_of_ble_eq_true rfl)
  rw [lg_entry_eq]
  generalize (lg_sl ([.ref o]) ++ List.replicate (1 - (lg_sl ([.ref o])).length) Slot.unset).toArray = ls at hl ⊢
  have hl : lv_has ls 1 [(0, .ref o)] := hl
  refine lv_aload_n hx hb dX1_length_0 rfl (lv_at hl 0 rfl) ?_
  refine x_get (v := .int (nI ns)) (C := RX1) (T := TX1) (N := 2) hx hb hts (by decide +kernel) hown hK hC.1 rfl 1 (by decide) (hts (.fieldLink RX1 15 "BellRanks$Method" "length" "I") (by decide +kernel)) (fun _ h9 => h9) rfl dX1_length_1 ?_
  exact x_iret hx hb hr hlocks rfl rfl dX1_length_4

set_option maxRecDepth 100000 in
set_option maxHeartbeats 4000000 in
theorem cX2_size_ (l : Launch) (D : va_G) (cI cC : ClassId) (o r z : Nat) (f : Nat → Nat) : Met l yX2_size wsX2_size (xRm 0 0 0) (va_Pc [.ref o] (xB D cI cC (xRs D cI o r z f))) (vp_Si (fun x => x = nI z)) 0 0 (fun _ => False) := by
  refine Met.ofW (cc := cX2_size) (maxL := 1) (ret := (some .int)) (by decide) rfl ?_
  intro p e s m args below meth c s₁ B hml hv
  obtain ⟨rfl, hP, hK⟩ := hv
  have hx := B.exec
  have hb := B.bytes
  have hr := B.returns
  have hts := atoms_spec (ws := wsX2_size) B.pre
  have hown : s.vm.findClass RX2 = some m.cls := findClass_of_methodNamed B.named
  have hlocks := B.notSynchronized
  have hC := hP
  have hl := lv_entry ([.ref o]) (n := 1) (Nat.le_of_ble_eq_true rfl)
  rw [lg_entry_eq]
  generalize (lg_sl ([.ref o]) ++ List.replicate (1 - (lg_sl ([.ref o])).length) Slot.unset).toArray = ls at hl ⊢
  have hl : lv_has ls 1 [(0, .ref o)] := hl
  refine lv_aload_n hx hb dX2_size_0 rfl (lv_at hl 0 rfl) ?_
  refine x_get (v := .int (nI z)) (C := RX2) (T := TX2) (N := 2) hx hb hts (by decide +kernel) hown hK hC.1 rfl 1 (by decide) (hts (.fieldLink RX2 15 "BellRanks$RankSet" "size" "I") (by decide +kernel)) (fun _ h9 => h9) rfl dX2_size_1 ?_
  exact x_iret hx hb hr hlocks rfl rfl dX2_size_4

set_option maxRecDepth 100000 in
set_option maxHeartbeats 4000000 in
theorem cX1_keptAt_ (l : Launch) (D : va_G) (cI cC : ClassId) (o r ns : Nat) (f : Nat → Nat) (j : Nat) (hj : j < 10) : Met l yX1_keptAt wsX1_keptAt (xRm 0 0 0) (va_Pc [.ref o, .int (nI j)] (xB D cI cC (xMe D cI o r ns f))) (vp_Si (fun x => x = nI (f j))) 0 0 (fun _ => False) := by
  refine Met.ofW (cc := cX1_keptAt) (maxL := 2) (ret := (some .int)) (by decide) rfl ?_
  intro p e s m args below meth c s₁ B hml hv
  obtain ⟨rfl, hP, hK⟩ := hv
  have hx := B.exec
  have hb := B.bytes
  have hr := B.returns
  have hts := atoms_spec (ws := wsX1_keptAt) B.pre
  have hown : s.vm.findClass RX1 = some m.cls := findClass_of_methodNamed B.named
  have hlocks := B.notSynchronized
  have hC := hP
  have hl := lv_entry ([.ref o, .int (nI j)]) (n := 2) (Nat.le_of_ble_eq_true rfl)
  rw [lg_entry_eq]
  generalize (lg_sl ([.ref o, .int (nI j)]) ++ List.replicate (2 - (lg_sl ([.ref o, .int (nI j)])).length) Slot.unset).toArray = ls at hl ⊢
  have hl : lv_has ls 2 [(0, .ref o), (1, .int (nI j))] := hl
  refine lv_iload_n hx hb dX1_keptAt_0 rfl (lv_at hl 1 rfl) ?_
  refine xn_if_lt (tgt := 22) hx hb dX1_keptAt_1 (by decide) (by omega) ?_
  refine lv_iload_n hx hb dX1_keptAt_4 rfl (lv_at hl 1 rfl) ?_
  refine lv_aload_n hx hb dX1_keptAt_5 rfl (lv_at hl 0 rfl) ?_
  refine x_get (v := .ref r) (C := RX1) (T := TX1) (N := 2) hx hb hts (by decide +kernel) hown hK hC.1 rfl 0 (by decide) (hts (.fieldLink RX1 9 "BellRanks$Method" "steps" "[I") (by decide +kernel)) (fun _ h9 => h9) rfl dX1_keptAt_6 ?_
  refine x_alen hx hb hK hC.2 dX1_keptAt_9 ?_
  refine xn_icmp_ge (tgt := 22) hx hb dX1_keptAt_10 (by decide) (by omega) (by decide) (fun c10 => ?_) (fun c10 => ?_)
  · exact absurd c10 (by omega)
  · refine lv_aload_n hx hb dX1_keptAt_13 rfl (lv_at hl 0 rfl) ?_
    refine x_get (v := .ref r) (C := RX1) (T := TX1) (N := 2) hx hb hts (by decide +kernel) hown hK hC.1 rfl 0 (by decide) (hts (.fieldLink RX1 9 "BellRanks$Method" "steps" "[I") (by decide +kernel)) (fun _ h9 => h9) rfl dX1_keptAt_14 ?_
    refine lv_iload_n hx hb dX1_keptAt_17 rfl (lv_at hl 1 rfl) ?_
    refine x_iald hx hb hK hC.2 (by omega) (by decide) dX1_keptAt_18 ?_
    refine lv_goto (tgt := 23) hx hb dX1_keptAt_19 (by decide) ?_
    exact x_iret hx hb hr hlocks rfl rfl dX1_keptAt_23

set_option maxRecDepth 100000 in
set_option maxHeartbeats 4000000 in
theorem cX1_removeAll_ (l : Launch) (D : va_G) (cI cC : ClassId) (o r ns : Nat) (f : Nat → Nat) (hor : o ≠ r) : Met l yX1_removeAll wsX1_removeAll (xRm 0 0 0) (va_Pc [.ref o] (xB D cI cC (xMe D cI o r ns f))) (xV (fun _ : Unit => True) (fun _ => xMe D cI o r 0 f) (fun q9 => q9 = o ∨ q9 = r)) 0 0 (fun q9 => q9 = o ∨ q9 = r) := by
  refine Met.ofW (cc := cX1_removeAll) (maxL := 1) (ret := none) (by decide) rfl ?_
  intro p e s m args below meth c s₁ B hml hv
  obtain ⟨rfl, hP, hK⟩ := hv
  have hx := B.exec
  have hb := B.bytes
  have hr := B.returns
  have hts := atoms_spec (ws := wsX1_removeAll) B.pre
  have hown : s.vm.findClass RX1 = some m.cls := findClass_of_methodNamed B.named
  have hlocks := B.notSynchronized
  have hC := hP
  have hl := lv_entry ([.ref o]) (n := 1) (Nat.le_of_ble_eq_true rfl)
  rw [lg_entry_eq]
  generalize (lg_sl ([.ref o]) ++ List.replicate (1 - (lg_sl ([.ref o])).length) Slot.unset).toArray = ls at hl ⊢
  have hl : lv_has ls 1 [(0, .ref o)] := hl
  have hS : va_S (fun q9 => q9 = o ∨ q9 = r) s.heap s.heap [] := va_S.rf
  refine lv_aload_n hx hb dX1_removeAll_0 rfl (lv_at hl 0 rfl) ?_
  refine xn_iconst (v := 0) hx hb dX1_removeAll_1 (by decide) ?_
  refine x_put (v := .int (nI 0)) (ty := .int) (C := RX1) (T := TX1) (N := 2) hx hb hts (by decide +kernel) tyX1 tyX1_ok nmX1 hown hK hC.1 hS (Or.inl rfl) rfl 1 (by decide) (hts (.fieldLink RX1 15 "BellRanks$Method" "length" "I") (by decide +kernel)) (fun _ h9 => h9) rfl (by decide +kernel) rfl rfl (Nat.le_of_ble_eq_true rfl) dX1_removeAll_2 (fun H1 locs1 hN hz oq hS => ?_)
  have hC : xMe D cI o r 0 f H1 := ⟨hN, hC.2.kept (oq _ (Ne.symm hor))⟩
  exact x_vret hx hb hr hlocks () trivial hC hS (fun _ h => h) dX1_removeAll_5

set_option maxRecDepth 100000 in
set_option maxHeartbeats 4000000 in
theorem cX2_removeAll_ (l : Launch) (D : va_G) (cI cC : ClassId) (o r z : Nat) (f : Nat → Nat) (hor : o ≠ r) : Met l yX2_removeAll wsX2_removeAll (xRm 0 0 0) (va_Pc [.ref o] (xB D cI cC (xRs D cI o r z f))) (xV (fun _ : Unit => True) (fun _ => xRs D cI o r 0 f) (fun q9 => q9 = o ∨ q9 = r)) 0 0 (fun q9 => q9 = o ∨ q9 = r) := by
  refine Met.ofW (cc := cX2_removeAll) (maxL := 1) (ret := none) (by decide) rfl ?_
  intro p e s m args below meth c s₁ B hml hv
  obtain ⟨rfl, hP, hK⟩ := hv
  have hx := B.exec
  have hb := B.bytes
  have hr := B.returns
  have hts := atoms_spec (ws := wsX2_removeAll) B.pre
  have hown : s.vm.findClass RX2 = some m.cls := findClass_of_methodNamed B.named
  have hlocks := B.notSynchronized
  have hC := hP
  have hl := lv_entry ([.ref o]) (n := 1) (Nat.le_of_ble_eq_true rfl)
  rw [lg_entry_eq]
  generalize (lg_sl ([.ref o]) ++ List.replicate (1 - (lg_sl ([.ref o])).length) Slot.unset).toArray = ls at hl ⊢
  have hl : lv_has ls 1 [(0, .ref o)] := hl
  have hS : va_S (fun q9 => q9 = o ∨ q9 = r) s.heap s.heap [] := va_S.rf
  refine lv_aload_n hx hb dX2_removeAll_0 rfl (lv_at hl 0 rfl) ?_
  refine xn_iconst (v := 0) hx hb dX2_removeAll_1 (by decide) ?_
  refine x_put (v := .int (nI 0)) (ty := .int) (C := RX2) (T := TX2) (N := 2) hx hb hts (by decide +kernel) tyX2 tyX2_ok nmX2 hown hK hC.1 hS (Or.inl rfl) rfl 1 (by decide) (hts (.fieldLink RX2 15 "BellRanks$RankSet" "size" "I") (by decide +kernel)) (fun _ h9 => h9) rfl (by decide +kernel) rfl rfl (Nat.le_of_ble_eq_true rfl) dX2_removeAll_2 (fun H1 locs1 hN hz oq hS => ?_)
  have hC : xRs D cI o r 0 f H1 := ⟨hN, hC.2.kept (oq _ (Ne.symm hor))⟩
  exact x_vret hx hb hr hlocks () trivial hC hS (fun _ h => h) dX2_removeAll_5

set_option maxRecDepth 100000 in
set_option maxHeartbeats 4000000 in
theorem cX1_add_ (l : Launch) (D : va_G) (cI cC : ClassId) (o r ns : Nat) (f : Nat → Nat) (hor : o ≠ r) (hns : ns < 10) (v : Nat) : Met l yX1_add wsX1_add (xRm 0 0 0) (va_Pc [.ref o, .int (nI v)] (xB D cI cC (xMe D cI o r ns f))) (xV (fun _ : Unit => True) (fun _ => xMe D cI o r (ns + 1) (va_up f ns v)) (fun q9 => q9 = o ∨ q9 = r)) 0 0 (fun q9 => q9 = o ∨ q9 = r) := by
  refine Met.ofW (cc := cX1_add) (maxL := 2) (ret := none) (by decide) rfl ?_
  intro p e s m args below meth c s₁ B hml hv
  obtain ⟨rfl, hP, hK⟩ := hv
  have hx := B.exec
  have hb := B.bytes
  have hr := B.returns
  have hts := atoms_spec (ws := wsX1_add) B.pre
  have hown : s.vm.findClass RX1 = some m.cls := findClass_of_methodNamed B.named
  have hlocks := B.notSynchronized
  have hC := hP
  have hl := lv_entry ([.ref o, .int (nI v)]) (n := 2) (Nat.le_of_ble_eq_true rfl)
  rw [lg_entry_eq]
  generalize (lg_sl ([.ref o, .int (nI v)]) ++ List.replicate (2 - (lg_sl ([.ref o, .int (nI v)])).length) Slot.unset).toArray = ls at hl ⊢
  have hl : lv_has ls 2 [(0, .ref o), (1, .int (nI v))] := hl
  have hS : va_S (fun q9 => q9 = o ∨ q9 = r) s.heap s.heap [] := va_S.rf
  refine lv_aload_n hx hb dX1_add_0 rfl (lv_at hl 0 rfl) ?_
  refine x_get (v := .int (nI ns)) (C := RX1) (T := TX1) (N := 2) hx hb hts (by decide +kernel) hown hK hC.1 rfl 1 (by decide) (hts (.fieldLink RX1 15 "BellRanks$Method" "length" "I") (by decide +kernel)) (fun _ h9 => h9) rfl dX1_add_1 ?_
  refine lv_aload_n hx hb dX1_add_4 rfl (lv_at hl 0 rfl) ?_
  refine x_get (v := .ref r) (C := RX1) (T := TX1) (N := 2) hx hb hts (by decide +kernel) hown hK hC.1 rfl 0 (by decide) (hts (.fieldLink RX1 9 "BellRanks$Method" "steps" "[I") (by decide +kernel)) (fun _ h9 => h9) rfl dX1_add_5 ?_
  refine x_alen hx hb hK hC.2 dX1_add_8 ?_
  refine xn_icmp_ge (tgt := 32) hx hb dX1_add_9 (by decide) (by omega) (by decide) (fun c9 => ?_) (fun c9 => ?_)
  · exact absurd c9 (by omega)
  · refine lv_aload_n hx hb dX1_add_12 rfl (lv_at hl 0 rfl) ?_
    refine x_get (v := .ref r) (C := RX1) (T := TX1) (N := 2) hx hb hts (by decide +kernel) hown hK hC.1 rfl 0 (by decide) (hts (.fieldLink RX1 9 "BellRanks$Method" "steps" "[I") (by decide +kernel)) (fun _ h9 => h9) rfl dX1_add_13 ?_
    refine lv_aload_n hx hb dX1_add_16 rfl (lv_at hl 0 rfl) ?_
    refine x_get (v := .int (nI ns)) (C := RX1) (T := TX1) (N := 2) hx hb hts (by decide +kernel) hown hK hC.1 rfl 1 (by decide) (hts (.fieldLink RX1 15 "BellRanks$Method" "length" "I") (by decide +kernel)) (fun _ h9 => h9) rfl dX1_add_17 ?_
    refine lv_iload_n hx hb dX1_add_20 rfl (lv_at hl 1 rfl) ?_
    refine x_iast hx hb hK hC.2 hS (Or.inr rfl) (by omega) (by decide) dX1_add_21 (fun H1 locs1 hN hz oq hS => ?_)
    have hC : xMe D cI o r ns (va_up f ns v) H1 := ⟨hC.1.kept (oq _ hor), hN⟩
    refine lv_aload_n hx hb dX1_add_22 rfl (lv_at hl 0 rfl) ?_
    refine lv_dup hx hb dX1_add_23 rfl ?_
    refine x_get (v := .int (nI ns)) (C := RX1) (T := TX1) (N := 2) hx hb hts (by decide +kernel) hown hK hC.1 rfl 1 (by decide) (hts (.fieldLink RX1 15 "BellRanks$Method" "length" "I") (by decide +kernel)) (fun _ h9 => h9) rfl dX1_add_24 ?_
    refine xn_iconst (v := 1) hx hb dX1_add_27 (by decide) ?_
    refine xn_iadd hx hb dX1_add_28 ?_
    refine x_put (v := .int (nI (ns + 1))) (ty := .int) (C := RX1) (T := TX1) (N := 2) hx hb hts (by decide +kernel) tyX1 tyX1_ok nmX1 hown hK hC.1 hS (Or.inl rfl) rfl 1 (by decide) (hts (.fieldLink RX1 15 "BellRanks$Method" "length" "I") (by decide +kernel)) (fun _ h9 => h9) rfl (by decide +kernel) rfl rfl (Nat.le_of_ble_eq_true rfl) dX1_add_29 (fun H1 locs1 hN hz oq hS => ?_)
    have hC : xMe D cI o r (ns + 1) (va_up f ns v) H1 := ⟨hN, hC.2.kept (oq _ (Ne.symm hor))⟩
    exact x_vret hx hb hr hlocks () trivial hC hS (fun _ h => h) dX1_add_32

set_option maxRecDepth 100000 in
set_option maxHeartbeats 4000000 in
theorem cX1_ringOn_ (l : Launch) (D : va_G) (cI cC : ClassId) (o r ns : Nat) (f : Nat → Nat) (o2 r2 n : Nat) (f2 : Nat → Nat) (hor : o2 ≠ r2) (hn : n ≤ 8) (hns : 0 < ns) (hns2 : ns ≤ 10) (hf : ∀ i, f i < 2 ^ 31) (k : Nat) (hk : k < 2 ^ 31) : Met l yX1_ringOn wsX1_ringOn (xRm 3 0 0) (va_Pc [.ref o, .ref o2, .int (nI k)] (xB D cI cC (fun H => xMe D cI o r ns f H ∧ xCh D cI o2 r2 n f2 H))) (xV (fun _ : Unit => True) (fun _ => xCh D cI o2 r2 n (rst (f (k % ns)) n n 0 f2)) (fun q9 => q9 = r2)) 0 0 (fun q9 => q9 = r2) := by
  refine Met.ofW (cc := cX1_ringOn) (maxL := 3) (ret := none) (by decide) rfl ?_
  intro p e s m args below meth c s₁ B hml hv
  obtain ⟨rfl, hP, hK⟩ := hv
  have hx := B.exec
  have hb := B.bytes
  have hr := B.returns
  have hts := atoms_spec (ws := wsX1_ringOn) B.pre
  have hown : s.vm.findClass RX1 = some m.cls := findClass_of_methodNamed B.named
  have hlocks := B.notSynchronized
  obtain ⟨hC, hC2⟩ := hP
  have hl := lv_entry ([.ref o, .ref o2, .int (nI k)]) (n := 3) (Nat.le_of_ble_eq_true rfl)
  rw [lg_entry_eq]
  generalize (lg_sl ([.ref o, .ref o2, .int (nI k)]) ++ List.replicate (3 - (lg_sl ([.ref o, .ref o2, .int (nI k)])).length) Slot.unset).toArray = ls at hl ⊢
  have hl : lv_has ls 3 [(0, .ref o), (1, .ref o2), (2, .int (nI k))] := hl
  have hS : va_S (fun q9 => q9 = r2) s.heap s.heap [] := va_S.rf
  refine lv_aload_n hx hb dX1_ringOn_0 rfl (lv_at hl 0 rfl) ?_
  refine x_get (v := .int (nI ns)) (C := RX1) (T := TX1) (N := 2) hx hb hts (by decide +kernel) hown hK hC.1 rfl 1 (by decide) (hts (.fieldLink RX1 15 "BellRanks$Method" "length" "I") (by decide +kernel)) (fun _ h9 => h9) rfl dX1_ringOn_1 ?_
  refine xn_if_le (tgt := 21) hx hb dX1_ringOn_4 (by decide) (by omega) (fun c4 => ?_) (fun c4 => ?_)
  · exact absurd c4 (by omega)
  · refine lv_aload_n hx hb dX1_ringOn_7 rfl (lv_at hl 1 rfl) ?_
    refine lv_aload_n hx hb dX1_ringOn_8 rfl (lv_at hl 0 rfl) ?_
    refine lv_iload_n hx hb dX1_ringOn_9 rfl (lv_at hl 2 rfl) ?_
    refine lv_aload_n hx hb dX1_ringOn_10 rfl (lv_at hl 0 rfl) ?_
    refine x_get (v := .int (nI ns)) (C := RX1) (T := TX1) (N := 2) hx hb hts (by decide +kernel) hown hK hC.1 rfl 1 (by decide) (hts (.fieldLink RX1 15 "BellRanks$Method" "length" "I") (by decide +kernel)) (fun _ h9 => h9) rfl dX1_ringOn_11 ?_
    refine xn_irem hx hb (by omega) (by omega) (by omega) dX1_ringOn_14 ?_
    refine xcV (As := [.int (nI (k % ns))]) (rest := [.ref o2]) ⟨hx, hb, hml, hown, hts⟩ (cX1_keptAt_ l D cI cC o r ns f (k % ns) (Nat.lt_of_lt_of_le (Nat.mod_lt _ hns) hns2)) (cwV 1 hts gX1_ringOn_X1_keptAt rfl rfl rfl (by decide +kernel) ⟨Nat.le_of_ble_eq_true rfl, Nat.le_of_ble_eq_true rfl⟩) hK hC (xRecv hK rfl hC.1) rfl hl.1 rfl (Nat.le_of_ble_eq_true rfl) dX1_ringOn_15 ⟨Nat.zero_le _, Nat.zero_le _⟩ (fun x15 e15 => ?_)
    subst e15
    refine xmV (As := [.int (nI (f (k % ns)))]) (rest := []) ⟨hx, hb, hml, hown, hts⟩ (cX0_ringStep_ l D cI cC o2 r2 n f2 hor hn (f (k % ns)) (hf _)) (cwV 1 hts gX1_ringOn_X0_ringStep rfl rfl rfl (by decide +kernel) ⟨Nat.le_of_ble_eq_true rfl, Nat.le_of_ble_eq_true rfl⟩) hK hC2 (xRecv hK rfl hC2.1) rfl hl.1 rfl (Nat.le_of_ble_eq_true rfl) dX1_ringOn_18 ⟨Nat.zero_le _, Nat.zero_le _⟩ hS (fun _ h => h) (fun _ h => h) (fun u18 H1 locs1 hp18 hF18 hz18 hk18 hS => ?_)
    have hC2 : xCh D cI o2 r2 n (rst (f (k % ns)) n n 0 f2) H1 := hF18
    exact x_vret hx hb hr hlocks () trivial hC2 hS (fun _ h => h) dX1_ringOn_21

set_option maxRecDepth 100000 in
set_option maxHeartbeats 4000000 in
theorem cX1_isStep_ (l : Launch) (D : va_G) (cI cC : ClassId) (k n : Nat) (hn : n ≤ 8) (hk : k < 2 ^ 31) : Met l yX1_isStep wsX1_isStep (xRm 1 0 0) (va_Pc [.int (nI k), .int (nI n)] (xB D cI cC (fun _ => True))) (vp_Si (fun x => x = nI (if k < 2 ^ n then stp k n n 0 else 0))) 0 0 (fun _ => False) := by
  refine Met.ofW (cc := cX1_isStep) (maxL := 3) (ret := (some .boolean)) (by decide) rfl ?_
  intro p e s m args below meth c s₁ B hml hv
  obtain ⟨rfl, hP, hK⟩ := hv
  have hx := B.exec
  have hb := B.bytes
  have hr := B.returns
  have hts := atoms_spec (ws := wsX1_isStep) B.pre
  have hown : s.vm.findClass RX1 = some m.cls := findClass_of_methodNamed B.named
  have hlocks := B.notSynchronized
  have hl := lv_entry ([.int (nI k), .int (nI n)]) (n := 3) (Nat.le_of_ble_eq_true rfl)
  rw [lg_entry_eq]
  generalize (lg_sl ([.int (nI k), .int (nI n)]) ++ List.replicate (3 - (lg_sl ([.int (nI k), .int (nI n)])).length) Slot.unset).toArray = ls at hl ⊢
  have hl : lv_has ls 3 [(0, .int (nI k)), (1, .int (nI n))] := hl
  have hpw : 2 ^ n < 2 ^ 31 := Nat.pow_lt_pow_right (by decide) (by omega)
  refine lv_iload_n hx hb dX1_isStep_0 rfl (lv_at hl 0 rfl) ?_
  refine xn_if_lt (tgt := 11) hx hb dX1_isStep_1 (by decide) (by omega) ?_
  refine lv_iload_n hx hb dX1_isStep_4 rfl (lv_at hl 0 rfl) ?_
  refine xn_iconst (v := 1) hx hb dX1_isStep_5 (by decide) ?_
  refine lv_iload_n hx hb dX1_isStep_6 rfl (lv_at hl 1 rfl) ?_
  refine lv_ishl hx hb dX1_isStep_7 ?_
  refine xz_i ((xshl (by rw [Nat.one_mul]; exact Nat.lt_trans hpw (by decide)) (by omega)).trans (congrArg nI (Nat.one_mul _))) ?_
  refine xn_icmp_lt (tgt := 13) hx hb dX1_isStep_8 (by decide) (by omega) hpw (fun c8 => ?_) (fun c8 => ?_)
  · refine xn_iconst (v := 0) hx hb dX1_isStep_13 (by decide) ?_
    refine lv_istore_n (lv' := [(2, .int (nI 0)), (0, .int (nI k)), (1, .int (nI n))]) hx hb dX1_isStep_14 rfl hl (by decide) rfl (fun ls hl => ?_)
    refine x_loop (σ := Nat × Nat) (fun a => n - a.1) (fun a ls => (n ≤ a.1 + a.2) ∧ (a.1 ≤ n) ∧ (stp k n a.2 a.1 = stp k n n 0) ∧ lv_has ls 3 [(0, .int (nI k)), (1, .int (nI n)), (2, .int (nI a.1))]) ?_ (0, n) ls ⟨(by dsimp only; omega), (Nat.zero_le _), rfl, lv_sub hl [1, 2, 0] rfl⟩
    rintro ⟨i, u⟩ ls ⟨hu, h2, ht, hl⟩ ih15
    dsimp only at hu h2 ht hl
    refine lv_iload_n hx hb dX1_isStep_15 rfl (lv_at hl 2 rfl) ?_
    refine lv_iload_n hx hb dX1_isStep_16 rfl (lv_at hl 1 rfl) ?_
    refine xn_icmp_ge (tgt := 59) hx hb dX1_isStep_17 (by decide) (by omega) (by omega) (fun c17 => ?_) (fun c17 => ?_)
    · refine xn_iconst (v := 1) hx hb dX1_isStep_59 (by decide) ?_
      exact x_zret hx hb hr hlocks rfl (by decide) (by rw [if_pos c8, ← ht, stp_end c17]) dX1_isStep_60
    · obtain ⟨u, rfl⟩ : ∃ z, u = z + 1 := ⟨u - 1, by omega⟩
      refine lv_iload_n hx hb dX1_isStep_20 rfl (lv_at hl 0 rfl) ?_
      refine lv_iload_n hx hb dX1_isStep_21 rfl (lv_at hl 2 rfl) ?_
      refine xcS (As := [.int (nI k), .int (nI i)]) (rest := []) ⟨hx, hb, hml, hown, hts⟩ (cX1_keeps_ l D cI cC k i hk (by omega)) (va_cwS 2 hts gX1_isStep_X1_keeps rfl rfl rfl (by decide +kernel) ⟨Nat.le_of_ble_eq_true rfl, Nat.le_of_ble_eq_true rfl⟩) hK trivial rfl hl.1 rfl (Nat.le_of_ble_eq_true rfl) dX1_isStep_22 ⟨Nat.zero_le _, Nat.zero_le _⟩ (fun x22 e22 => ?_)
      subst e22
      refine xn_if_eq (tgt := 34) hx hb dX1_isStep_25 (by decide) (Nat.lt_trans (bitN_lt _ _) (by decide)) (fun c25 => ?_) (fun c25 => ?_)
      · refine lv_iload_n hx hb dX1_isStep_34 rfl (lv_at hl 2 rfl) ?_
        refine xn_iconst (v := 1) hx hb dX1_isStep_35 (by decide) ?_
        refine xn_iadd hx hb dX1_isStep_36 ?_
        refine lv_iload_n hx hb dX1_isStep_37 rfl (lv_at hl 1 rfl) ?_
        refine xn_icmp_ge (tgt := 57) hx hb dX1_isStep_38 (by decide) (by omega) (by omega) (fun c38 => ?_) (fun c38 => ?_)
        · refine xn_iconst (v := 0) hx hb dX1_isStep_57 (by decide) ?_
          exact x_zret hx hb hr hlocks rfl (by decide) (by rw [if_pos c8, ← ht, stp_0 c17 c25 (fun z => absurd z.1 (by omega))]) dX1_isStep_58
        · refine lv_iload_n hx hb dX1_isStep_41 rfl (lv_at hl 0 rfl) ?_
          refine lv_iload_n hx hb dX1_isStep_42 rfl (lv_at hl 2 rfl) ?_
          refine xn_iconst (v := 1) hx hb dX1_isStep_43 (by decide) ?_
          refine xn_iadd hx hb dX1_isStep_44 ?_
          refine xcS (As := [.int (nI k), .int (nI (i + 1))]) (rest := []) ⟨hx, hb, hml, hown, hts⟩ (cX1_keeps_ l D cI cC k (i + 1) hk (by omega)) (va_cwS 2 hts gX1_isStep_X1_keeps rfl rfl rfl (by decide +kernel) ⟨Nat.le_of_ble_eq_true rfl, Nat.le_of_ble_eq_true rfl⟩) hK trivial rfl hl.1 rfl (Nat.le_of_ble_eq_true rfl) dX1_isStep_45 ⟨Nat.zero_le _, Nat.zero_le _⟩ (fun x45 e45 => ?_)
          subst e45
          refine xn_if_ne (tgt := 57) hx hb dX1_isStep_48 (by decide) (Nat.lt_trans (bitN_lt _ _) (by decide)) (fun c48 => ?_) (fun c48 => ?_)
          · refine xn_iconst (v := 0) hx hb dX1_isStep_57 (by decide) ?_
            exact x_zret hx hb hr hlocks rfl (by decide) (by rw [if_pos c8, ← ht, stp_0 c17 c25 (fun z => absurd z.2 (by omega))]) dX1_isStep_58
          · refine xn_iinc (v := i + 2) (lv' := [(2, .int (nI (i + 2))), (0, .int (nI k)), (1, .int (nI n))]) hx hb dX1_isStep_51 hl (k := 2) rfl (xinc2 _) (by decide) rfl (fun ls hl => ?_)
            refine lv_goto (tgt := 15) hx hb dX1_isStep_54 (by decide) ?_
            exact ih15 (i + 2, u) ls ⟨(by dsimp only; omega), (by dsimp only; omega), (by rw [← stp_x c17 c25 c38 c48]; exact ht), lv_sub hl [1, 2, 0] rfl⟩ (by dsimp only; omega)
      · refine xn_iinc (v := i + 1) (lv' := [(2, .int (nI (i + 1))), (0, .int (nI k)), (1, .int (nI n))]) hx hb dX1_isStep_28 hl (k := 2) rfl (xinc1 _) (by decide) rfl (fun ls hl => ?_)
        refine lv_goto (tgt := 15) hx hb dX1_isStep_31 (by decide) ?_
        exact ih15 (i + 1, u) ls ⟨(by dsimp only; omega), (by dsimp only; omega), (by rw [← stp_k c17 (by have := bitN_lt k i; omega)]; exact ht), lv_sub hl [1, 2, 0] rfl⟩ (by dsimp only; omega)
  · refine xn_iconst (v := 0) hx hb dX1_isStep_11 (by decide) ?_
    exact x_zret hx hb hr hlocks rfl (by decide) (by rw [if_neg (Nat.not_lt.mpr c8)]) dX1_isStep_12

set_option maxRecDepth 100000 in
set_option maxHeartbeats 4000000 in
theorem cX1_isStepN_ (l : Launch) (D : va_G) (cI cC : ClassId) (x : Int32) (hx0 : x < 0) (n : Nat) : Met l yX1_isStep wsX1_isStep (xRm 1 0 0) (va_Pc [.int x, .int (nI n)] (xB D cI cC (fun _ => True))) (vp_Si (fun x => x = nI 0)) 0 0 (fun _ => False) := by
  refine Met.ofW (cc := cX1_isStep) (maxL := 3) (ret := (some .boolean)) (by decide) rfl ?_
  intro p e s m args below meth c s₁ B hml hv
  obtain ⟨rfl, hP, hK⟩ := hv
  have hx := B.exec
  have hb := B.bytes
  have hr := B.returns
  have hts := atoms_spec (ws := wsX1_isStep) B.pre
  have hown : s.vm.findClass RX1 = some m.cls := findClass_of_methodNamed B.named
  have hlocks := B.notSynchronized
  have hl := lv_entry ([.int x, .int (nI n)]) (n := 3) (Nat.le_of_ble_eq_true rfl)
  rw [lg_entry_eq]
  generalize (lg_sl ([.int x, .int (nI n)]) ++ List.replicate (3 - (lg_sl ([.int x, .int (nI n)])).length) Slot.unset).toArray = ls at hl ⊢
  have hl : lv_has ls 3 [(0, .int x), (1, .int (nI n))] := hl
  refine lv_iload_n hx hb dX1_isStep_0 rfl (lv_at hl 0 rfl) ?_
  refine lv_if_lt (tgt := 11) hx hb dX1_isStep_1 (by decide) (fun c1 => ?_) (fun c1 => ?_)
  · refine xn_iconst (v := 0) hx hb dX1_isStep_11 (by decide) ?_
    exact x_zret hx hb hr hlocks rfl (by decide) rfl dX1_isStep_12
  · exact absurd hx0 c1

set_option maxRecDepth 100000 in
set_option maxHeartbeats 4000000 in
theorem cX2_add_ (l : Launch) (D : va_G) (cI cC : ClassId) (o r z : Nat) (f : Nat → Nat) (hor : o ≠ r) (hz1 : z < 201) (v : Nat) (hv : v < 2 ^ 31) (hf : ∀ i, i < z → f i < 2 ^ 31) : Met l yX2_add wsX2_add (xRm 0 0 0) (va_Pc [.ref o, .int (nI v)] (xB D cI cC (xRs D cI o r z f))) (xV (fun u : Nat × (Nat → Nat) => (u = (z, f) ∧ ∃ i, i < z ∧ f i = v) ∨ (u = (z + 1, va_up f z v) ∧ ∀ i, i < z → f i ≠ v)) (fun u => xRs D cI o r u.1 u.2) (fun q9 => q9 = o ∨ q9 = r)) 0 0 (fun q9 => q9 = o ∨ q9 = r) := by
  refine Met.ofW (cc := cX2_add) (maxL := 3) (ret := none) (by decide) rfl ?_
  intro p e s m args below meth c s₁ B hml hv
  obtain ⟨rfl, hP, hK⟩ := hv
  have hx := B.exec
  have hb := B.bytes
  have hr := B.returns
  have hts := atoms_spec (ws := wsX2_add) B.pre
  have hown : s.vm.findClass RX2 = some m.cls := findClass_of_methodNamed B.named
  have hlocks := B.notSynchronized
  have hC := hP
  have hl := lv_entry ([.ref o, .int (nI v)]) (n := 3) (Nat.le_of_ble_eq_true rfl)
  rw [lg_entry_eq]
  generalize (lg_sl ([.ref o, .int (nI v)]) ++ List.replicate (3 - (lg_sl ([.ref o, .int (nI v)])).length) Slot.unset).toArray = ls at hl ⊢
  have hl : lv_has ls 3 [(0, .ref o), (1, .int (nI v))] := hl
  have hS : va_S (fun q9 => q9 = o ∨ q9 = r) s.heap s.heap [] := va_S.rf
  refine xn_iconst (v := 0) hx hb dX2_add_0 (by decide) ?_
  refine lv_istore_n (lv' := [(2, .int (nI 0)), (0, .ref o), (1, .int (nI v))]) hx hb dX2_add_1 rfl hl (by decide) rfl (fun ls hl => ?_)
  refine x_loop (σ := Nat) (fun a => z - a) (fun a ls => (a ≤ z) ∧ (∀ q9, q9 < a → f q9 ≠ v) ∧ lv_has ls 3 [(0, .ref o), (1, .int (nI v)), (2, .int (nI a))]) ?_ 0 ls ⟨(Nat.zero_le _), (fun q h => absurd h (Nat.not_lt_zero _)), lv_sub hl [1, 2, 0] rfl⟩
  rintro i ls ⟨h2, h3, hl⟩ ih2
  
  refine lv_iload_n hx hb dX2_add_2 rfl (lv_at hl 2 rfl) ?_
  refine lv_aload_n hx hb dX2_add_3 rfl (lv_at hl 0 rfl) ?_
  refine x_get (v := .int (nI z)) (C := RX2) (T := TX2) (N := 2) hx hb hts (by decide +kernel) hown hK hC.1 rfl 1 (by decide) (hts (.fieldLink RX2 15 "BellRanks$RankSet" "size" "I") (by decide +kernel)) (fun _ h9 => h9) rfl dX2_add_4 ?_
  refine xn_icmp_ge (tgt := 27) hx hb dX2_add_7 (by decide) (by omega) (by omega) (fun c7 => ?_) (fun c7 => ?_)
  · refine lv_aload_n hx hb dX2_add_27 rfl (lv_at hl 0 rfl) ?_
    refine x_get (v := .int (nI z)) (C := RX2) (T := TX2) (N := 2) hx hb hts (by decide +kernel) hown hK hC.1 rfl 1 (by decide) (hts (.fieldLink RX2 15 "BellRanks$RankSet" "size" "I") (by decide +kernel)) (fun _ h9 => h9) rfl dX2_add_28 ?_
    refine lv_aload_n hx hb dX2_add_31 rfl (lv_at hl 0 rfl) ?_
    refine x_get (v := .ref r) (C := RX2) (T := TX2) (N := 2) hx hb hts (by decide +kernel) hown hK hC.1 rfl 0 (by decide) (hts (.fieldLink RX2 9 "BellRanks$RankSet" "row" "[I") (by decide +kernel)) (fun _ h9 => h9) rfl dX2_add_32 ?_
    refine x_alen hx hb hK hC.2 dX2_add_35 ?_
    refine xn_icmp_ge (tgt := 59) hx hb dX2_add_36 (by decide) (by omega) (by decide) (fun c36 => ?_) (fun c36 => ?_)
    · exact absurd c36 (by omega)
    · refine lv_aload_n hx hb dX2_add_39 rfl (lv_at hl 0 rfl) ?_
      refine x_get (v := .ref r) (C := RX2) (T := TX2) (N := 2) hx hb hts (by decide +kernel) hown hK hC.1 rfl 0 (by decide) (hts (.fieldLink RX2 9 "BellRanks$RankSet" "row" "[I") (by decide +kernel)) (fun _ h9 => h9) rfl dX2_add_40 ?_
      refine lv_aload_n hx hb dX2_add_43 rfl (lv_at hl 0 rfl) ?_
      refine x_get (v := .int (nI z)) (C := RX2) (T := TX2) (N := 2) hx hb hts (by decide +kernel) hown hK hC.1 rfl 1 (by decide) (hts (.fieldLink RX2 15 "BellRanks$RankSet" "size" "I") (by decide +kernel)) (fun _ h9 => h9) rfl dX2_add_44 ?_
      refine lv_iload_n hx hb dX2_add_47 rfl (lv_at hl 1 rfl) ?_
      refine x_iast hx hb hK hC.2 hS (Or.inr rfl) (by omega) (by decide) dX2_add_48 (fun H1 locs1 hN hz oq hS => ?_)
      have hC : xRs D cI o r z (va_up f z v) H1 := ⟨hC.1.kept (oq _ hor), hN⟩
      refine lv_aload_n hx hb dX2_add_49 rfl (lv_at hl 0 rfl) ?_
      refine lv_dup hx hb dX2_add_50 rfl ?_
      refine x_get (v := .int (nI z)) (C := RX2) (T := TX2) (N := 2) hx hb hts (by decide +kernel) hown hK hC.1 rfl 1 (by decide) (hts (.fieldLink RX2 15 "BellRanks$RankSet" "size" "I") (by decide +kernel)) (fun _ h9 => h9) rfl dX2_add_51 ?_
      refine xn_iconst (v := 1) hx hb dX2_add_54 (by decide) ?_
      refine xn_iadd hx hb dX2_add_55 ?_
      refine x_put (v := .int (nI (z + 1))) (ty := .int) (C := RX2) (T := TX2) (N := 2) hx hb hts (by decide +kernel) tyX2 tyX2_ok nmX2 hown hK hC.1 hS (Or.inl rfl) rfl 1 (by decide) (hts (.fieldLink RX2 15 "BellRanks$RankSet" "size" "I") (by decide +kernel)) (fun _ h9 => h9) rfl (by decide +kernel) rfl rfl (Nat.le_of_ble_eq_true rfl) dX2_add_56 (fun H1 locs1 hN hz oq hS => ?_)
      have hC : xRs D cI o r (z + 1) (va_up f z v) H1 := ⟨hN, hC.2.kept (oq _ (Ne.symm hor))⟩
      exact x_vret hx hb hr hlocks (z + 1, va_up f z v) (Or.inr ⟨rfl, fun q hq => h3 q (by omega)⟩) hC hS (fun _ h => h) dX2_add_59
  · refine lv_aload_n hx hb dX2_add_10 rfl (lv_at hl 0 rfl) ?_
    refine x_get (v := .ref r) (C := RX2) (T := TX2) (N := 2) hx hb hts (by decide +kernel) hown hK hC.1 rfl 0 (by decide) (hts (.fieldLink RX2 9 "BellRanks$RankSet" "row" "[I") (by decide +kernel)) (fun _ h9 => h9) rfl dX2_add_11 ?_
    refine lv_iload_n hx hb dX2_add_14 rfl (lv_at hl 2 rfl) ?_
    refine x_iald hx hb hK hC.2 (by omega) (by decide) dX2_add_15 ?_
    refine lv_iload_n hx hb dX2_add_16 rfl (lv_at hl 1 rfl) ?_
    refine xn_icmp_ne (tgt := 21) hx hb dX2_add_17 (by decide) (hf i (by omega)) (by omega) (fun c17 => ?_) (fun c17 => ?_)
    · refine xn_iinc (v := i + 1) (lv' := [(2, .int (nI (i + 1))), (0, .ref o), (1, .int (nI v))]) hx hb dX2_add_21 hl (k := 2) rfl (xinc1 _) (by decide) rfl (fun ls hl => ?_)
      refine lv_goto (tgt := 2) hx hb dX2_add_24 (by decide) ?_
      exact ih2 (i + 1) ls ⟨(by omega), (fun q hq => by
            by_cases h9 : q = i
            · subst h9; exact c17
            · exact h3 q (by omega)), lv_sub hl [1, 2, 0] rfl⟩ (by omega)
    · exact x_vret hx hb hr hlocks (z, f) (Or.inl ⟨rfl, i, c7, c17⟩) hC hS (fun _ h => h) dX2_add_20
