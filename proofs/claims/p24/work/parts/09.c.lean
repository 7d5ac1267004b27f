/-! BELLRANKS' CALLS, by the shared state -/
abbrev xAD (ad : Nat → Nat) : Nat → Prop := fun q9 => ∃ i, i < 42 ∧ q9 = ad i
theorem va_up_up {α : Type} (f : Nat → α) (k : Nat) (v w : α) : va_up (va_up f k v) k w = va_up f k w := by
  funext j
  by_cases c : j = k
  · rw [c, va_up_self, va_up_self]
  · rw [va_up_ne _ _ c, va_up_ne _ _ c, va_up_ne _ _ c]
theorem va_up_id {α : Type} {f : Nat → α} {k : Nat} {v : α} (h : f k = v) : va_up f k v = f := by
  rw [← h]; exact va_up_same f k
theorem bck_bd {f g : Nat → Nat} (hf : ∀ i, f i < 8) : ∀ t, t ≤ 8 → ∀ i, bck f g t i < 8
  | 0, _, i => hf i
  | t + 1, ht, i => by
    show va_up (bck f g t) (g t) t i < 8
    by_cases c : i = g t
    · rw [c, va_up_self]; omega
    · rw [va_up_ne _ _ c]; exact bck_bd hf t (by omega) i
theorem nin_toInt {y : Int32} {N : Nat} (hN : N < 2 ^ 31) (h : ¬ inR y N) : y.toInt < 0 ∨ (N : Int) - 1 < y.toInt := by
  by_cases c : y < 0
  · exact Or.inl (Int32.lt_iff_toInt_lt.mp c)
  · obtain ⟨j, hj, rfl⟩ := nI_of c
    rw [inR_nI hj] at h
    rw [nI_toInt hj]
    omega
set_option maxRecDepth 100000 in
set_option maxHeartbeats 4000000 in
theorem kSetBells_ (l : Launch) (hst9 : l.stackTraces = false) (D : va_G) (cI cC : ClassId) (ad : Nat → Nat) (hj : xInj ad) (S : AS) (hI : AI S) (x : Int32) : vx_Met l yX3_setBells wsX3_setBells (xRm 14 10 60) (va_Pc [.ref (ad 0), .int x] (xBZ D cI cC (xXW D cI cC ad S) (xAD ad))) (xI (fun r (_ : Unit) => tSet S x = 0 ∧ r = rSet S x) (fun _ H => xXW D cI cC ad (nSet S x) H) (xAD ad)) (xX (xAD ad) (fun E H => (tSet S x = 1 ∧ E = xEA) ∧ xXW D cI cC ad S H)) 10 60 (xAD ad) := by
  obtain ⟨n, ch, pm, st, kf, rg⟩ := S
  obtain ⟨⟨hn2, hn8⟩, hch, hst, hpm8, hpm, hkv, hkb⟩ := id hI
  dsimp only at hn2 hn8 hch hst hpm8 hpm hkv hkb
  refine vx_ofW (cc := cX3_setBells) (maxL := 3) (ret := (some .int)) (by decide) rfl ?_
  intro p e s m args below meth c s₁ B hml htb hv
  obtain ⟨rfl, hP, hK, hZ⟩ := hv
  have hx := B.exec
  have hb := B.bytes
  have hr := B.returns
  have hts := atoms_spec (ws := wsX3_setBells) B.pre
  have hown : s.vm.findClass RX3 = some m.cls := findClass_of_methodNamed B.named
  have hlocks := B.notSynchronized
  have hW := hP
  have hl := lv_entry ([.ref (ad 0), .int x]) (n := 3) (Nat.le_of_ble_eq_true rfl)
  rw [lg_entry_eq]
  generalize (lg_sl ([.ref (ad 0), .int x]) ++ List.replicate (3 - (lg_sl ([.ref (ad 0), .int x])).length) Slot.unset).toArray = ls at hl ⊢
  have hl : lv_has ls 3 [(0, .ref (ad 0)), (1, .int x)] := hl
  obtain ⟨zr, zm, zs, fr, fm, fs, zf, hO, hBk, hMe, hRu, hfr, hMa, hfm, hRs, hCs, hz⟩ := id hW
  have hO : xXO D ad n ch rg s.heap := hO
  have hMe : xMe D cI (ad 2) (ad 3) st kf s.heap := hMe
  have hCs : xXC D cI ad zf pm s.heap := hCs
  have hz : ∀ k, k < ch → zf k = n := hz
  have hS : va_S (xAD ad) s.heap s.heap [] := va_S.rf
  refine lv_iload_n hx hb dX3_setBells_0 rfl (lv_at hl 1 rfl) ?_
  refine xn_iconst (v := 2) hx hb dX3_setBells_1 (by decide) ?_
  refine lv_icmp_lt (tgt := 11) hx hb dX3_setBells_2 (by decide) (fun c2 => ?_) (fun c2 => ?_)
  · have hn : ¬ (inR x 9 ∧ 2 ≤ xN x) := fun z => Int32.not_lt.mpr ((xin_rng (lo := 2) (hi := 8) (by decide) (by decide)).mpr z).1 c2
    exact x_throw (cls := xEA) (text := "bells is not 2 to 8") (ik := 47) (is := 49) (ic := 51) hx hb hst9 hts hown htb hlocks hZ hS (hl.1.trans hml.symm) (by decide +kernel) (by decide +kernel) (by decide +kernel) xbad_A (by decide +kernel) xgood_A (by decide) dX3_setBells_11 dX3_setBells_14 dX3_setBells_15 dX3_setBells_17 dX3_setBells_20 (Nat.le_of_ble_eq_true rfl) (Nat.le_of_ble_eq_true rfl) (by show 0 + 1 ≤ 10; omega) (by show 0 + 6 ≤ 60; omega) (fun H1 _ ho => ⟨⟨if_neg hn, rfl⟩, xXW_old hW ho⟩) (fun _ h => h) (by omega) (by omega)
  · refine lv_iload_n hx hb dX3_setBells_5 rfl (lv_at hl 1 rfl) ?_
    refine xn_bipush (v := 8) hx hb dX3_setBells_6 (by decide) ?_
    refine lv_icmp_le (tgt := 21) hx hb dX3_setBells_8 (by decide) (fun c8 => ?_) (fun c8 => ?_)
    · have hi := (xin_rng (lo := 2) (hi := 8) (by decide) (by decide)).mp ⟨Int32.not_lt.mp c2, c8⟩
      obtain ⟨j, hj9, hjb, rfl⟩ := inR_of hi.1
      have hl : lv_has ls 3 [(0, .ref (ad 0)), (1, .int (nI j))] := hl
      refine lv_aload_n hx hb dX3_setBells_21 rfl (lv_at hl 0 rfl) ?_
      refine x_get (v := .int (nI n)) (C := RX3) (T := TX3) (N := 8) hx hb hts (by decide +kernel) hown hK hO rfl 5 (by decide) (hts (.fieldLink RX3 37 "BellRanks" "bells" "I") (by decide +kernel)) (fun _ h9 => h9) rfl dX3_setBells_22 ?_
      refine lv_istore_n (lv' := [(2, .int (nI n)), (0, .ref (ad 0)), (1, .int (nI j))]) hx hb dX3_setBells_25 rfl hl (by decide) rfl (fun ls hl => ?_)
      refine lv_aload_n hx hb dX3_setBells_26 rfl (lv_at hl 1 rfl) ?_
      refine lv_iload_n hx hb dX3_setBells_27 rfl (lv_at hl 2 rfl) ?_
      refine x_put (v := .int (nI j)) (ty := .int) (C := RX3) (T := TX3) (N := 8) hx hb hts (by decide +kernel) tyX3 tyX3_ok nmX3 hown hK hO hS ⟨0, by omega, rfl⟩ rfl 5 (by decide) (hts (.fieldLink RX3 37 "BellRanks" "bells" "I") (by decide +kernel)) (fun _ h9 => h9) rfl (by decide +kernel) rfl rfl (Nat.le_of_ble_eq_true rfl) dX3_setBells_28 (fun H1 locs1 hN hz9 oq hS => ?_)
      have hO : xXO D ad j ch rg H1 := hN
      have hBk : xXB D cC ad H1 := va_at.kept hBk (oq _ (xne hj (by omega) (by omega) (by omega)))
      have hMe : xMe D cI (ad 2) (ad 3) st kf H1 := ⟨hMe.1.kept (oq _ (xne hj (by omega) (by omega) (by omega))), hMe.2.kept (oq _ (xne hj (by omega) (by omega) (by omega)))⟩
      have hRu : xCh D cI (ad 4) (ad 5) zr fr H1 := ⟨hRu.1.kept (oq _ (xne hj (by omega) (by omega) (by omega))), hRu.2.kept (oq _ (xne hj (by omega) (by omega) (by omega)))⟩
      have hMa : xCh D cI (ad 6) (ad 7) zm fm H1 := ⟨hMa.1.kept (oq _ (xne hj (by omega) (by omega) (by omega))), hMa.2.kept (oq _ (xne hj (by omega) (by omega) (by omega)))⟩
      have hRs : xRs D cI (ad 8) (ad 9) zs fs H1 := ⟨hRs.1.kept (oq _ (xne hj (by omega) (by omega) (by omega))), hRs.2.kept (oq _ (xne hj (by omega) (by omega) (by omega)))⟩
      have hCs : xXC D cI ad zf pm H1 := fun k hk9 => ⟨(hCs k hk9).1.kept (oq _ (xne hj (by omega) (by omega) (by omega))), (hCs k hk9).2.kept (oq _ (xne hj (by omega) (by omega) (by omega)))⟩
      refine lv_aload_n hx hb dX3_setBells_31 rfl (lv_at hl 1 rfl) ?_
      refine xn_iconst (v := 0) hx hb dX3_setBells_32 (by decide) ?_
      refine x_put (v := .int (nI 0)) (ty := .int) (C := RX3) (T := TX3) (N := 8) hx hb hts (by decide +kernel) tyX3 tyX3_ok nmX3 hown hK hO hS ⟨0, by omega, rfl⟩ rfl 6 (by decide) (hts (.fieldLink RX3 41 "BellRanks" "written" "I") (by decide +kernel)) (fun _ h9 => h9) rfl (by decide +kernel) rfl rfl (Nat.le_of_ble_eq_true rfl) dX3_setBells_33 (fun H1 locs1 hN hz9 oq hS => ?_)
      have hO : xXO D ad j 0 rg H1 := hN
      have hBk : xXB D cC ad H1 := va_at.kept hBk (oq _ (xne hj (by omega) (by omega) (by omega)))
      have hMe : xMe D cI (ad 2) (ad 3) st kf H1 := ⟨hMe.1.kept (oq _ (xne hj (by omega) (by omega) (by omega))), hMe.2.kept (oq _ (xne hj (by omega) (by omega) (by omega)))⟩
      have hRu : xCh D cI (ad 4) (ad 5) zr fr H1 := ⟨hRu.1.kept (oq _ (xne hj (by omega) (by omega) (by omega))), hRu.2.kept (oq _ (xne hj (by omega) (by omega) (by omega)))⟩
      have hMa : xCh D cI (ad 6) (ad 7) zm fm H1 := ⟨hMa.1.kept (oq _ (xne hj (by omega) (by omega) (by omega))), hMa.2.kept (oq _ (xne hj (by omega) (by omega) (by omega)))⟩
      have hRs : xRs D cI (ad 8) (ad 9) zs fs H1 := ⟨hRs.1.kept (oq _ (xne hj (by omega) (by omega) (by omega))), hRs.2.kept (oq _ (xne hj (by omega) (by omega) (by omega)))⟩
      have hCs : xXC D cI ad zf pm H1 := fun k hk9 => ⟨(hCs k hk9).1.kept (oq _ (xne hj (by omega) (by omega) (by omega))), (hCs k hk9).2.kept (oq _ (xne hj (by omega) (by omega) (by omega)))⟩
      refine lv_aload_n hx hb dX3_setBells_36 rfl (lv_at hl 1 rfl) ?_
      refine x_get (v := .ref (ad 2)) (C := RX3) (T := TX3) (N := 8) hx hb hts (by decide +kernel) hown hK hO rfl 1 (by decide) (hts (.fieldLink RX3 19 "BellRanks" "method" "LBellRanks$Method;") (by decide +kernel)) (fun _ h9 => h9) rfl dX3_setBells_37 ?_
      refine xmV (As := []) (rest := []) ⟨hx, hb, hml, hown, hts⟩ (cX1_removeAll_ l D cI cC (ad 2) (ad 3) st kf (xne hj (by omega) (by omega) (by omega))) (cwV 0 hts gX3_setBells_X1_removeAll rfl rfl rfl (by decide +kernel) ⟨Nat.le_of_ble_eq_true rfl, Nat.le_of_ble_eq_true rfl⟩) hK hMe (xRecv hK rfl hMe.1) rfl hl.1 rfl (Nat.le_of_ble_eq_true rfl) dX3_setBells_40 ⟨(by show 0 + 0 ≤ 10; omega), (by show 0 + 0 ≤ 60; omega)⟩ hS (fun q h => h.elim (fun h => ⟨2, by omega, h⟩) (fun h => ⟨3, by omega, h⟩)) (fun q h => h.elim (fun h => ⟨2, by omega, h⟩) (fun h => ⟨3, by omega, h⟩)) (fun u40 H1 locs1 hp40 hF40 hz40 hk40 hS => ?_)
      have hO : xXO D ad j 0 rg H1 := xat_keep hO hk40 (fun z => z.elim (xne hj (by omega) (by omega) (by omega)) (xne hj (by omega) (by omega) (by omega)))
      have hBk : xXB D cC ad H1 := xat_keep hBk hk40 (fun z => z.elim (xne hj (by omega) (by omega) (by omega)) (xne hj (by omega) (by omega) (by omega)))
      have hRu : xCh D cI (ad 4) (ad 5) zr fr H1 := xCh_keep hRu hk40 (fun z => z.elim (xne hj (by omega) (by omega) (by omega)) (xne hj (by omega) (by omega) (by omega))) (fun z => z.elim (xne hj (by omega) (by omega) (by omega)) (xne hj (by omega) (by omega) (by omega)))
      have hMa : xCh D cI (ad 6) (ad 7) zm fm H1 := xCh_keep hMa hk40 (fun z => z.elim (xne hj (by omega) (by omega) (by omega)) (xne hj (by omega) (by omega) (by omega))) (fun z => z.elim (xne hj (by omega) (by omega) (by omega)) (xne hj (by omega) (by omega) (by omega)))
      have hRs : xRs D cI (ad 8) (ad 9) zs fs H1 := xRs_keep hRs hk40 (fun z => z.elim (xne hj (by omega) (by omega) (by omega)) (xne hj (by omega) (by omega) (by omega))) (fun z => z.elim (xne hj (by omega) (by omega) (by omega)) (xne hj (by omega) (by omega) (by omega)))
      have hCs : xXC D cI ad zf pm H1 := xXC_keep hCs hk40 (fun i hi1 hi2 => (fun z => z.elim (xne hj (by omega) (by omega) (by omega)) (xne hj (by omega) (by omega) (by omega))))
      have hMe : xMe D cI (ad 2) (ad 3) 0 kf H1 := hF40
      refine lv_iload_n hx hb dX3_setBells_43 rfl (lv_at hl 0 rfl) ?_
      have hz : ∀ k, k < 0 → zf k = j := fun k hk => absurd hk (Nat.not_lt_zero _)
      have ht : tSet (n, ch, pm, st, kf, rg) (nI j) = 0 := if_pos hi
      refine W.widen (k := 10) (n := 60) (by omega) (by omega) ?_
      refine vx_ret ?_
      have hnw : nSet (n, ch, pm, st, kf, rg) (nI j) = (j, 0, pm, 0, kf, rg) := (if_pos ht).trans (by simp only [xN_nI hjb])
      exact x_miret hx hb hr hlocks () ⟨ht, rfl⟩ (by show xXW D cI cC ad (nSet (n, ch, pm, st, kf, rg) (nI j)) _; rw [hnw]; exact (xXW_mk (S := (j, 0, pm, 0, kf, rg)) hO hBk hMe hRu hfr hMa hfm hRs hCs hz)) hS (fun _ h => h) dX3_setBells_44
    · have hn : ¬ (inR x 9 ∧ 2 ≤ xN x) := fun z => c8 ((xin_rng (lo := 2) (hi := 8) (by decide) (by decide)).mpr z).2
      exact x_throw (cls := xEA) (text := "bells is not 2 to 8") (ik := 47) (is := 49) (ic := 51) hx hb hst9 hts hown htb hlocks hZ hS (hl.1.trans hml.symm) (by decide +kernel) (by decide +kernel) (by decide +kernel) xbad_A (by decide +kernel) xgood_A (by decide) dX3_setBells_11 dX3_setBells_14 dX3_setBells_15 dX3_setBells_17 dX3_setBells_20 (Nat.le_of_ble_eq_true rfl) (Nat.le_of_ble_eq_true rfl) (by show 0 + 1 ≤ 10; omega) (by show 0 + 6 ≤ 60; omega) (fun H1 _ ho => ⟨⟨if_neg hn, rfl⟩, xXW_old hW ho⟩) (fun _ h => h) (by omega) (by omega)

set_option maxRecDepth 100000 in
set_option maxHeartbeats 4000000 in
theorem kWrite_ (l : Launch) (hst9 : l.stackTraces = false) (D : va_G) (cI cC : ClassId) (ad : Nat → Nat) (hj : xInj ad) (S : AS) (hI : AI S) (x : Int32) : vx_Met l yX3_write wsX3_write (xRm 14 10 60) (va_Pc [.ref (ad 0), .int x] (xBZ D cI cC (xXW D cI cC ad S) (xAD ad))) (xI (fun r (_ : Unit) => tWrite S x = 0 ∧ r = rWrite S x) (fun _ H => xXW D cI cC ad (nWrite S x) H) (xAD ad)) (xX (xAD ad) (fun E H => ((tWrite S x = 1 ∧ E = xEI) ∨ (tWrite S x = 2 ∧ E = xES)) ∧ xXW D cI cC ad S H)) 10 60 (xAD ad) := by
  obtain ⟨n, ch, pm, st, kf, rg⟩ := S
  obtain ⟨⟨hn2, hn8⟩, hch, hst, hpm8, hpm, hkv, hkb⟩ := id hI
  dsimp only at hn2 hn8 hch hst hpm8 hpm hkv hkb
  refine vx_ofW (cc := cX3_write) (maxL := 3) (ret := (some .int)) (by decide) rfl ?_
  intro p e s m args below meth c s₁ B hml htb hv
  obtain ⟨rfl, hP, hK, hZ⟩ := hv
  have hx := B.exec
  have hb := B.bytes
  have hr := B.returns
  have hts := atoms_spec (ws := wsX3_write) B.pre
  have hown : s.vm.findClass RX3 = some m.cls := findClass_of_methodNamed B.named
  have hlocks := B.notSynchronized
  have hW := hP
  have hl := lv_entry ([.ref (ad 0), .int x]) (n := 3) (Nat.le_of_ble_eq_true rfl)
  rw [lg_entry_eq]
  generalize (lg_sl ([.ref (ad 0), .int x]) ++ List.replicate (3 - (lg_sl ([.ref (ad 0), .int x])).length) Slot.unset).toArray = ls at hl ⊢
  have hl : lv_has ls 3 [(0, .ref (ad 0)), (1, .int x)] := hl
  obtain ⟨zr, zm, zs, fr, fm, fs, zf, hO, hBk, hMe, hRu, hfr, hMa, hfm, hRs, hCs, hz⟩ := id hW
  have hO : xXO D ad n ch rg s.heap := hO
  have hMe : xMe D cI (ad 2) (ad 3) st kf s.heap := hMe
  have hCs : xXC D cI ad zf pm s.heap := hCs
  have hz : ∀ k, k < ch → zf k = n := hz
  have hS : va_S (xAD ad) s.heap s.heap [] := va_S.rf
  have hf8 := fac_le n hn8
  refine lv_iload_n hx hb dX3_write_0 rfl (lv_at hl 1 rfl) ?_
  refine lv_if_lt (tgt := 15) hx hb dX3_write_1 (by decide) (fun c1 => ?_) (fun c1 => ?_)
  · have hn : ¬ inR x (fac n) := fun z => z.1 c1
    exact x_throw (cls := xEI) (text := "no change of this rank") (ik := 61) (is := 63) (ic := 65) hx hb hst9 hts hown htb hlocks hZ hS (hl.1.trans hml.symm) (by decide +kernel) (by decide +kernel) (by decide +kernel) xbad_I (by decide +kernel) xgood_I (by decide) dX3_write_15 dX3_write_18 dX3_write_19 dX3_write_21 dX3_write_24 (Nat.le_of_ble_eq_true rfl) (Nat.le_of_ble_eq_true rfl) (by show 0 + 1 ≤ 10; omega) (by show 0 + 6 ≤ 60; omega) (fun H1 _ ho => ⟨Or.inl ⟨(show (if inR x (fac n) then (if ch = 16 then 2 else 0) else 1) = 1 by rw [if_neg hn]), rfl⟩, xXW_old hW ho⟩) (fun _ h => h) (by omega) (by omega)
  · refine lv_iload_n hx hb dX3_write_4 rfl (lv_at hl 1 rfl) ?_
    refine lv_aload_n hx hb dX3_write_5 rfl (lv_at hl 0 rfl) ?_
    refine x_get (v := .int (nI n)) (C := RX3) (T := TX3) (N := 8) hx hb hts (by decide +kernel) hown hK hO rfl 5 (by decide) (hts (.fieldLink RX3 37 "BellRanks" "bells" "I") (by decide +kernel)) (fun _ h9 => h9) rfl dX3_write_6 ?_
    refine xcS (As := [.int (nI n)]) (rest := [.int x]) ⟨hx, hb, hml, hown, hts⟩ (cX3_changesOf_ l D cI cC n (by omega) (by omega)) (va_cwS 1 hts gX3_write_X3_changesOf rfl rfl rfl (by decide +kernel) ⟨Nat.le_of_ble_eq_true rfl, Nat.le_of_ble_eq_true rfl⟩) hK trivial rfl hl.1 rfl (Nat.le_of_ble_eq_true rfl) dX3_write_9 ⟨(by show 0 ≤ 10; omega), (by show 0 ≤ 60; omega)⟩ (fun x9 e9 => ?_)
    subst e9
    refine lv_icmp_lt (tgt := 25) hx hb dX3_write_12 (by decide) (fun c12 => ?_) (fun c12 => ?_)
    · have hi : inR x (fac n) := (inR_ltI c1 (by omega)).mp c12
      obtain ⟨j, hj9, hjb, rfl⟩ := inR_of hi
      have hl : lv_has ls 3 [(0, .ref (ad 0)), (1, .int (nI j))] := hl
      refine lv_aload_n hx hb dX3_write_25 rfl (lv_at hl 0 rfl) ?_
      refine xtR (As := []) (rest := []) ⟨hx, hb, hml, hown, hts⟩ (cX3_openPage_ l hst9 D cI cC ad n ch rg (by omega)) (cwV 0 hts gX3_write_X3_openPage rfl rfl rfl (by decide +kernel) ⟨Nat.le_of_ble_eq_true rfl, Nat.le_of_ble_eq_true rfl⟩) hK ((hZ.kept hS.2.1).narrow (fun q h => ⟨0, by omega, h⟩)) ⟨hO, hBk⟩ (xRecv hK rfl hO) rfl hl.1 rfl (Nat.le_of_ble_eq_true rfl) dX3_write_26 ⟨(by show 0 + 1 ≤ 10; omega), (by show 0 + 6 ≤ 60; omega)⟩ hS (fun q h => ⟨0, by omega, h⟩) (fun q h => ⟨0, by omega, h⟩) (fun E ce q9 H1 locs1 hB hz9 hk9 hS h1 h2 h3 => ?_) (fun u ra H1 locs1 hp hF hz9 hk26 hS => ?_)
      · obtain ⟨rfl, hn, hO9⟩ := hB
        have hW9 : xXW D cI cC ad (n, ch, pm, st, kf, rg) H1 := xXW_mk (S := (n, ch, pm, st, kf, rg)) hO9 (xat_keep hBk hk9 (xne hj (by omega) (by omega) (by omega))) (xMe_keep hMe hk9 (xne hj (by omega) (by omega) (by omega)) (xne hj (by omega) (by omega) (by omega))) (xCh_keep hRu hk9 (xne hj (by omega) (by omega) (by omega)) (xne hj (by omega) (by omega) (by omega))) hfr (xCh_keep hMa hk9 (xne hj (by omega) (by omega) (by omega)) (xne hj (by omega) (by omega) (by omega))) hfm (xRs_keep hRs hk9 (xne hj (by omega) (by omega) (by omega)) (xne hj (by omega) (by omega) (by omega))) (xXC_keep hCs hk9 (fun i hi1 hi2 => (xne hj (by omega) (by omega) (by omega)))) hz
        exact x_pass htb hlocks h1 h2 h3 ⟨Or.inr ⟨(show (if inR (nI j) (fac n) then (if ch = 16 then 2 else 0) else 1) = 2 by rw [if_pos hi, if_pos (show ch = 16 by omega)]), rfl⟩, hW9⟩ hS (fun _ h => h) (by omega) (by omega)
      obtain ⟨rfl, hO⟩ := hF
      have hBk : xXB D cC ad H1 := xat_keep hBk hk26 (xne hj (by omega) (by omega) (by omega))
      have hMe : xMe D cI (ad 2) (ad 3) st kf H1 := xMe_keep hMe hk26 (xne hj (by omega) (by omega) (by omega)) (xne hj (by omega) (by omega) (by omega))
      have hRu : xCh D cI (ad 4) (ad 5) zr fr H1 := xCh_keep hRu hk26 (xne hj (by omega) (by omega) (by omega)) (xne hj (by omega) (by omega) (by omega))
      have hMa : xCh D cI (ad 6) (ad 7) zm fm H1 := xCh_keep hMa hk26 (xne hj (by omega) (by omega) (by omega)) (xne hj (by omega) (by omega) (by omega))
      have hRs : xRs D cI (ad 8) (ad 9) zs fs H1 := xRs_keep hRs hk26 (xne hj (by omega) (by omega) (by omega)) (xne hj (by omega) (by omega) (by omega))
      have hCs : xXC D cI ad zf pm H1 := xXC_keep hCs hk26 (fun i hi1 hi2 => (xne hj (by omega) (by omega) (by omega)))
      have hCp : xCh D cI (ad (10 + ch)) (ad (26 + ch)) (zf ch) (pm ch) H1 := hCs ch (show ch < 16 from hp)
      refine lv_astore_n (lv' := [(2, .ref (ad (10 + ch))), (0, .ref (ad 0)), (1, .int (nI j))]) hx hb dX3_write_29 rfl hl (by decide) rfl (fun ls hl => ?_)
      refine lv_aload_n hx hb dX3_write_30 rfl (lv_at hl 0 rfl) ?_
      refine lv_aload_n hx hb dX3_write_31 rfl (lv_at hl 1 rfl) ?_
      refine x_get (v := .int (nI n)) (C := RX3) (T := TX3) (N := 8) hx hb hts (by decide +kernel) hown hK hO rfl 5 (by decide) (hts (.fieldLink RX3 37 "BellRanks" "bells" "I") (by decide +kernel)) (fun _ h9 => h9) rfl dX3_write_32 ?_
      refine lv_iload_n hx hb dX3_write_35 rfl (lv_at hl 2 rfl) ?_
      refine xmV (As := [.int (nI n), .int (nI j)]) (rest := []) ⟨hx, hb, hml, hown, hts⟩ (cX0_setRank_ l D cI cC (ad (10 + ch)) (ad (26 + ch)) (zf ch) (pm ch) (xne hj (by omega) (by omega) (by omega)) (hpm8 ch) n j hn8 (by omega)) (cwV 2 hts gX3_write_X0_setRank rfl rfl rfl (by decide +kernel) ⟨Nat.le_of_ble_eq_true rfl, Nat.le_of_ble_eq_true rfl⟩) hK hCp (xRecv hK rfl hCp.1) rfl hl.1 rfl (Nat.le_of_ble_eq_true rfl) dX3_write_36 ⟨(by show 0 + 1 + 0 ≤ 10; omega), (by show 0 + 6 + 0 ≤ 60; omega)⟩ hS (fun q h => h.elim (fun h => ⟨10 + ch, by omega, h⟩) (fun h => ⟨26 + ch, by omega, h⟩)) (fun q h => h.elim (fun h => ⟨10 + ch, by omega, h⟩) (fun h => ⟨26 + ch, by omega, h⟩)) (fun u36 H1 locs1 hp36 hF36 hz36 hk36 hS => ?_)
      have hO : xXO D ad n (ch + 1) rg H1 := xat_keep hO hk36 (fun z => z.elim (xne hj (by omega) (by omega) (by omega)) (xne hj (by omega) (by omega) (by omega)))
      have hBk : xXB D cC ad H1 := xat_keep hBk hk36 (fun z => z.elim (xne hj (by omega) (by omega) (by omega)) (xne hj (by omega) (by omega) (by omega)))
      have hMe : xMe D cI (ad 2) (ad 3) st kf H1 := xMe_keep hMe hk36 (fun z => z.elim (xne hj (by omega) (by omega) (by omega)) (xne hj (by omega) (by omega) (by omega))) (fun z => z.elim (xne hj (by omega) (by omega) (by omega)) (xne hj (by omega) (by omega) (by omega)))
      have hRu : xCh D cI (ad 4) (ad 5) zr fr H1 := xCh_keep hRu hk36 (fun z => z.elim (xne hj (by omega) (by omega) (by omega)) (xne hj (by omega) (by omega) (by omega))) (fun z => z.elim (xne hj (by omega) (by omega) (by omega)) (xne hj (by omega) (by omega) (by omega)))
      have hMa : xCh D cI (ad 6) (ad 7) zm fm H1 := xCh_keep hMa hk36 (fun z => z.elim (xne hj (by omega) (by omega) (by omega)) (xne hj (by omega) (by omega) (by omega))) (fun z => z.elim (xne hj (by omega) (by omega) (by omega)) (xne hj (by omega) (by omega) (by omega)))
      have hRs : xRs D cI (ad 8) (ad 9) zs fs H1 := xRs_keep hRs hk36 (fun z => z.elim (xne hj (by omega) (by omega) (by omega)) (xne hj (by omega) (by omega) (by omega))) (fun z => z.elim (xne hj (by omega) (by omega) (by omega)) (xne hj (by omega) (by omega) (by omega)))
      have hCp : xCh D cI (ad (10 + ch)) (ad (26 + ch)) n (srG (pm ch) n j n) H1 := hF36
      have hCs := xXC_set hCs hk36 (fun i h5 h6 h7 h8 => (fun z => z.elim (xne hj (by omega) (by omega) (by omega)) (xne hj (by omega) (by omega) (by omega)))) hCp (show ch < 16 by omega)
      refine lv_aload_n hx hb dX3_write_39 rfl (lv_at hl 1 rfl) ?_
      refine x_get (v := .int (nI (ch + 1))) (C := RX3) (T := TX3) (N := 8) hx hb hts (by decide +kernel) hown hK hO rfl 6 (by decide) (hts (.fieldLink RX3 41 "BellRanks" "written" "I") (by decide +kernel)) (fun _ h9 => h9) rfl dX3_write_40 ?_
      refine xn_iconst (v := 1) hx hb dX3_write_43 (by decide) ?_
      refine xn_isub hx hb (by omega) dX3_write_44 ?_
      have hz : ∀ k, k < ch + 1 → va_up zf ch n k = n := zf_add hz
      have ht : tWrite (n, ch, pm, st, kf, rg) (nI j) = 0 := (show (if inR (nI j) (fac n) then (if ch = 16 then 2 else 0) else 1) = 0 by rw [if_pos hi, if_neg (show ¬ ch = 16 by omega)])
      refine W.widen (k := 10) (n := 60) (by omega) (by omega) ?_
      refine vx_ret ?_
      have hnw : nWrite (n, ch, pm, st, kf, rg) (nI j) = adP (n, ch, pm, st, kf, rg) (srG (pm ch) n j n) := (if_pos ht).trans (by simp only [xN_nI hjb])
      exact x_miret hx hb hr hlocks () ⟨ht, (by rw [Nat.add_sub_cancel]; rfl)⟩ (by show xXW D cI cC ad (nWrite (n, ch, pm, st, kf, rg) (nI j)) _; rw [hnw]; exact (xXW_mk (S := adP (n, ch, pm, st, kf, rg) (srG (pm ch) n j n)) hO hBk hMe hRu hfr hMa hfm hRs hCs hz)) hS (fun _ h => h) dX3_write_45
    · have hn : ¬ inR x (fac n) := fun z => c12 ((inR_ltI c1 (by omega)).mpr z)
      exact x_throw (cls := xEI) (text := "no change of this rank") (ik := 61) (is := 63) (ic := 65) hx hb hst9 hts hown htb hlocks hZ hS (hl.1.trans hml.symm) (by decide +kernel) (by decide +kernel) (by decide +kernel) xbad_I (by decide +kernel) xgood_I (by decide) dX3_write_15 dX3_write_18 dX3_write_19 dX3_write_21 dX3_write_24 (Nat.le_of_ble_eq_true rfl) (Nat.le_of_ble_eq_true rfl) (by show 0 + 1 ≤ 10; omega) (by show 0 + 6 ≤ 60; omega) (fun H1 _ ho => ⟨Or.inl ⟨(show (if inR x (fac n) then (if ch = 16 then 2 else 0) else 1) = 1 by rw [if_neg hn]), rfl⟩, xXW_old hW ho⟩) (fun _ h => h) (by omega) (by omega)

set_option maxRecDepth 100000 in
set_option maxHeartbeats 4000000 in
theorem kSwap_ (l : Launch) (hst9 : l.stackTraces = false) (D : va_G) (cI cC : ClassId) (ad : Nat → Nat) (hj : xInj ad) (S : AS) (hI : AI S) (x : Int32) (y : Int32) : vx_Met l yX3_swap wsX3_swap (xRm 14 10 60) (va_Pc [.ref (ad 0), .int x, .int y] (xBZ D cI cC (xXW D cI cC ad S) (xAD ad))) (xI (fun r (_ : Unit) => tSwap S x y = 0 ∧ r = rSwap S x y) (fun _ H => xXW D cI cC ad (nSwap S x y) H) (xAD ad)) (xX (xAD ad) (fun E H => (tSwap S x y = 1 ∧ E = xEI) ∧ xXW D cI cC ad S H)) 10 60 (xAD ad) := by
  obtain ⟨n, ch, pm, st, kf, rg⟩ := S
  obtain ⟨⟨hn2, hn8⟩, hch, hst, hpm8, hpm, hkv, hkb⟩ := id hI
  dsimp only at hn2 hn8 hch hst hpm8 hpm hkv hkb
  refine vx_ofW (cc := cX3_swap) (maxL := 4) (ret := (some .int)) (by decide) rfl ?_
  intro p e s m args below meth c s₁ B hml htb hv
  obtain ⟨rfl, hP, hK, hZ⟩ := hv
  have hx := B.exec
  have hb := B.bytes
  have hr := B.returns
  have hts := atoms_spec (ws := wsX3_swap) B.pre
  have hown : s.vm.findClass RX3 = some m.cls := findClass_of_methodNamed B.named
  have hlocks := B.notSynchronized
  have hW := hP
  have hl := lv_entry ([.ref (ad 0), .int x, .int y]) (n := 4) (Nat.le_of_ble_eq_true rfl)
  rw [lg_entry_eq]
  generalize (lg_sl ([.ref (ad 0), .int x, .int y]) ++ List.replicate (4 - (lg_sl ([.ref (ad 0), .int x, .int y])).length) Slot.unset).toArray = ls at hl ⊢
  have hl : lv_has ls 4 [(0, .ref (ad 0)), (1, .int x), (2, .int y)] := hl
  obtain ⟨zr, zm, zs, fr, fm, fs, zf, hO, hBk, hMe, hRu, hfr, hMa, hfm, hRs, hCs, hz⟩ := id hW
  have hO : xXO D ad n ch rg s.heap := hO
  have hMe : xMe D cI (ad 2) (ad 3) st kf s.heap := hMe
  have hCs : xXC D cI ad zf pm s.heap := hCs
  have hz : ∀ k, k < ch → zf k = n := hz
  have hS : va_S (xAD ad) s.heap s.heap [] := va_S.rf
  refine lv_aload_n hx hb dX3_swap_0 rfl (lv_at hl 0 rfl) ?_
  refine lv_iload_n hx hb dX3_swap_1 rfl (lv_at hl 1 rfl) ?_
  refine xtR (As := [.int x]) (rest := []) ⟨hx, hb, hml, hown, hts⟩ (cX3_find_ l hst9 D cI cC ad _ n ch rg (by omega) x) (cwV 1 hts gX3_swap_X3_find rfl rfl rfl (by decide +kernel) ⟨Nat.le_of_ble_eq_true rfl, Nat.le_of_ble_eq_true rfl⟩) hK ((hZ.kept hS.2.1).narrow (fun q h => h.elim)) ⟨rfl, hO, hBk⟩ (xRecv hK rfl hO) rfl hl.1 rfl (Nat.le_of_ble_eq_true rfl) dX3_swap_2 ⟨(by show 0 + 1 ≤ 10; omega), (by show 0 + 6 ≤ 60; omega)⟩ hS (fun q h => h.elim) (fun q h => h.elim) (fun E ce q9 H1 locs1 hB hz9 hk9 hS h1 h2 h3 => ?_) (fun u ra H1 locs1 hp hF hz9 hk2 hS => ?_)
  · obtain ⟨rfl, hn⟩ := hB
    exact x_pass htb hlocks h1 h2 h3 ⟨⟨if_neg (fun z => hn z.1), rfl⟩, (xXW_old hW (fun x9 hx9 => hk9 x9 hx9 id))⟩ hS (fun _ h => h) (by omega) (by omega)
  obtain ⟨rfl, hra⟩ := hF
  have hi2 := hp
  obtain ⟨j1, hj1, hj1b, rfl⟩ := inR_of hp
  rw [xN_nI hj1b] at hra
  subst hra
  have hl : lv_has ls 4 [(0, .ref (ad 0)), (1, .int (nI j1)), (2, .int y)] := hl
  have hC1 : xCh D cI (ad (10 + j1)) (ad (26 + j1)) n (pm j1) s.heap := xXC_at hCs (show j1 < 16 by omega) (hz j1 hj1)
  have hi2x := hi2
  refine lv_astore_n (lv' := [(3, .ref (ad (10 + j1))), (0, .ref (ad 0)), (1, .int (nI j1)), (2, .int y)]) hx hb dX3_swap_5 rfl hl (by decide) rfl (fun ls hl => ?_)
  refine lv_iload_n hx hb dX3_swap_6 rfl (lv_at hl 3 rfl) ?_
  refine lv_if_lt (tgt := 20) hx hb dX3_swap_7 (by decide) (fun c7 => ?_) (fun c7 => ?_)
  · have hn : ¬ inR y (n - 1) := fun z => z.1 c7
    exact x_throw (cls := xEI) (text := "no neighbours at this place") (ik := 61) (is := 78) (ic := 65) hx hb hst9 hts hown htb hlocks hZ hS (hl.1.trans hml.symm) (by decide +kernel) (by decide +kernel) (by decide +kernel) xbad_I (by decide +kernel) xgood_I (by decide) dX3_swap_20 dX3_swap_23 dX3_swap_24 dX3_swap_26 dX3_swap_29 (Nat.le_of_ble_eq_true rfl) (Nat.le_of_ble_eq_true rfl) (by show 0 + 1 + 1 ≤ 10; omega) (by show 0 + 6 + 6 ≤ 60; omega) (fun H1 _ ho => ⟨⟨if_neg (fun z => hn z.2), rfl⟩, xXW_old hW ho⟩) (fun _ h => h) (by omega) (by omega)
  · refine lv_iload_n hx hb dX3_swap_10 rfl (lv_at hl 3 rfl) ?_
    refine lv_aload_n hx hb dX3_swap_11 rfl (lv_at hl 1 rfl) ?_
    refine x_get (v := .int (nI n)) (C := RX3) (T := TX3) (N := 8) hx hb hts (by decide +kernel) hown hK hO rfl 5 (by decide) (hts (.fieldLink RX3 37 "BellRanks" "bells" "I") (by decide +kernel)) (fun _ h9 => h9) rfl dX3_swap_12 ?_
    refine xn_iconst (v := 2) hx hb dX3_swap_15 (by decide) ?_
    refine xn_isub hx hb (by omega) dX3_swap_16 ?_
    refine lv_icmp_le (tgt := 30) hx hb dX3_swap_17 (by decide) (fun c17 => ?_) (fun c17 => ?_)
    · have hle := (inR_leI c7 (N := n - 2) (by omega))
      rw [show n - 2 + 1 = n - 1 by omega] at hle
      have hi2 : inR y (n - 1) := hle.mp c17
      obtain ⟨j2, hj2, hj2b, rfl⟩ := inR_of hi2
      have hl : lv_has ls 4 [(3, .ref (ad (10 + j1))), (0, .ref (ad 0)), (1, .int (nI j1)), (2, .int (nI j2))] := hl
      refine lv_aload_n hx hb dX3_swap_30 rfl (lv_at hl 0 rfl) ?_
      refine lv_iload_n hx hb dX3_swap_31 rfl (lv_at hl 3 rfl) ?_
      refine xmV (As := [.int (nI j2)]) (rest := []) ⟨hx, hb, hml, hown, hts⟩ (cX0_exchange_ l D cI cC (ad (10 + j1)) (ad (26 + j1)) n (pm j1) (xne hj (by omega) (by omega) (by omega)) j2 (by omega)) (cwV 1 hts gX3_swap_X0_exchange rfl rfl rfl (by decide +kernel) ⟨Nat.le_of_ble_eq_true rfl, Nat.le_of_ble_eq_true rfl⟩) hK hC1 (xRecv hK rfl hC1.1) rfl hl.1 rfl (Nat.le_of_ble_eq_true rfl) dX3_swap_32 ⟨(by show 0 + 1 + 0 ≤ 10; omega), (by show 0 + 6 + 0 ≤ 60; omega)⟩ hS (fun q h => ⟨26 + j1, by omega, h⟩) (fun q h => ⟨26 + j1, by omega, h⟩) (fun u32 H1 locs1 hp32 hF32 hz32 hk32 hS => ?_)
      have hO : xXO D ad n ch rg H1 := xat_keep hO hk32 (xne hj (by omega) (by omega) (by omega))
      have hBk : xXB D cC ad H1 := xat_keep hBk hk32 (xne hj (by omega) (by omega) (by omega))
      have hMe : xMe D cI (ad 2) (ad 3) st kf H1 := xMe_keep hMe hk32 (xne hj (by omega) (by omega) (by omega)) (xne hj (by omega) (by omega) (by omega))
      have hRu : xCh D cI (ad 4) (ad 5) zr fr H1 := xCh_keep hRu hk32 (xne hj (by omega) (by omega) (by omega)) (xne hj (by omega) (by omega) (by omega))
      have hMa : xCh D cI (ad 6) (ad 7) zm fm H1 := xCh_keep hMa hk32 (xne hj (by omega) (by omega) (by omega)) (xne hj (by omega) (by omega) (by omega))
      have hRs : xRs D cI (ad 8) (ad 9) zs fs H1 := xRs_keep hRs hk32 (xne hj (by omega) (by omega) (by omega)) (xne hj (by omega) (by omega) (by omega))
      have hC1 : xCh D cI (ad (10 + j1)) (ad (26 + j1)) n (xch (pm j1) j2) H1 := hF32
      have hCs := xXC_set hCs hk32 (fun i h5 h6 h7 h8 => (xne hj (by omega) (by omega) (by omega))) hC1 (show j1 < 16 by omega)
      refine lv_aload_n hx hb dX3_swap_35 rfl (lv_at hl 0 rfl) ?_
      refine xcV (As := []) (rest := []) ⟨hx, hb, hml, hown, hts⟩ (cX0_rank_ l D cI cC (ad (10 + j1)) (ad (26 + j1)) n (xch (pm j1) j2) hn8 (fun i9 => Nat.lt_trans ((xch_bd (hpm8 j1)) i9) (by decide))) (cwV 0 hts gX3_swap_X0_rank rfl rfl rfl (by decide +kernel) ⟨Nat.le_of_ble_eq_true rfl, Nat.le_of_ble_eq_true rfl⟩) hK hC1 (xRecv hK rfl hC1.1) rfl hl.1 rfl (Nat.le_of_ble_eq_true rfl) dX3_swap_36 ⟨(by show 0 + 1 ≤ 10; omega), (by show 0 + 6 ≤ 60; omega)⟩ (fun x36 e36 => ?_)
      subst e36
      have hz : ∀ k, k < ch → va_up zf j1 n k = n := zf_set hz
      have ht : tSwap (n, ch, pm, st, kf, rg) (nI j1) (nI j2) = 0 := if_pos ⟨hi2x, hi2⟩
      refine W.widen (k := 10) (n := 60) (by omega) (by omega) ?_
      refine vx_ret ?_
      have hnw : nSwap (n, ch, pm, st, kf, rg) (nI j1) (nI j2) = upP (n, ch, pm, st, kf, rg) j1 (xch (pm j1) j2) := (if_pos ht).trans (by simp only [xN_nI hj1b, xN_nI hj2b])
      exact x_miret hx hb hr hlocks () ⟨ht, (by show nI _ = rSwap _ _ _; unfold rSwap; simp only [xN_nI hj1b, xN_nI hj2b])⟩ (by show xXW D cI cC ad (nSwap (n, ch, pm, st, kf, rg) (nI j1) (nI j2)) _; rw [hnw]; exact (xXW_mk (S := upP (n, ch, pm, st, kf, rg) j1 (xch (pm j1) j2)) hO hBk hMe hRu hfr hMa hfm hRs hCs hz)) hS (fun _ h => h) dX3_swap_39
    · have hle := (inR_leI c7 (N := n - 2) (by omega))
      rw [show n - 2 + 1 = n - 1 by omega] at hle
      have hn : ¬ inR y (n - 1) := fun z => c17 (hle.mpr z)
      exact x_throw (cls := xEI) (text := "no neighbours at this place") (ik := 61) (is := 78) (ic := 65) hx hb hst9 hts hown htb hlocks hZ hS (hl.1.trans hml.symm) (by decide +kernel) (by decide +kernel) (by decide +kernel) xbad_I (by decide +kernel) xgood_I (by decide) dX3_swap_20 dX3_swap_23 dX3_swap_24 dX3_swap_26 dX3_swap_29 (Nat.le_of_ble_eq_true rfl) (Nat.le_of_ble_eq_true rfl) (by show 0 + 1 + 1 ≤ 10; omega) (by show 0 + 6 + 6 ≤ 60; omega) (fun H1 _ ho => ⟨⟨if_neg (fun z => hn z.2), rfl⟩, xXW_old hW ho⟩) (fun _ h => h) (by omega) (by omega)

set_option maxRecDepth 100000 in
set_option maxHeartbeats 4000000 in
theorem kNext_ (l : Launch) (hst9 : l.stackTraces = false) (D : va_G) (cI cC : ClassId) (ad : Nat → Nat) (hj : xInj ad) (S : AS) (hI : AI S) (x : Int32) : vx_Met l yX3_next wsX3_next (xRm 14 10 60) (va_Pc [.ref (ad 0), .int x] (xBZ D cI cC (xXW D cI cC ad S) (xAD ad))) (xI (fun r (_ : Unit) => tIn S x = 0 ∧ r = rNext S x) (fun _ H => xXW D cI cC ad (nNext S x) H) (xAD ad)) (xX (xAD ad) (fun E H => (tIn S x = 1 ∧ E = xEI) ∧ xXW D cI cC ad S H)) 10 60 (xAD ad) := by
  obtain ⟨n, ch, pm, st, kf, rg⟩ := S
  obtain ⟨⟨hn2, hn8⟩, hch, hst, hpm8, hpm, hkv, hkb⟩ := id hI
  dsimp only at hn2 hn8 hch hst hpm8 hpm hkv hkb
  refine vx_ofW (cc := cX3_next) (maxL := 4) (ret := (some .int)) (by decide) rfl ?_
  intro p e s m args below meth c s₁ B hml htb hv
  obtain ⟨rfl, hP, hK, hZ⟩ := hv
  have hx := B.exec
  have hb := B.bytes
  have hr := B.returns
  have hts := atoms_spec (ws := wsX3_next) B.pre
  have hown : s.vm.findClass RX3 = some m.cls := findClass_of_methodNamed B.named
  have hlocks := B.notSynchronized
  have hW := hP
  have hl := lv_entry ([.ref (ad 0), .int x]) (n := 4) (Nat.le_of_ble_eq_true rfl)
  rw [lg_entry_eq]
  generalize (lg_sl ([.ref (ad 0), .int x]) ++ List.replicate (4 - (lg_sl ([.ref (ad 0), .int x])).length) Slot.unset).toArray = ls at hl ⊢
  have hl : lv_has ls 4 [(0, .ref (ad 0)), (1, .int x)] := hl
  obtain ⟨zr, zm, zs, fr, fm, fs, zf, hO, hBk, hMe, hRu, hfr, hMa, hfm, hRs, hCs, hz⟩ := id hW
  have hO : xXO D ad n ch rg s.heap := hO
  have hMe : xMe D cI (ad 2) (ad 3) st kf s.heap := hMe
  have hCs : xXC D cI ad zf pm s.heap := hCs
  have hz : ∀ k, k < ch → zf k = n := hz
  have hS : va_S (xAD ad) s.heap s.heap [] := va_S.rf
  have hf8 := fac_le n hn8
  refine lv_aload_n hx hb dX3_next_0 rfl (lv_at hl 0 rfl) ?_
  refine lv_iload_n hx hb dX3_next_1 rfl (lv_at hl 1 rfl) ?_
  refine xtR (As := [.int x]) (rest := []) ⟨hx, hb, hml, hown, hts⟩ (cX3_find_ l hst9 D cI cC ad _ n ch rg (by omega) x) (cwV 1 hts gX3_next_X3_find rfl rfl rfl (by decide +kernel) ⟨Nat.le_of_ble_eq_true rfl, Nat.le_of_ble_eq_true rfl⟩) hK ((hZ.kept hS.2.1).narrow (fun q h => h.elim)) ⟨rfl, hO, hBk⟩ (xRecv hK rfl hO) rfl hl.1 rfl (Nat.le_of_ble_eq_true rfl) dX3_next_2 ⟨(by show 0 + 1 ≤ 10; omega), (by show 0 + 6 ≤ 60; omega)⟩ hS (fun q h => h.elim) (fun q h => h.elim) (fun E ce q9 H1 locs1 hB hz9 hk9 hS h1 h2 h3 => ?_) (fun u ra H1 locs1 hp hF hz9 hk2 hS => ?_)
  · obtain ⟨rfl, hn⟩ := hB
    exact x_pass htb hlocks h1 h2 h3 ⟨⟨if_neg hn, rfl⟩, (xXW_old hW (fun x9 hx9 => hk9 x9 hx9 id))⟩ hS (fun _ h => h) (by omega) (by omega)
  obtain ⟨rfl, hra⟩ := hF
  have hi2 := hp
  obtain ⟨j1, hj1, hj1b, rfl⟩ := inR_of hp
  rw [xN_nI hj1b] at hra
  subst hra
  have hl : lv_has ls 4 [(0, .ref (ad 0)), (1, .int (nI j1))] := hl
  have hC1 : xCh D cI (ad (10 + j1)) (ad (26 + j1)) n (pm j1) s.heap := xXC_at hCs (show j1 < 16 by omega) (hz j1 hj1)
  refine lv_astore_n (lv' := [(2, .ref (ad (10 + j1))), (0, .ref (ad 0)), (1, .int (nI j1))]) hx hb dX3_next_5 rfl hl (by decide) rfl (fun ls hl => ?_)
  refine lv_aload_n hx hb dX3_next_6 rfl (lv_at hl 0 rfl) ?_
  refine xcV (As := []) (rest := []) ⟨hx, hb, hml, hown, hts⟩ (cX0_rank_ l D cI cC (ad (10 + j1)) (ad (26 + j1)) n (pm j1) hn8 (fun i9 => Nat.lt_trans ((hpm8 j1) i9) (by decide))) (cwV 0 hts gX3_next_X0_rank rfl rfl rfl (by decide +kernel) ⟨Nat.le_of_ble_eq_true rfl, Nat.le_of_ble_eq_true rfl⟩) hK hC1 (xRecv hK rfl hC1.1) rfl hl.1 rfl (Nat.le_of_ble_eq_true rfl) dX3_next_7 ⟨(by show 0 + 1 ≤ 10; omega), (by show 0 + 6 ≤ 60; omega)⟩ (fun x7 e7 => ?_)
  subst e7
  refine xn_iconst (v := 1) hx hb dX3_next_10 (by decide) ?_
  refine xn_iadd hx hb dX3_next_11 ?_
  refine lv_istore_n (lv' := [(3, .int (nI (hrk (pm j1) n n + 1))), (2, .ref (ad (10 + j1))), (0, .ref (ad 0)), (1, .int (nI j1))]) hx hb dX3_next_12 rfl hl (by decide) rfl (fun ls hl => ?_)
  refine lv_iload_n hx hb dX3_next_13 rfl (lv_at hl 0 rfl) ?_
  refine lv_aload_n hx hb dX3_next_14 rfl (lv_at hl 2 rfl) ?_
  refine x_get (v := .int (nI n)) (C := RX3) (T := TX3) (N := 8) hx hb hts (by decide +kernel) hown hK hO rfl 5 (by decide) (hts (.fieldLink RX3 37 "BellRanks" "bells" "I") (by decide +kernel)) (fun _ h9 => h9) rfl dX3_next_15 ?_
  refine xcS (As := [.int (nI n)]) (rest := [.int (nI (hrk (pm j1) n n + 1))]) ⟨hx, hb, hml, hown, hts⟩ (cX3_changesOf_ l D cI cC n (by omega) (by omega)) (va_cwS 1 hts gX3_next_X3_changesOf rfl rfl rfl (by decide +kernel) ⟨Nat.le_of_ble_eq_true rfl, Nat.le_of_ble_eq_true rfl⟩) hK trivial rfl hl.1 rfl (Nat.le_of_ble_eq_true rfl) dX3_next_18 ⟨(by show 0 + 1 ≤ 10; omega), (by show 0 + 6 ≤ 60; omega)⟩ (fun x18 e18 => ?_)
  subst e18
  refine xn_icmp_lt (tgt := 26) hx hb dX3_next_21 (by decide) (by have := hrk_lt (pm j1) n; omega) (by omega) (fun c21 => ?_) (fun c21 => ?_)
  · have hrl := hrk_lt (pm j1) n
    have hnx : nxr (n, ch, pm, st, kf, rg) j1 = hrk (pm j1) n n + 1 := Nat.mod_eq_of_lt c21
    refine lv_aload_n hx hb dX3_next_26 rfl (lv_at hl 1 rfl) ?_
    refine lv_aload_n hx hb dX3_next_27 rfl (lv_at hl 2 rfl) ?_
    refine x_get (v := .int (nI n)) (C := RX3) (T := TX3) (N := 8) hx hb hts (by decide +kernel) hown hK hO rfl 5 (by decide) (hts (.fieldLink RX3 37 "BellRanks" "bells" "I") (by decide +kernel)) (fun _ h9 => h9) rfl dX3_next_28 ?_
    refine lv_iload_n hx hb dX3_next_31 rfl (lv_at hl 0 rfl) ?_
    refine xmV (As := [.int (nI n), .int (nI (hrk (pm j1) n n + 1))]) (rest := []) ⟨hx, hb, hml, hown, hts⟩ (cX0_setRank_ l D cI cC (ad (10 + j1)) (ad (26 + j1)) n (pm j1) (xne hj (by omega) (by omega) (by omega)) (hpm8 j1) n (hrk (pm j1) n n + 1) hn8 (by have := hrk_lt (pm j1) n; omega)) (cwV 2 hts gX3_next_X0_setRank rfl rfl rfl (by decide +kernel) ⟨Nat.le_of_ble_eq_true rfl, Nat.le_of_ble_eq_true rfl⟩) hK hC1 (xRecv hK rfl hC1.1) rfl hl.1 rfl (Nat.le_of_ble_eq_true rfl) dX3_next_32 ⟨(by show 0 + 1 + 0 ≤ 10; omega), (by show 0 + 6 + 0 ≤ 60; omega)⟩ hS (fun q h => h.elim (fun h => ⟨10 + j1, by omega, h⟩) (fun h => ⟨26 + j1, by omega, h⟩)) (fun q h => h.elim (fun h => ⟨10 + j1, by omega, h⟩) (fun h => ⟨26 + j1, by omega, h⟩)) (fun u32 H1 locs1 hp32 hF32 hz32 hk32 hS => ?_)
    have hO : xXO D ad n ch rg H1 := xat_keep hO hk32 (fun z => z.elim (xne hj (by omega) (by omega) (by omega)) (xne hj (by omega) (by omega) (by omega)))
    have hBk : xXB D cC ad H1 := xat_keep hBk hk32 (fun z => z.elim (xne hj (by omega) (by omega) (by omega)) (xne hj (by omega) (by omega) (by omega)))
    have hMe : xMe D cI (ad 2) (ad 3) st kf H1 := xMe_keep hMe hk32 (fun z => z.elim (xne hj (by omega) (by omega) (by omega)) (xne hj (by omega) (by omega) (by omega))) (fun z => z.elim (xne hj (by omega) (by omega) (by omega)) (xne hj (by omega) (by omega) (by omega)))
    have hRu : xCh D cI (ad 4) (ad 5) zr fr H1 := xCh_keep hRu hk32 (fun z => z.elim (xne hj (by omega) (by omega) (by omega)) (xne hj (by omega) (by omega) (by omega))) (fun z => z.elim (xne hj (by omega) (by omega) (by omega)) (xne hj (by omega) (by omega) (by omega)))
    have hMa : xCh D cI (ad 6) (ad 7) zm fm H1 := xCh_keep hMa hk32 (fun z => z.elim (xne hj (by omega) (by omega) (by omega)) (xne hj (by omega) (by omega) (by omega))) (fun z => z.elim (xne hj (by omega) (by omega) (by omega)) (xne hj (by omega) (by omega) (by omega)))
    have hRs : xRs D cI (ad 8) (ad 9) zs fs H1 := xRs_keep hRs hk32 (fun z => z.elim (xne hj (by omega) (by omega) (by omega)) (xne hj (by omega) (by omega) (by omega))) (fun z => z.elim (xne hj (by omega) (by omega) (by omega)) (xne hj (by omega) (by omega) (by omega)))
    have hC1 : xCh D cI (ad (10 + j1)) (ad (26 + j1)) n (srG (pm j1) n (hrk (pm j1) n n + 1) n) H1 := hF32
    have hCs := xXC_set hCs hk32 (fun i h5 h6 h7 h8 => (fun z => z.elim (xne hj (by omega) (by omega) (by omega)) (xne hj (by omega) (by omega) (by omega)))) hC1 (show j1 < 16 by omega)
    refine lv_iload_n hx hb dX3_next_35 rfl (lv_at hl 0 rfl) ?_
    have hz : ∀ k, k < ch → va_up zf j1 n k = n := zf_set hz
    have ht : tIn (n, ch, pm, st, kf, rg) (nI j1) = 0 := if_pos hi2
    refine W.widen (k := 10) (n := 60) (by omega) (by omega) ?_
    refine vx_ret ?_
    have hnw : nNext (n, ch, pm, st, kf, rg) (nI j1) = upP (n, ch, pm, st, kf, rg) j1 (srG (pm j1) n (hrk (pm j1) n n + 1) n) := (if_pos ht).trans (by simp only [xN_nI hj1b]; rw [hnx])
    exact x_miret hx hb hr hlocks () ⟨ht, (by show nI _ = rNext _ _; unfold rNext; simp only [xN_nI hj1b]; rw [hnx])⟩ (by show xXW D cI cC ad (nNext (n, ch, pm, st, kf, rg) (nI j1)) _; rw [hnw]; exact (xXW_mk (S := upP (n, ch, pm, st, kf, rg) j1 (srG (pm j1) n (hrk (pm j1) n n + 1) n)) hO hBk hMe hRu hfr hMa hfm hRs hCs hz)) hS (fun _ h => h) dX3_next_36
  · have hrl := hrk_lt (pm j1) n
    have hnx : nxr (n, ch, pm, st, kf, rg) j1 = 0 := by
      show (hrk (pm j1) n n + 1) % fac n = 0
      rw [show hrk (pm j1) n n + 1 = fac n by omega, Nat.mod_self]
    refine xn_iconst (v := 0) hx hb dX3_next_24 (by decide) ?_
    refine lv_istore_n (lv' := [(3, .int (nI 0)), (2, .ref (ad (10 + j1))), (0, .ref (ad 0)), (1, .int (nI j1))]) hx hb dX3_next_25 rfl hl (by decide) rfl (fun ls hl => ?_)
    refine lv_aload_n hx hb dX3_next_26 rfl (lv_at hl 1 rfl) ?_
    refine lv_aload_n hx hb dX3_next_27 rfl (lv_at hl 2 rfl) ?_
    refine x_get (v := .int (nI n)) (C := RX3) (T := TX3) (N := 8) hx hb hts (by decide +kernel) hown hK hO rfl 5 (by decide) (hts (.fieldLink RX3 37 "BellRanks" "bells" "I") (by decide +kernel)) (fun _ h9 => h9) rfl dX3_next_28 ?_
    refine lv_iload_n hx hb dX3_next_31 rfl (lv_at hl 0 rfl) ?_
    refine xmV (As := [.int (nI n), .int (nI 0)]) (rest := []) ⟨hx, hb, hml, hown, hts⟩ (cX0_setRank_ l D cI cC (ad (10 + j1)) (ad (26 + j1)) n (pm j1) (xne hj (by omega) (by omega) (by omega)) (hpm8 j1) n 0 hn8 (by decide)) (cwV 2 hts gX3_next_X0_setRank rfl rfl rfl (by decide +kernel) ⟨Nat.le_of_ble_eq_true rfl, Nat.le_of_ble_eq_true rfl⟩) hK hC1 (xRecv hK rfl hC1.1) rfl hl.1 rfl (Nat.le_of_ble_eq_true rfl) dX3_next_32 ⟨(by show 0 + 1 + 0 ≤ 10; omega), (by show 0 + 6 + 0 ≤ 60; omega)⟩ hS (fun q h => h.elim (fun h => ⟨10 + j1, by omega, h⟩) (fun h => ⟨26 + j1, by omega, h⟩)) (fun q h => h.elim (fun h => ⟨10 + j1, by omega, h⟩) (fun h => ⟨26 + j1, by omega, h⟩)) (fun u32 H1 locs1 hp32 hF32 hz32 hk32 hS => ?_)
    have hO : xXO D ad n ch rg H1 := xat_keep hO hk32 (fun z => z.elim (xne hj (by omega) (by omega) (by omega)) (xne hj (by omega) (by omega) (by omega)))
    have hBk : xXB D cC ad H1 := xat_keep hBk hk32 (fun z => z.elim (xne hj (by omega) (by omega) (by omega)) (xne hj (by omega) (by omega) (by omega)))
    have hMe : xMe D cI (ad 2) (ad 3) st kf H1 := xMe_keep hMe hk32 (fun z => z.elim (xne hj (by omega) (by omega) (by omega)) (xne hj (by omega) (by omega) (by omega))) (fun z => z.elim (xne hj (by omega) (by omega) (by omega)) (xne hj (by omega) (by omega) (by omega)))
    have hRu : xCh D cI (ad 4) (ad 5) zr fr H1 := xCh_keep hRu hk32 (fun z => z.elim (xne hj (by omega) (by omega) (by omega)) (xne hj (by omega) (by omega) (by omega))) (fun z => z.elim (xne hj (by omega) (by omega) (by omega)) (xne hj (by omega) (by omega) (by omega)))
    have hMa : xCh D cI (ad 6) (ad 7) zm fm H1 := xCh_keep hMa hk32 (fun z => z.elim (xne hj (by omega) (by omega) (by omega)) (xne hj (by omega) (by omega) (by omega))) (fun z => z.elim (xne hj (by omega) (by omega) (by omega)) (xne hj (by omega) (by omega) (by omega)))
    have hRs : xRs D cI (ad 8) (ad 9) zs fs H1 := xRs_keep hRs hk32 (fun z => z.elim (xne hj (by omega) (by omega) (by omega)) (xne hj (by omega) (by omega) (by omega))) (fun z => z.elim (xne hj (by omega) (by omega) (by omega)) (xne hj (by omega) (by omega) (by omega)))
    have hC1 : xCh D cI (ad (10 + j1)) (ad (26 + j1)) n (srG (pm j1) n 0 n) H1 := hF32
    have hCs := xXC_set hCs hk32 (fun i h5 h6 h7 h8 => (fun z => z.elim (xne hj (by omega) (by omega) (by omega)) (xne hj (by omega) (by omega) (by omega)))) hC1 (show j1 < 16 by omega)
    refine lv_iload_n hx hb dX3_next_35 rfl (lv_at hl 0 rfl) ?_
    have hz : ∀ k, k < ch → va_up zf j1 n k = n := zf_set hz
    have ht : tIn (n, ch, pm, st, kf, rg) (nI j1) = 0 := if_pos hi2
    refine W.widen (k := 10) (n := 60) (by omega) (by omega) ?_
    refine vx_ret ?_
    have hnw : nNext (n, ch, pm, st, kf, rg) (nI j1) = upP (n, ch, pm, st, kf, rg) j1 (srG (pm j1) n 0 n) := (if_pos ht).trans (by simp only [xN_nI hj1b]; rw [hnx])
    exact x_miret hx hb hr hlocks () ⟨ht, (by show nI _ = rNext _ _; unfold rNext; simp only [xN_nI hj1b]; rw [hnx])⟩ (by show xXW D cI cC ad (nNext (n, ch, pm, st, kf, rg) (nI j1)) _; rw [hnw]; exact (xXW_mk (S := upP (n, ch, pm, st, kf, rg) j1 (srG (pm j1) n 0 n)) hO hBk hMe hRu hfr hMa hfm hRs hCs hz)) hS (fun _ h => h) dX3_next_36

set_option maxRecDepth 100000 in
set_option maxHeartbeats 4000000 in
theorem kBehind_ (l : Launch) (hst9 : l.stackTraces = false) (D : va_G) (cI cC : ClassId) (ad : Nat → Nat) (hj : xInj ad) (S : AS) (hI : AI S) (x : Int32) (y : Int32) : vx_Met l yX3_behind wsX3_behind (xRm 14 10 60) (va_Pc [.ref (ad 0), .int x, .int y] (xBZ D cI cC (xXW D cI cC ad S) (xAD ad))) (xI (fun r (_ : Unit) => tBehind S x y = 0 ∧ r = rBehind S x y) (fun _ H => xXW D cI cC ad (nBehind S x y) H) (xAD ad)) (xX (xAD ad) (fun E H => ((tBehind S x y = 1 ∧ E = xEI) ∨ (tBehind S x y = 2 ∧ E = xES)) ∧ xXW D cI cC ad S H)) 10 60 (xAD ad) := by
  obtain ⟨n, ch, pm, st, kf, rg⟩ := S
  obtain ⟨⟨hn2, hn8⟩, hch, hst, hpm8, hpm, hkv, hkb⟩ := id hI
  dsimp only at hn2 hn8 hch hst hpm8 hpm hkv hkb
  refine vx_ofW (cc := cX3_behind) (maxL := 6) (ret := (some .int)) (by decide) rfl ?_
  intro p e s m args below meth c s₁ B hml htb hv
  obtain ⟨rfl, hP, hK, hZ⟩ := hv
  have hx := B.exec
  have hb := B.bytes
  have hr := B.returns
  have hts := atoms_spec (ws := wsX3_behind) B.pre
  have hown : s.vm.findClass RX3 = some m.cls := findClass_of_methodNamed B.named
  have hlocks := B.notSynchronized
  have hW := hP
  have hl := lv_entry ([.ref (ad 0), .int x, .int y]) (n := 6) (Nat.le_of_ble_eq_true rfl)
  rw [lg_entry_eq]
  generalize (lg_sl ([.ref (ad 0), .int x, .int y]) ++ List.replicate (6 - (lg_sl ([.ref (ad 0), .int x, .int y])).length) Slot.unset).toArray = ls at hl ⊢
  have hl : lv_has ls 6 [(0, .ref (ad 0)), (1, .int x), (2, .int y)] := hl
  obtain ⟨zr, zm, zs, fr, fm, fs, zf, hO, hBk, hMe, hRu, hfr, hMa, hfm, hRs, hCs, hz⟩ := id hW
  have hO : xXO D ad n ch rg s.heap := hO
  have hMe : xMe D cI (ad 2) (ad 3) st kf s.heap := hMe
  have hCs : xXC D cI ad zf pm s.heap := hCs
  have hz : ∀ k, k < ch → zf k = n := hz
  have hS : va_S (xAD ad) s.heap s.heap [] := va_S.rf
  refine lv_aload_n hx hb dX3_behind_0 rfl (lv_at hl 0 rfl) ?_
  refine lv_iload_n hx hb dX3_behind_1 rfl (lv_at hl 1 rfl) ?_
  refine xtR (As := [.int x]) (rest := []) ⟨hx, hb, hml, hown, hts⟩ (cX3_find_ l hst9 D cI cC ad _ n ch rg (by omega) x) (cwV 1 hts gX3_behind_X3_find rfl rfl rfl (by decide +kernel) ⟨Nat.le_of_ble_eq_true rfl, Nat.le_of_ble_eq_true rfl⟩) hK ((hZ.kept hS.2.1).narrow (fun q h => h.elim)) ⟨rfl, hO, hBk⟩ (xRecv hK rfl hO) rfl hl.1 rfl (Nat.le_of_ble_eq_true rfl) dX3_behind_2 ⟨(by show 0 + 1 ≤ 10; omega), (by show 0 + 6 ≤ 60; omega)⟩ hS (fun q h => h.elim) (fun q h => h.elim) (fun E ce q9 H1 locs1 hB hz9 hk9 hS h1 h2 h3 => ?_) (fun u ra H1 locs1 hp hF hz9 hk2 hS => ?_)
  · obtain ⟨rfl, hn⟩ := hB
    exact x_pass htb hlocks h1 h2 h3 ⟨Or.inl ⟨(show (if inR x ch ∧ inR y ch then (if ch = 16 then 2 else 0) else 1) = 1 by rw [if_neg (fun z => hn z.1)]), rfl⟩, (xXW_old hW (fun x9 hx9 => hk9 x9 hx9 id))⟩ hS (fun _ h => h) (by omega) (by omega)
  obtain ⟨rfl, hra⟩ := hF
  have hi2 := hp
  obtain ⟨j1, hj1, hj1b, rfl⟩ := inR_of hp
  rw [xN_nI hj1b] at hra
  subst hra
  have hl : lv_has ls 6 [(0, .ref (ad 0)), (1, .int (nI j1)), (2, .int y)] := hl
  have hC1 : xCh D cI (ad (10 + j1)) (ad (26 + j1)) n (pm j1) s.heap := xXC_at hCs (show j1 < 16 by omega) (hz j1 hj1)
  refine lv_astore_n (lv' := [(3, .ref (ad (10 + j1))), (0, .ref (ad 0)), (1, .int (nI j1)), (2, .int y)]) hx hb dX3_behind_5 rfl hl (by decide) rfl (fun ls hl => ?_)
  refine lv_aload_n hx hb dX3_behind_6 rfl (lv_at hl 1 rfl) ?_
  refine lv_iload_n hx hb dX3_behind_7 rfl (lv_at hl 3 rfl) ?_
  refine xtR (As := [.int y]) (rest := []) ⟨hx, hb, hml, hown, hts⟩ (cX3_find_ l hst9 D cI cC ad _ n ch rg (by omega) y) (cwV 1 hts gX3_behind_X3_find rfl rfl rfl (by decide +kernel) ⟨Nat.le_of_ble_eq_true rfl, Nat.le_of_ble_eq_true rfl⟩) hK ((hZ.kept hS.2.1).narrow (fun q h => h.elim)) ⟨rfl, hO, hBk⟩ (xRecv hK rfl hO) rfl hl.1 rfl (Nat.le_of_ble_eq_true rfl) dX3_behind_8 ⟨(by show 0 + 1 + 1 ≤ 10; omega), (by show 0 + 6 + 6 ≤ 60; omega)⟩ hS (fun q h => h.elim) (fun q h => h.elim) (fun E ce q9 H1 locs1 hB hz9 hk9 hS h1 h2 h3 => ?_) (fun u ra H1 locs1 hp hF hz9 hk8 hS => ?_)
  · obtain ⟨rfl, hn⟩ := hB
    exact x_pass htb hlocks h1 h2 h3 ⟨Or.inl ⟨(show (if inR (nI j1) ch ∧ inR y ch then (if ch = 16 then 2 else 0) else 1) = 1 by rw [if_neg (fun z => hn z.2)]), rfl⟩, (xXW_old hW (fun x9 hx9 => hk9 x9 hx9 id))⟩ hS (fun _ h => h) (by omega) (by omega)
  obtain ⟨rfl, hra⟩ := hF
  have hi8 := hp
  obtain ⟨j2, hj2, hj2b, rfl⟩ := inR_of hp
  rw [xN_nI hj2b] at hra
  subst hra
  have hl : lv_has ls 6 [(3, .ref (ad (10 + j1))), (0, .ref (ad 0)), (1, .int (nI j1)), (2, .int (nI j2))] := hl
  have hC2 : xCh D cI (ad (10 + j2)) (ad (26 + j2)) n (pm j2) s.heap := xXC_at hCs (show j2 < 16 by omega) (hz j2 hj2)
  refine lv_astore (lv' := [(4, .ref (ad (10 + j2))), (3, .ref (ad (10 + j1))), (0, .ref (ad 0)), (1, .int (nI j1)), (2, .int (nI j2))]) hx hb dX3_behind_11 hl (by decide) rfl (fun ls hl => ?_)
  refine lv_aload_n hx hb dX3_behind_13 rfl (lv_at hl 2 rfl) ?_
  refine xtR (As := []) (rest := []) ⟨hx, hb, hml, hown, hts⟩ (cX3_openPage_ l hst9 D cI cC ad n ch rg (by omega)) (cwV 0 hts gX3_behind_X3_openPage rfl rfl rfl (by decide +kernel) ⟨Nat.le_of_ble_eq_true rfl, Nat.le_of_ble_eq_true rfl⟩) hK ((hZ.kept hS.2.1).narrow (fun q h => ⟨0, by omega, h⟩)) ⟨hO, hBk⟩ (xRecv hK rfl hO) rfl hl.1 rfl (Nat.le_of_ble_eq_true rfl) dX3_behind_14 ⟨(by show 0 + 1 + 1 + 1 ≤ 10; omega), (by show 0 + 6 + 6 + 6 ≤ 60; omega)⟩ hS (fun q h => ⟨0, by omega, h⟩) (fun q h => ⟨0, by omega, h⟩) (fun E ce q9 H1 locs1 hB hz9 hk9 hS h1 h2 h3 => ?_) (fun u ra H1 locs1 hp hF hz9 hk14 hS => ?_)
  · obtain ⟨rfl, hn, hO9⟩ := hB
    have hW9 : xXW D cI cC ad (n, ch, pm, st, kf, rg) H1 := xXW_mk (S := (n, ch, pm, st, kf, rg)) hO9 (xat_keep hBk hk9 (xne hj (by omega) (by omega) (by omega))) (xMe_keep hMe hk9 (xne hj (by omega) (by omega) (by omega)) (xne hj (by omega) (by omega) (by omega))) (xCh_keep hRu hk9 (xne hj (by omega) (by omega) (by omega)) (xne hj (by omega) (by omega) (by omega))) hfr (xCh_keep hMa hk9 (xne hj (by omega) (by omega) (by omega)) (xne hj (by omega) (by omega) (by omega))) hfm (xRs_keep hRs hk9 (xne hj (by omega) (by omega) (by omega)) (xne hj (by omega) (by omega) (by omega))) (xXC_keep hCs hk9 (fun i hi1 hi2 => (xne hj (by omega) (by omega) (by omega)))) hz
    exact x_pass htb hlocks h1 h2 h3 ⟨Or.inr ⟨(show (if inR (nI j1) ch ∧ inR (nI j2) ch then (if ch = 16 then 2 else 0) else 1) = 2 by rw [if_pos ⟨hi2, hi8⟩, if_pos (show ch = 16 by omega)]), rfl⟩, hW9⟩ hS (fun _ h => h) (by omega) (by omega)
  obtain ⟨rfl, hO⟩ := hF
  have hBk : xXB D cC ad H1 := xat_keep hBk hk14 (xne hj (by omega) (by omega) (by omega))
  have hMe : xMe D cI (ad 2) (ad 3) st kf H1 := xMe_keep hMe hk14 (xne hj (by omega) (by omega) (by omega)) (xne hj (by omega) (by omega) (by omega))
  have hRu : xCh D cI (ad 4) (ad 5) zr fr H1 := xCh_keep hRu hk14 (xne hj (by omega) (by omega) (by omega)) (xne hj (by omega) (by omega) (by omega))
  have hMa : xCh D cI (ad 6) (ad 7) zm fm H1 := xCh_keep hMa hk14 (xne hj (by omega) (by omega) (by omega)) (xne hj (by omega) (by omega) (by omega))
  have hRs : xRs D cI (ad 8) (ad 9) zs fs H1 := xRs_keep hRs hk14 (xne hj (by omega) (by omega) (by omega)) (xne hj (by omega) (by omega) (by omega))
  have hC1 : xCh D cI (ad (10 + j1)) (ad (26 + j1)) n (pm j1) H1 := xCh_keep hC1 hk14 (xne hj (by omega) (by omega) (by omega)) (xne hj (by omega) (by omega) (by omega))
  have hC2 : xCh D cI (ad (10 + j2)) (ad (26 + j2)) n (pm j2) H1 := xCh_keep hC2 hk14 (xne hj (by omega) (by omega) (by omega)) (xne hj (by omega) (by omega) (by omega))
  have hCs : xXC D cI ad zf pm H1 := xXC_keep hCs hk14 (fun i hi1 hi2 => (xne hj (by omega) (by omega) (by omega)))
  have hCp : xCh D cI (ad (10 + ch)) (ad (26 + ch)) (zf ch) (pm ch) H1 := hCs ch (show ch < 16 from hp)
  refine lv_astore (lv' := [(5, .ref (ad (10 + ch))), (4, .ref (ad (10 + j2))), (3, .ref (ad (10 + j1))), (0, .ref (ad 0)), (1, .int (nI j1)), (2, .int (nI j2))]) hx hb dX3_behind_17 hl (by decide) rfl (fun ls hl => ?_)
  refine lv_aload hx hb dX3_behind_19 (lv_at hl 0 rfl) ?_
  refine lv_aload_n hx hb dX3_behind_21 rfl (lv_at hl 2 rfl) ?_
  refine lv_aload hx hb dX3_behind_22 (lv_at hl 1 rfl) ?_
  refine xmV (As := [.ref (ad (10 + j1)), .ref (ad (10 + j2))]) (rest := []) ⟨hx, hb, hml, hown, hts⟩ (cX0_setBehind_ l D cI cC (ad (10 + ch)) (ad (26 + ch)) (zf ch) (pm ch) (ad (10 + j2)) (ad (26 + j2)) n (pm j2) (ad (10 + j1)) (ad (26 + j1)) n (pm j1) (xne hj (by omega) (by omega) (by omega)) (xne hj (by omega) (by omega) (by omega)) (xne hj (by omega) (by omega) (by omega)) (xne hj (by omega) (by omega) (by omega)) (xne hj (by omega) (by omega) (by omega)) (xne hj (by omega) (by omega) (by omega)) (xne hj (by omega) (by omega) (by omega)) (xne hj (by omega) (by omega) (by omega)) (xne hj (by omega) (by omega) (by omega)) hn8 (hpm8 j2)) (cwV 2 hts gX3_behind_X0_setBehind rfl rfl rfl (by decide +kernel) ⟨Nat.le_of_ble_eq_true rfl, Nat.le_of_ble_eq_true rfl⟩) hK ⟨hCp, hC1, hC2⟩ (xRecv hK rfl hCp.1) rfl hl.1 rfl (Nat.le_of_ble_eq_true rfl) dX3_behind_24 ⟨(by show 0 + 1 + 1 + 1 + 0 ≤ 10; omega), (by show 0 + 6 + 6 + 6 + 0 ≤ 60; omega)⟩ hS (fun q h => h.elim (fun h => ⟨10 + ch, by omega, h⟩) (fun h => ⟨26 + ch, by omega, h⟩)) (fun q h => h.elim (fun h => ⟨10 + ch, by omega, h⟩) (fun h => ⟨26 + ch, by omega, h⟩)) (fun u24 H1 locs1 hp24 hF24 hz24 hk24 hS => ?_)
  have hO : xXO D ad n (ch + 1) rg H1 := xat_keep hO hk24 (fun z => z.elim (xne hj (by omega) (by omega) (by omega)) (xne hj (by omega) (by omega) (by omega)))
  have hBk : xXB D cC ad H1 := xat_keep hBk hk24 (fun z => z.elim (xne hj (by omega) (by omega) (by omega)) (xne hj (by omega) (by omega) (by omega)))
  have hMe : xMe D cI (ad 2) (ad 3) st kf H1 := xMe_keep hMe hk24 (fun z => z.elim (xne hj (by omega) (by omega) (by omega)) (xne hj (by omega) (by omega) (by omega))) (fun z => z.elim (xne hj (by omega) (by omega) (by omega)) (xne hj (by omega) (by omega) (by omega)))
  have hRu : xCh D cI (ad 4) (ad 5) zr fr H1 := xCh_keep hRu hk24 (fun z => z.elim (xne hj (by omega) (by omega) (by omega)) (xne hj (by omega) (by omega) (by omega))) (fun z => z.elim (xne hj (by omega) (by omega) (by omega)) (xne hj (by omega) (by omega) (by omega)))
  have hMa : xCh D cI (ad 6) (ad 7) zm fm H1 := xCh_keep hMa hk24 (fun z => z.elim (xne hj (by omega) (by omega) (by omega)) (xne hj (by omega) (by omega) (by omega))) (fun z => z.elim (xne hj (by omega) (by omega) (by omega)) (xne hj (by omega) (by omega) (by omega)))
  have hRs : xRs D cI (ad 8) (ad 9) zs fs H1 := xRs_keep hRs hk24 (fun z => z.elim (xne hj (by omega) (by omega) (by omega)) (xne hj (by omega) (by omega) (by omega))) (fun z => z.elim (xne hj (by omega) (by omega) (by omega)) (xne hj (by omega) (by omega) (by omega)))
  have hC1 : xCh D cI (ad (10 + j1)) (ad (26 + j1)) n (pm j1) H1 := xCh_keep hC1 hk24 (fun z => z.elim (xne hj (by omega) (by omega) (by omega)) (xne hj (by omega) (by omega) (by omega))) (fun z => z.elim (xne hj (by omega) (by omega) (by omega)) (xne hj (by omega) (by omega) (by omega)))
  have hC2 : xCh D cI (ad (10 + j2)) (ad (26 + j2)) n (pm j2) H1 := xCh_keep hC2 hk24 (fun z => z.elim (xne hj (by omega) (by omega) (by omega)) (xne hj (by omega) (by omega) (by omega))) (fun z => z.elim (xne hj (by omega) (by omega) (by omega)) (xne hj (by omega) (by omega) (by omega)))
  have hCp : xCh D cI (ad (10 + ch)) (ad (26 + ch)) n (cpy (pm ch) (fun q9 => (pm j1) ((pm j2) q9)) n) H1 := hF24
  have hCs := xXC_set hCs hk24 (fun i h5 h6 h7 h8 => (fun z => z.elim (xne hj (by omega) (by omega) (by omega)) (xne hj (by omega) (by omega) (by omega)))) hCp (show ch < 16 by omega)
  refine lv_aload_n hx hb dX3_behind_27 rfl (lv_at hl 3 rfl) ?_
  refine x_get (v := .int (nI (ch + 1))) (C := RX3) (T := TX3) (N := 8) hx hb hts (by decide +kernel) hown hK hO rfl 6 (by decide) (hts (.fieldLink RX3 41 "BellRanks" "written" "I") (by decide +kernel)) (fun _ h9 => h9) rfl dX3_behind_28 ?_
  refine xn_iconst (v := 1) hx hb dX3_behind_31 (by decide) ?_
  refine xn_isub hx hb (by omega) dX3_behind_32 ?_
  have hz : ∀ k, k < ch + 1 → va_up zf ch n k = n := zf_add hz
  have ht : tBehind (n, ch, pm, st, kf, rg) (nI j1) (nI j2) = 0 := (show (if inR (nI j1) ch ∧ inR (nI j2) ch then (if ch = 16 then 2 else 0) else 1) = 0 by rw [if_pos ⟨hi2, hi8⟩, if_neg (show ¬ ch = 16 by omega)])
  refine W.widen (k := 10) (n := 60) (by omega) (by omega) ?_
  refine vx_ret ?_
  have hnw : nBehind (n, ch, pm, st, kf, rg) (nI j1) (nI j2) = adP (n, ch, pm, st, kf, rg) (cpy (pm ch) (fun q9 => (pm j1) ((pm j2) q9)) n) := (if_pos ht).trans (by simp only [xN_nI hj1b, xN_nI hj2b]; rfl)
  exact x_miret hx hb hr hlocks () ⟨ht, (by rw [Nat.add_sub_cancel]; rfl)⟩ (by show xXW D cI cC ad (nBehind (n, ch, pm, st, kf, rg) (nI j1) (nI j2)) _; rw [hnw]; exact (xXW_mk (S := adP (n, ch, pm, st, kf, rg) (cpy (pm ch) (fun q9 => (pm j1) ((pm j2) q9)) n)) hO hBk hMe hRu hfr hMa hfm hRs hCs hz)) hS (fun _ h => h) dX3_behind_33

set_option maxRecDepth 100000 in
set_option maxHeartbeats 4000000 in
theorem kBack_ (l : Launch) (hst9 : l.stackTraces = false) (D : va_G) (cI cC : ClassId) (ad : Nat → Nat) (hj : xInj ad) (S : AS) (hI : AI S) (x : Int32) : vx_Met l yX3_back wsX3_back (xRm 14 10 60) (va_Pc [.ref (ad 0), .int x] (xBZ D cI cC (xXW D cI cC ad S) (xAD ad))) (xI (fun r (_ : Unit) => tIn S x = 0 ∧ r = rBack S x) (fun _ H => xXW D cI cC ad (nBack S x) H) (xAD ad)) (xX (xAD ad) (fun E H => (tIn S x = 1 ∧ E = xEI) ∧ xXW D cI cC ad S H)) 10 60 (xAD ad) := by
  obtain ⟨n, ch, pm, st, kf, rg⟩ := S
  obtain ⟨⟨hn2, hn8⟩, hch, hst, hpm8, hpm, hkv, hkb⟩ := id hI
  dsimp only at hn2 hn8 hch hst hpm8 hpm hkv hkb
  refine vx_ofW (cc := cX3_back) (maxL := 3) (ret := (some .int)) (by decide) rfl ?_
  intro p e s m args below meth c s₁ B hml htb hv
  obtain ⟨rfl, hP, hK, hZ⟩ := hv
  have hx := B.exec
  have hb := B.bytes
  have hr := B.returns
  have hts := atoms_spec (ws := wsX3_back) B.pre
  have hown : s.vm.findClass RX3 = some m.cls := findClass_of_methodNamed B.named
  have hlocks := B.notSynchronized
  have hW := hP
  have hl := lv_entry ([.ref (ad 0), .int x]) (n := 3) (Nat.le_of_ble_eq_true rfl)
  rw [lg_entry_eq]
  generalize (lg_sl ([.ref (ad 0), .int x]) ++ List.replicate (3 - (lg_sl ([.ref (ad 0), .int x])).length) Slot.unset).toArray = ls at hl ⊢
  have hl : lv_has ls 3 [(0, .ref (ad 0)), (1, .int x)] := hl
  obtain ⟨zr, zm, zs, fr, fm, fs, zf, hO, hBk, hMe, hRu, hfr, hMa, hfm, hRs, hCs, hz⟩ := id hW
  have hO : xXO D ad n ch rg s.heap := hO
  have hMe : xMe D cI (ad 2) (ad 3) st kf s.heap := hMe
  have hCs : xXC D cI ad zf pm s.heap := hCs
  have hz : ∀ k, k < ch → zf k = n := hz
  have hS : va_S (xAD ad) s.heap s.heap [] := va_S.rf
  refine lv_aload_n hx hb dX3_back_0 rfl (lv_at hl 0 rfl) ?_
  refine lv_iload_n hx hb dX3_back_1 rfl (lv_at hl 1 rfl) ?_
  refine xtR (As := [.int x]) (rest := []) ⟨hx, hb, hml, hown, hts⟩ (cX3_find_ l hst9 D cI cC ad _ n ch rg (by omega) x) (cwV 1 hts gX3_back_X3_find rfl rfl rfl (by decide +kernel) ⟨Nat.le_of_ble_eq_true rfl, Nat.le_of_ble_eq_true rfl⟩) hK ((hZ.kept hS.2.1).narrow (fun q h => h.elim)) ⟨rfl, hO, hBk⟩ (xRecv hK rfl hO) rfl hl.1 rfl (Nat.le_of_ble_eq_true rfl) dX3_back_2 ⟨(by show 0 + 1 ≤ 10; omega), (by show 0 + 6 ≤ 60; omega)⟩ hS (fun q h => h.elim) (fun q h => h.elim) (fun E ce q9 H1 locs1 hB hz9 hk9 hS h1 h2 h3 => ?_) (fun u ra H1 locs1 hp hF hz9 hk2 hS => ?_)
  · obtain ⟨rfl, hn⟩ := hB
    exact x_pass htb hlocks h1 h2 h3 ⟨⟨if_neg hn, rfl⟩, (xXW_old hW (fun x9 hx9 => hk9 x9 hx9 id))⟩ hS (fun _ h => h) (by omega) (by omega)
  obtain ⟨rfl, hra⟩ := hF
  have hi2 := hp
  obtain ⟨j1, hj1, hj1b, rfl⟩ := inR_of hp
  rw [xN_nI hj1b] at hra
  subst hra
  have hl : lv_has ls 3 [(0, .ref (ad 0)), (1, .int (nI j1))] := hl
  have hC1 : xCh D cI (ad (10 + j1)) (ad (26 + j1)) n (pm j1) s.heap := xXC_at hCs (show j1 < 16 by omega) (hz j1 hj1)
  refine lv_astore_n (lv' := [(2, .ref (ad (10 + j1))), (0, .ref (ad 0)), (1, .int (nI j1))]) hx hb dX3_back_5 rfl hl (by decide) rfl (fun ls hl => ?_)
  refine lv_aload_n hx hb dX3_back_6 rfl (lv_at hl 1 rfl) ?_
  refine x_get (v := .ref (ad 6)) (C := RX3) (T := TX3) (N := 8) hx hb hts (by decide +kernel) hown hK hO rfl 3 (by decide) (hts (.fieldLink RX3 27 "BellRanks" "made" "LBellRanks$Change;") (by decide +kernel)) (fun _ h9 => h9) rfl dX3_back_7 ?_
  refine lv_aload_n hx hb dX3_back_10 rfl (lv_at hl 0 rfl) ?_
  refine xmV (As := [.ref (ad (10 + j1))]) (rest := []) ⟨hx, hb, hml, hown, hts⟩ (cX0_setBack_ l D cI cC (ad 6) (ad 7) zm fm (ad (10 + j1)) (ad (26 + j1)) n (pm j1) (xne hj (by omega) (by omega) (by omega)) (xne hj (by omega) (by omega) (by omega)) (xne hj (by omega) (by omega) (by omega)) (xne hj (by omega) (by omega) (by omega)) (xne hj (by omega) (by omega) (by omega)) hn8 (hpm8 j1)) (cwV 1 hts gX3_back_X0_setBack rfl rfl rfl (by decide +kernel) ⟨Nat.le_of_ble_eq_true rfl, Nat.le_of_ble_eq_true rfl⟩) hK ⟨hMa, hC1⟩ (xRecv hK rfl hMa.1) rfl hl.1 rfl (Nat.le_of_ble_eq_true rfl) dX3_back_11 ⟨(by show 0 + 1 + 0 ≤ 10; omega), (by show 0 + 6 + 0 ≤ 60; omega)⟩ hS (fun q h => h.elim (fun h => ⟨6, by omega, h⟩) (fun h => ⟨7, by omega, h⟩)) (fun q h => h.elim (fun h => ⟨6, by omega, h⟩) (fun h => ⟨7, by omega, h⟩)) (fun u11 H1 locs1 hp11 hF11 hz11 hk11 hS => ?_)
  have hO : xXO D ad n ch rg H1 := xat_keep hO hk11 (fun z => z.elim (xne hj (by omega) (by omega) (by omega)) (xne hj (by omega) (by omega) (by omega)))
  have hBk : xXB D cC ad H1 := xat_keep hBk hk11 (fun z => z.elim (xne hj (by omega) (by omega) (by omega)) (xne hj (by omega) (by omega) (by omega)))
  have hMe : xMe D cI (ad 2) (ad 3) st kf H1 := xMe_keep hMe hk11 (fun z => z.elim (xne hj (by omega) (by omega) (by omega)) (xne hj (by omega) (by omega) (by omega))) (fun z => z.elim (xne hj (by omega) (by omega) (by omega)) (xne hj (by omega) (by omega) (by omega)))
  have hRu : xCh D cI (ad 4) (ad 5) zr fr H1 := xCh_keep hRu hk11 (fun z => z.elim (xne hj (by omega) (by omega) (by omega)) (xne hj (by omega) (by omega) (by omega))) (fun z => z.elim (xne hj (by omega) (by omega) (by omega)) (xne hj (by omega) (by omega) (by omega)))
  have hRs : xRs D cI (ad 8) (ad 9) zs fs H1 := xRs_keep hRs hk11 (fun z => z.elim (xne hj (by omega) (by omega) (by omega)) (xne hj (by omega) (by omega) (by omega))) (fun z => z.elim (xne hj (by omega) (by omega) (by omega)) (xne hj (by omega) (by omega) (by omega)))
  have hC1 : xCh D cI (ad (10 + j1)) (ad (26 + j1)) n (pm j1) H1 := xCh_keep hC1 hk11 (fun z => z.elim (xne hj (by omega) (by omega) (by omega)) (xne hj (by omega) (by omega) (by omega))) (fun z => z.elim (xne hj (by omega) (by omega) (by omega)) (xne hj (by omega) (by omega) (by omega)))
  have hCs : xXC D cI ad zf pm H1 := xXC_keep hCs hk11 (fun i hi1 hi2 => (fun z => z.elim (xne hj (by omega) (by omega) (by omega)) (xne hj (by omega) (by omega) (by omega))))
  have hMa : xCh D cI (ad 6) (ad 7) n (bck fm (pm j1) n) H1 := hF11
  have hfm9 := hfm
  have hfm : ∀ i, bck fm (pm j1) n i < 8 := bck_bd hfm n hn8
  refine lv_aload_n hx hb dX3_back_14 rfl (lv_at hl 0 rfl) ?_
  refine lv_aload_n hx hb dX3_back_15 rfl (lv_at hl 1 rfl) ?_
  refine x_get (v := .ref (ad 6)) (C := RX3) (T := TX3) (N := 8) hx hb hts (by decide +kernel) hown hK hO rfl 3 (by decide) (hts (.fieldLink RX3 27 "BellRanks" "made" "LBellRanks$Change;") (by decide +kernel)) (fun _ h9 => h9) rfl dX3_back_16 ?_
  refine xmV (As := [.ref (ad 6)]) (rest := []) ⟨hx, hb, hml, hown, hts⟩ (cX0_setCopy_ l D cI cC (ad (10 + j1)) (ad (26 + j1)) n (pm j1) (ad 6) (ad 7) n (bck fm (pm j1) n) (xne hj (by omega) (by omega) (by omega)) (xne hj (by omega) (by omega) (by omega)) (xne hj (by omega) (by omega) (by omega)) (xne hj (by omega) (by omega) (by omega)) (xne hj (by omega) (by omega) (by omega)) hn8) (cwV 1 hts gX3_back_X0_setCopy rfl rfl rfl (by decide +kernel) ⟨Nat.le_of_ble_eq_true rfl, Nat.le_of_ble_eq_true rfl⟩) hK ⟨hC1, hMa⟩ (xRecv hK rfl hC1.1) rfl hl.1 rfl (Nat.le_of_ble_eq_true rfl) dX3_back_19 ⟨(by show 0 + 1 + 0 ≤ 10; omega), (by show 0 + 6 + 0 ≤ 60; omega)⟩ hS (fun q h => h.elim (fun h => ⟨10 + j1, by omega, h⟩) (fun h => ⟨26 + j1, by omega, h⟩)) (fun q h => h.elim (fun h => ⟨10 + j1, by omega, h⟩) (fun h => ⟨26 + j1, by omega, h⟩)) (fun u19 H1 locs1 hp19 hF19 hz19 hk19 hS => ?_)
  have hO : xXO D ad n ch rg H1 := xat_keep hO hk19 (fun z => z.elim (xne hj (by omega) (by omega) (by omega)) (xne hj (by omega) (by omega) (by omega)))
  have hBk : xXB D cC ad H1 := xat_keep hBk hk19 (fun z => z.elim (xne hj (by omega) (by omega) (by omega)) (xne hj (by omega) (by omega) (by omega)))
  have hMe : xMe D cI (ad 2) (ad 3) st kf H1 := xMe_keep hMe hk19 (fun z => z.elim (xne hj (by omega) (by omega) (by omega)) (xne hj (by omega) (by omega) (by omega))) (fun z => z.elim (xne hj (by omega) (by omega) (by omega)) (xne hj (by omega) (by omega) (by omega)))
  have hRu : xCh D cI (ad 4) (ad 5) zr fr H1 := xCh_keep hRu hk19 (fun z => z.elim (xne hj (by omega) (by omega) (by omega)) (xne hj (by omega) (by omega) (by omega))) (fun z => z.elim (xne hj (by omega) (by omega) (by omega)) (xne hj (by omega) (by omega) (by omega)))
  have hMa : xCh D cI (ad 6) (ad 7) n (bck fm (pm j1) n) H1 := xCh_keep hMa hk19 (fun z => z.elim (xne hj (by omega) (by omega) (by omega)) (xne hj (by omega) (by omega) (by omega))) (fun z => z.elim (xne hj (by omega) (by omega) (by omega)) (xne hj (by omega) (by omega) (by omega)))
  have hRs : xRs D cI (ad 8) (ad 9) zs fs H1 := xRs_keep hRs hk19 (fun z => z.elim (xne hj (by omega) (by omega) (by omega)) (xne hj (by omega) (by omega) (by omega))) (fun z => z.elim (xne hj (by omega) (by omega) (by omega)) (xne hj (by omega) (by omega) (by omega)))
  have hC1 : xCh D cI (ad (10 + j1)) (ad (26 + j1)) n (cpy (pm j1) (bck fm (pm j1) n) n) H1 := hF19
  have hCs := xXC_set hCs hk19 (fun i h5 h6 h7 h8 => (fun z => z.elim (xne hj (by omega) (by omega) (by omega)) (xne hj (by omega) (by omega) (by omega)))) hC1 (show j1 < 16 by omega)
  refine lv_aload_n hx hb dX3_back_22 rfl (lv_at hl 0 rfl) ?_
  refine xcV (As := []) (rest := []) ⟨hx, hb, hml, hown, hts⟩ (cX0_rank_ l D cI cC (ad (10 + j1)) (ad (26 + j1)) n (cpy (pm j1) (bck fm (pm j1) n) n) hn8 (fun i9 => Nat.lt_trans ((cpy_bd (hpm8 j1) (fun i9 _ => hfm i9)) i9) (by decide))) (cwV 0 hts gX3_back_X0_rank rfl rfl rfl (by decide +kernel) ⟨Nat.le_of_ble_eq_true rfl, Nat.le_of_ble_eq_true rfl⟩) hK hC1 (xRecv hK rfl hC1.1) rfl hl.1 rfl (Nat.le_of_ble_eq_true rfl) dX3_back_23 ⟨(by show 0 + 1 ≤ 10; omega), (by show 0 + 6 ≤ 60; omega)⟩ (fun x23 e23 => ?_)
  subst e23
  have hz : ∀ k, k < ch → va_up zf j1 n k = n := zf_set hz
  have he : cpy (pm j1) (bck fm (pm j1) n) n = bkF (n, ch, pm, st, kf, rg) j1 := cpy_eq (fun i hi => (bck_inv (hpm j1 hj1) hi).trans (bck_inv (hpm j1 hj1) hi).symm)
  rw [he] at hCs
  have ht : tIn (n, ch, pm, st, kf, rg) (nI j1) = 0 := if_pos hi2
  refine W.widen (k := 10) (n := 60) (by omega) (by omega) ?_
  refine vx_ret ?_
  have hnw : nBack (n, ch, pm, st, kf, rg) (nI j1) = upP (n, ch, pm, st, kf, rg) j1 (bkF (n, ch, pm, st, kf, rg) j1) := (if_pos ht).trans (by simp only [xN_nI hj1b])
  exact x_miret hx hb hr hlocks () ⟨ht, (by show nI _ = rBack _ _; unfold rBack; simp only [xN_nI hj1b]; rw [he])⟩ (by show xXW D cI cC ad (nBack (n, ch, pm, st, kf, rg) (nI j1)) _; rw [hnw]; exact (xXW_mk (S := upP (n, ch, pm, st, kf, rg) j1 (bkF (n, ch, pm, st, kf, rg) j1)) hO hBk hMe hRu hfr hMa hfm hRs hCs hz)) hS (fun _ h => h) dX3_back_26

set_option maxRecDepth 100000 in
set_option maxHeartbeats 4000000 in
theorem kStep_ (l : Launch) (hst9 : l.stackTraces = false) (D : va_G) (cI cC : ClassId) (ad : Nat → Nat) (hj : xInj ad) (S : AS) (hI : AI S) (x : Int32) : vx_Met l yX3_step wsX3_step (xRm 14 10 60) (va_Pc [.ref (ad 0), .int x] (xBZ D cI cC (xXW D cI cC ad S) (xAD ad))) (xI (fun r (_ : Unit) => tStep S x = 0 ∧ r = rStep S x) (fun _ H => xXW D cI cC ad (nStep S x) H) (xAD ad)) (xX (xAD ad) (fun E H => ((tStep S x = 1 ∧ E = xEA) ∨ (tStep S x = 2 ∧ E = xES)) ∧ xXW D cI cC ad S H)) 10 60 (xAD ad) := by
  obtain ⟨n, ch, pm, st, kf, rg⟩ := S
  obtain ⟨⟨hn2, hn8⟩, hch, hst, hpm8, hpm, hkv, hkb⟩ := id hI
  dsimp only at hn2 hn8 hch hst hpm8 hpm hkv hkb
  refine vx_ofW (cc := cX3_step) (maxL := 2) (ret := (some .int)) (by decide) rfl ?_
  intro p e s m args below meth c s₁ B hml htb hv
  obtain ⟨rfl, hP, hK, hZ⟩ := hv
  have hx := B.exec
  have hb := B.bytes
  have hr := B.returns
  have hts := atoms_spec (ws := wsX3_step) B.pre
  have hown : s.vm.findClass RX3 = some m.cls := findClass_of_methodNamed B.named
  have hlocks := B.notSynchronized
  have hW := hP
  have hl := lv_entry ([.ref (ad 0), .int x]) (n := 2) (Nat.le_of_ble_eq_true rfl)
  rw [lg_entry_eq]
  generalize (lg_sl ([.ref (ad 0), .int x]) ++ List.replicate (2 - (lg_sl ([.ref (ad 0), .int x])).length) Slot.unset).toArray = ls at hl ⊢
  have hl : lv_has ls 2 [(0, .ref (ad 0)), (1, .int x)] := hl
  obtain ⟨zr, zm, zs, fr, fm, fs, zf, hO, hBk, hMe, hRu, hfr, hMa, hfm, hRs, hCs, hz⟩ := id hW
  have hO : xXO D ad n ch rg s.heap := hO
  have hMe : xMe D cI (ad 2) (ad 3) st kf s.heap := hMe
  have hCs : xXC D cI ad zf pm s.heap := hCs
  have hz : ∀ k, k < ch → zf k = n := hz
  have hS : va_S (xAD ad) s.heap s.heap [] := va_S.rf
  refine lv_iload_n hx hb dX3_step_0 rfl (lv_at hl 1 rfl) ?_
  refine lv_aload_n hx hb dX3_step_1 rfl (lv_at hl 0 rfl) ?_
  refine x_get (v := .int (nI n)) (C := RX3) (T := TX3) (N := 8) hx hb hts (by decide +kernel) hown hK hO rfl 5 (by decide) (hts (.fieldLink RX3 37 "BellRanks" "bells" "I") (by decide +kernel)) (fun _ h9 => h9) rfl dX3_step_2 ?_
  have hpw : 2 ^ n < 2 ^ 31 := Nat.pow_lt_pow_right (by decide) (by omega)
  by_cases hx0 : x < 0
  · have hn : ¬ (inR x (2 ^ n) ∧ stp (xN x) n n 0 = 1) := fun z => z.1.1 hx0
    refine xcS (As := [.int x, .int (nI n)]) (rest := []) ⟨hx, hb, hml, hown, hts⟩ (cX1_isStepN_ l D cI cC x hx0 n) (va_cwS 2 hts gX3_step_X1_isStep rfl rfl rfl (by decide +kernel) ⟨Nat.le_of_ble_eq_true rfl, Nat.le_of_ble_eq_true rfl⟩) hK trivial rfl hl.1 rfl (Nat.le_of_ble_eq_true rfl) dX3_step_5 ⟨(by show 0 ≤ 10; omega), (by show 0 ≤ 60; omega)⟩ (fun x5 e5 => ?_)
    subst e5
    refine xn_if_ne (tgt := 21) hx hb dX3_step_8 (by decide) (by decide) (fun c => absurd c (by decide)) (fun _ => ?_)
    exact x_throw (cls := xEA) (text := "not the kept places of a step") (ik := 47) (is := 109) (ic := 51) hx hb hst9 hts hown htb hlocks hZ hS (hl.1.trans hml.symm) (by decide +kernel) (by decide +kernel) (by decide +kernel) xbad_A (by decide +kernel) xgood_A (by decide) dX3_step_11 dX3_step_14 dX3_step_15 dX3_step_17 dX3_step_20 (Nat.le_of_ble_eq_true rfl) (Nat.le_of_ble_eq_true rfl) (by show 0 + 1 ≤ 10; omega) (by show 0 + 6 ≤ 60; omega) (fun H1 _ ho => ⟨Or.inl ⟨(show (if inR x (2 ^ n) ∧ stp (xN x) n n 0 = 1 then (if st = 10 then 2 else 0) else 1) = 1 by rw [if_neg hn]), rfl⟩, xXW_old hW ho⟩) (fun _ h => h) (by omega) (by omega)
  obtain ⟨j1, hj1b, rfl⟩ := nI_of hx0
  have hl : lv_has ls 2 [(0, .ref (ad 0)), (1, .int (nI j1))] := hl
  refine xcS (As := [.int (nI j1), .int (nI n)]) (rest := []) ⟨hx, hb, hml, hown, hts⟩ (cX1_isStep_ l D cI cC j1 n hn8 hj1b) (va_cwS 2 hts gX3_step_X1_isStep rfl rfl rfl (by decide +kernel) ⟨Nat.le_of_ble_eq_true rfl, Nat.le_of_ble_eq_true rfl⟩) hK trivial rfl hl.1 rfl (Nat.le_of_ble_eq_true rfl) dX3_step_5 ⟨(by show 0 ≤ 10; omega), (by show 0 ≤ 60; omega)⟩ (fun x5 e5 => ?_)
  subst e5
  refine xn_if_ne (tgt := 21) hx hb dX3_step_8 (by decide) (Nat.lt_of_le_of_lt (istep_le (stp_le _ _ _ _)) (by decide)) (fun c8 => ?_) (fun c8 => ?_)
  · have hi : inR (nI j1) (2 ^ n) ∧ stp (xN (nI j1)) n n 0 = 1 := by rw [inR_nI hj1b, xN_nI hj1b]; exact istep_1 c8 (stp_le _ _ _ _)
    refine lv_aload_n hx hb dX3_step_21 rfl (lv_at hl 0 rfl) ?_
    refine x_get (v := .ref (ad 2)) (C := RX3) (T := TX3) (N := 8) hx hb hts (by decide +kernel) hown hK hO rfl 1 (by decide) (hts (.fieldLink RX3 19 "BellRanks" "method" "LBellRanks$Method;") (by decide +kernel)) (fun _ h9 => h9) rfl dX3_step_22 ?_
    refine xcV (As := []) (rest := []) ⟨hx, hb, hml, hown, hts⟩ (cX1_length_ l D cI cC (ad 2) (ad 3) st kf) (cwV 0 hts gX3_step_X1_length rfl rfl rfl (by decide +kernel) ⟨Nat.le_of_ble_eq_true rfl, Nat.le_of_ble_eq_true rfl⟩) hK hMe (xRecv hK rfl hMe.1) rfl hl.1 rfl (Nat.le_of_ble_eq_true rfl) dX3_step_25 ⟨(by show 0 ≤ 10; omega), (by show 0 ≤ 60; omega)⟩ (fun x25 e25 => ?_)
    subst e25
    refine xn_bipush (v := 10) hx hb dX3_step_28 (by decide) ?_
    refine xn_icmp_lt (tgt := 43) hx hb dX3_step_30 (by decide) (by omega) (by decide) (fun c30 => ?_) (fun c30 => ?_)
    · refine lv_aload_n hx hb dX3_step_43 rfl (lv_at hl 0 rfl) ?_
      refine x_get (v := .ref (ad 2)) (C := RX3) (T := TX3) (N := 8) hx hb hts (by decide +kernel) hown hK hO rfl 1 (by decide) (hts (.fieldLink RX3 19 "BellRanks" "method" "LBellRanks$Method;") (by decide +kernel)) (fun _ h9 => h9) rfl dX3_step_44 ?_
      refine lv_iload_n hx hb dX3_step_47 rfl (lv_at hl 1 rfl) ?_
      refine xmV (As := [.int (nI j1)]) (rest := []) ⟨hx, hb, hml, hown, hts⟩ (cX1_add_ l D cI cC (ad 2) (ad 3) st kf (xne hj (by omega) (by omega) (by omega)) (by omega) j1) (cwV 1 hts gX3_step_X1_add rfl rfl rfl (by decide +kernel) ⟨Nat.le_of_ble_eq_true rfl, Nat.le_of_ble_eq_true rfl⟩) hK hMe (xRecv hK rfl hMe.1) rfl hl.1 rfl (Nat.le_of_ble_eq_true rfl) dX3_step_48 ⟨(by show 0 + 0 ≤ 10; omega), (by show 0 + 0 ≤ 60; omega)⟩ hS (fun q h => h.elim (fun h => ⟨2, by omega, h⟩) (fun h => ⟨3, by omega, h⟩)) (fun q h => h.elim (fun h => ⟨2, by omega, h⟩) (fun h => ⟨3, by omega, h⟩)) (fun u48 H1 locs1 hp48 hF48 hz48 hk48 hS => ?_)
      have hO : xXO D ad n ch rg H1 := xat_keep hO hk48 (fun z => z.elim (xne hj (by omega) (by omega) (by omega)) (xne hj (by omega) (by omega) (by omega)))
      have hBk : xXB D cC ad H1 := xat_keep hBk hk48 (fun z => z.elim (xne hj (by omega) (by omega) (by omega)) (xne hj (by omega) (by omega) (by omega)))
      have hRu : xCh D cI (ad 4) (ad 5) zr fr H1 := xCh_keep hRu hk48 (fun z => z.elim (xne hj (by omega) (by omega) (by omega)) (xne hj (by omega) (by omega) (by omega))) (fun z => z.elim (xne hj (by omega) (by omega) (by omega)) (xne hj (by omega) (by omega) (by omega)))
      have hMa : xCh D cI (ad 6) (ad 7) zm fm H1 := xCh_keep hMa hk48 (fun z => z.elim (xne hj (by omega) (by omega) (by omega)) (xne hj (by omega) (by omega) (by omega))) (fun z => z.elim (xne hj (by omega) (by omega) (by omega)) (xne hj (by omega) (by omega) (by omega)))
      have hRs : xRs D cI (ad 8) (ad 9) zs fs H1 := xRs_keep hRs hk48 (fun z => z.elim (xne hj (by omega) (by omega) (by omega)) (xne hj (by omega) (by omega) (by omega))) (fun z => z.elim (xne hj (by omega) (by omega) (by omega)) (xne hj (by omega) (by omega) (by omega)))
      have hCs : xXC D cI ad zf pm H1 := xXC_keep hCs hk48 (fun i hi1 hi2 => (fun z => z.elim (xne hj (by omega) (by omega) (by omega)) (xne hj (by omega) (by omega) (by omega))))
      have hMe : xMe D cI (ad 2) (ad 3) (st + 1) (va_up kf st j1) H1 := hF48
      refine lv_aload_n hx hb dX3_step_51 rfl (lv_at hl 0 rfl) ?_
      refine x_get (v := .ref (ad 2)) (C := RX3) (T := TX3) (N := 8) hx hb hts (by decide +kernel) hown hK hO rfl 1 (by decide) (hts (.fieldLink RX3 19 "BellRanks" "method" "LBellRanks$Method;") (by decide +kernel)) (fun _ h9 => h9) rfl dX3_step_52 ?_
      refine xcV (As := []) (rest := []) ⟨hx, hb, hml, hown, hts⟩ (cX1_length_ l D cI cC (ad 2) (ad 3) (st + 1) (va_up kf st j1)) (cwV 0 hts gX3_step_X1_length rfl rfl rfl (by decide +kernel) ⟨Nat.le_of_ble_eq_true rfl, Nat.le_of_ble_eq_true rfl⟩) hK hMe (xRecv hK rfl hMe.1) rfl hl.1 rfl (Nat.le_of_ble_eq_true rfl) dX3_step_55 ⟨(by show 0 ≤ 10; omega), (by show 0 ≤ 60; omega)⟩ (fun x55 e55 => ?_)
      subst e55
      have ht : tStep (n, ch, pm, st, kf, rg) (nI j1) = 0 := (show (if inR (nI j1) (2 ^ n) ∧ stp (xN (nI j1)) n n 0 = 1 then (if st = 10 then 2 else 0) else 1) = 0 by rw [if_pos hi, if_neg (show ¬ st = 10 by omega)])
      refine W.widen (k := 10) (n := 60) (by omega) (by omega) ?_
      refine vx_ret ?_
      have hnw : nStep (n, ch, pm, st, kf, rg) (nI j1) = (n, ch, pm, st + 1, va_up kf st j1, rg) := (if_pos ht).trans (by simp only [xN_nI hj1b])
      exact x_miret hx hb hr hlocks () ⟨ht, rfl⟩ (by show xXW D cI cC ad (nStep (n, ch, pm, st, kf, rg) (nI j1)) _; rw [hnw]; exact (xXW_mk (S := (n, ch, pm, st + 1, va_up kf st j1, rg)) hO hBk hMe hRu hfr hMa hfm hRs hCs hz)) hS (fun _ h => h) dX3_step_58
    · exact x_throw (cls := xES) (text := "the method has 10 steps") (ik := 114) (is := 116) (ic := 118) hx hb hst9 hts hown htb hlocks hZ hS (hl.1.trans hml.symm) (by decide +kernel) (by decide +kernel) (by decide +kernel) xbad_S (by decide +kernel) xgood_S (by decide) dX3_step_33 dX3_step_36 dX3_step_37 dX3_step_39 dX3_step_42 (Nat.le_of_ble_eq_true rfl) (Nat.le_of_ble_eq_true rfl) (by show 0 + 1 ≤ 10; omega) (by show 0 + 6 ≤ 60; omega) (fun H1 _ ho => ⟨Or.inr ⟨(show (if inR (nI j1) (2 ^ n) ∧ stp (xN (nI j1)) n n 0 = 1 then (if st = 10 then 2 else 0) else 1) = 2 by rw [if_pos hi, if_pos (show st = 10 by omega)]), rfl⟩, xXW_old hW ho⟩) (fun _ h => h) (by omega) (by omega)
  · have hn : ¬ (inR (nI j1) (2 ^ n) ∧ stp (xN (nI j1)) n n 0 = 1) := by rw [inR_nI hj1b, xN_nI hj1b]; exact istep_0 c8 (stp_le _ _ _ _)
    exact x_throw (cls := xEA) (text := "not the kept places of a step") (ik := 47) (is := 109) (ic := 51) hx hb hst9 hts hown htb hlocks hZ hS (hl.1.trans hml.symm) (by decide +kernel) (by decide +kernel) (by decide +kernel) xbad_A (by decide +kernel) xgood_A (by decide) dX3_step_11 dX3_step_14 dX3_step_15 dX3_step_17 dX3_step_20 (Nat.le_of_ble_eq_true rfl) (Nat.le_of_ble_eq_true rfl) (by show 0 + 1 ≤ 10; omega) (by show 0 + 6 ≤ 60; omega) (fun H1 _ ho => ⟨Or.inl ⟨(show (if inR (nI j1) (2 ^ n) ∧ stp (xN (nI j1)) n n 0 = 1 then (if st = 10 then 2 else 0) else 1) = 1 by rw [if_neg hn]), rfl⟩, xXW_old hW ho⟩) (fun _ h => h) (by omega) (by omega)

set_option maxRecDepth 100000 in
set_option maxHeartbeats 4000000 in
theorem kRing_ (l : Launch) (hst9 : l.stackTraces = false) (D : va_G) (cI cC : ClassId) (ad : Nat → Nat) (hj : xInj ad) (S : AS) (hI : AI S) (x : Int32) (y : Int32) : vx_Met l yX3_ring wsX3_ring (xRm 14 10 60) (va_Pc [.ref (ad 0), .int x, .int y] (xBZ D cI cC (xXW D cI cC ad S) (xAD ad))) (xI (fun r (_ : Unit) => tRing S x y = 0 ∧ r = rRing S x y) (fun _ H => xXW D cI cC ad (nRing S x y) H) (xAD ad)) (xX (xAD ad) (fun E H => ((tRing S x y = 1 ∧ E = xEI) ∨ (tRing S x y = 2 ∧ E = xEA)) ∧ xXW D cI cC ad S H)) 10 60 (xAD ad) := by
  obtain ⟨n, ch, pm, st, kf, rg⟩ := S
  obtain ⟨⟨hn2, hn8⟩, hch, hst, hpm8, hpm, hkv, hkb⟩ := id hI
  dsimp only at hn2 hn8 hch hst hpm8 hpm hkv hkb
  refine vx_ofW (cc := cX3_ring) (maxL := 5) (ret := (some .int)) (by decide) rfl ?_
  intro p e s m args below meth c s₁ B hml htb hv
  obtain ⟨rfl, hP, hK, hZ⟩ := hv
  have hx := B.exec
  have hb := B.bytes
  have hr := B.returns
  have hts := atoms_spec (ws := wsX3_ring) B.pre
  have hown : s.vm.findClass RX3 = some m.cls := findClass_of_methodNamed B.named
  have hlocks := B.notSynchronized
  have hW := hP
  have hl := lv_entry ([.ref (ad 0), .int x, .int y]) (n := 5) (Nat.le_of_ble_eq_true rfl)
  rw [lg_entry_eq]
  generalize (lg_sl ([.ref (ad 0), .int x, .int y]) ++ List.replicate (5 - (lg_sl ([.ref (ad 0), .int x, .int y])).length) Slot.unset).toArray = ls at hl ⊢
  have hl : lv_has ls 5 [(0, .ref (ad 0)), (1, .int x), (2, .int y)] := hl
  obtain ⟨zr, zm, zs, fr, fm, fs, zf, hO, hBk, hMe, hRu, hfr, hMa, hfm, hRs, hCs, hz⟩ := id hW
  have hO : xXO D ad n ch rg s.heap := hO
  have hMe : xMe D cI (ad 2) (ad 3) st kf s.heap := hMe
  have hCs : xXC D cI ad zf pm s.heap := hCs
  have hz : ∀ k, k < ch → zf k = n := hz
  have hS : va_S (xAD ad) s.heap s.heap [] := va_S.rf
  refine lv_aload_n hx hb dX3_ring_0 rfl (lv_at hl 0 rfl) ?_
  refine lv_iload_n hx hb dX3_ring_1 rfl (lv_at hl 1 rfl) ?_
  refine xtR (As := [.int x]) (rest := []) ⟨hx, hb, hml, hown, hts⟩ (cX3_find_ l hst9 D cI cC ad _ n ch rg (by omega) x) (cwV 1 hts gX3_ring_X3_find rfl rfl rfl (by decide +kernel) ⟨Nat.le_of_ble_eq_true rfl, Nat.le_of_ble_eq_true rfl⟩) hK ((hZ.kept hS.2.1).narrow (fun q h => h.elim)) ⟨rfl, hO, hBk⟩ (xRecv hK rfl hO) rfl hl.1 rfl (Nat.le_of_ble_eq_true rfl) dX3_ring_2 ⟨(by show 0 + 1 ≤ 10; omega), (by show 0 + 6 ≤ 60; omega)⟩ hS (fun q h => h.elim) (fun q h => h.elim) (fun E ce q9 H1 locs1 hB hz9 hk9 hS h1 h2 h3 => ?_) (fun u ra H1 locs1 hp hF hz9 hk2 hS => ?_)
  · obtain ⟨rfl, hn⟩ := hB
    exact x_pass htb hlocks h1 h2 h3 ⟨Or.inl ⟨(show (if inR x ch then (if inR y 201 ∧ 1 ≤ xN y then 0 else 2) else 1) = 1 by rw [if_neg hn]), rfl⟩, (xXW_old hW (fun x9 hx9 => hk9 x9 hx9 id))⟩ hS (fun _ h => h) (by omega) (by omega)
  obtain ⟨rfl, hra⟩ := hF
  have hi2 := hp
  obtain ⟨j1, hj1, hj1b, rfl⟩ := inR_of hp
  rw [xN_nI hj1b] at hra
  subst hra
  have hl : lv_has ls 5 [(0, .ref (ad 0)), (1, .int (nI j1)), (2, .int y)] := hl
  have hC1 : xCh D cI (ad (10 + j1)) (ad (26 + j1)) n (pm j1) s.heap := xXC_at hCs (show j1 < 16 by omega) (hz j1 hj1)
  refine lv_astore_n (lv' := [(3, .ref (ad (10 + j1))), (0, .ref (ad 0)), (1, .int (nI j1)), (2, .int y)]) hx hb dX3_ring_5 rfl hl (by decide) rfl (fun ls hl => ?_)
  refine lv_iload_n hx hb dX3_ring_6 rfl (lv_at hl 3 rfl) ?_
  refine xtVS (As := [.int y]) (rest := []) ⟨hx, hb, hml, hown, hts⟩ (cX3_checkSteps_ l hst9 D cI cC ad _ y) (va_cwS 1 hts gX3_ring_X3_checkSteps rfl rfl rfl (by decide +kernel) ⟨Nat.le_of_ble_eq_true rfl, Nat.le_of_ble_eq_true rfl⟩) hK ((hZ.kept hS.2.1).narrow (fun q h => h.elim)) rfl rfl hl.1 rfl (Nat.le_of_ble_eq_true rfl) dX3_ring_7 ⟨(by show 0 + 1 + 1 ≤ 10; omega), (by show 0 + 6 + 6 ≤ 60; omega)⟩ hS (fun q h => h.elim) (fun q h => h.elim) (fun E ce q9 H1 locs1 hB hz9 hk9 hS h1 h2 h3 => ?_) (fun u H1 locs1 hp hF hz9 hk7 hS => ?_)
  · obtain ⟨rfl, hn⟩ := hB
    exact x_pass htb hlocks h1 h2 h3 ⟨Or.inr ⟨(show (if inR (nI j1) ch then (if inR y 201 ∧ 1 ≤ xN y then 0 else 2) else 1) = 2 by rw [if_pos hi2, if_neg hn]), rfl⟩, (xXW_old hW (fun x9 hx9 => hk9 x9 hx9 id))⟩ hS (fun _ h => h) (by omega) (by omega)
  obtain rfl := hF
  have hi7 := hp
  obtain ⟨j2, hj2, hj2b, rfl⟩ := inR_of hi7.1
  have hl : lv_has ls 5 [(3, .ref (ad (10 + j1))), (0, .ref (ad 0)), (1, .int (nI j1)), (2, .int (nI j2))] := hl
  refine lv_aload_n hx hb dX3_ring_10 rfl (lv_at hl 1 rfl) ?_
  refine x_get (v := .ref (ad 2)) (C := RX3) (T := TX3) (N := 8) hx hb hts (by decide +kernel) hown hK hO rfl 1 (by decide) (hts (.fieldLink RX3 19 "BellRanks" "method" "LBellRanks$Method;") (by decide +kernel)) (fun _ h9 => h9) rfl dX3_ring_11 ?_
  refine xcV (As := []) (rest := []) ⟨hx, hb, hml, hown, hts⟩ (cX1_length_ l D cI cC (ad 2) (ad 3) st kf) (cwV 0 hts gX3_ring_X1_length rfl rfl rfl (by decide +kernel) ⟨Nat.le_of_ble_eq_true rfl, Nat.le_of_ble_eq_true rfl⟩) hK hMe (xRecv hK rfl hMe.1) rfl hl.1 rfl (Nat.le_of_ble_eq_true rfl) dX3_ring_14 ⟨(by show 0 + 1 + 1 ≤ 10; omega), (by show 0 + 6 + 6 ≤ 60; omega)⟩ (fun x14 e14 => ?_)
  subst e14
  refine xn_if_le (tgt := 55) hx hb dX3_ring_17 (by decide) (by omega) (fun c17 => ?_) (fun c17 => ?_)
  · refine lv_aload_n hx hb dX3_ring_55 rfl (lv_at hl 0 rfl) ?_
    refine xcV (As := []) (rest := []) ⟨hx, hb, hml, hown, hts⟩ (cX0_rank_ l D cI cC (ad (10 + j1)) (ad (26 + j1)) n (pm j1) hn8 (fun i9 => Nat.lt_trans ((hpm8 j1) i9) (by decide))) (cwV 0 hts gX3_ring_X0_rank rfl rfl rfl (by decide +kernel) ⟨Nat.le_of_ble_eq_true rfl, Nat.le_of_ble_eq_true rfl⟩) hK hC1 (xRecv hK rfl hC1.1) rfl hl.1 rfl (Nat.le_of_ble_eq_true rfl) dX3_ring_56 ⟨(by show 0 + 1 + 1 ≤ 10; omega), (by show 0 + 6 + 6 ≤ 60; omega)⟩ (fun x56 e56 => ?_)
    subst e56
    have hrg : rgF (n, ch, pm, st, kf, rg) j1 j2 = pm j1 := if_pos c17
    have hCs : xXC D cI ad zf (va_up pm j1 (pm j1)) s.heap := by rw [va_up_same]; exact hCs
    have ht : tRing (n, ch, pm, st, kf, rg) (nI j1) (nI j2) = 0 := (show (if inR (nI j1) ch then (if inR (nI j2) 201 ∧ 1 ≤ xN (nI j2) then 0 else 2) else 1) = 0 by rw [if_pos hi2, if_pos hi7])
    refine W.widen (k := 10) (n := 60) (by omega) (by omega) ?_
    refine vx_ret ?_
    have hnw : nRing (n, ch, pm, st, kf, rg) (nI j1) (nI j2) = (n, ch, va_up pm j1 (pm j1), st, kf, rg) := (if_pos ht).trans (by simp only [xN_nI hj1b, xN_nI hj2b, hrg, if_pos c17])
    exact x_miret hx hb hr hlocks () ⟨ht, (by show nI _ = rRing _ _ _; unfold rRing; simp only [xN_nI hj1b, xN_nI hj2b]; rw [hrg])⟩ (by show xXW D cI cC ad (nRing (n, ch, pm, st, kf, rg) (nI j1) (nI j2)) _; rw [hnw]; exact (xXW_mk (S := (n, ch, va_up pm j1 (pm j1), st, kf, rg)) hO hBk hMe hRu hfr hMa hfm hRs hCs hz)) hS (fun _ h => h) dX3_ring_59
  · have hst0 : 0 < st := c17
    refine xn_iconst (v := 0) hx hb dX3_ring_20 (by decide) ?_
    refine lv_istore (lv' := [(4, .int (nI 0)), (3, .ref (ad (10 + j1))), (0, .ref (ad 0)), (1, .int (nI j1)), (2, .int (nI j2))]) hx hb dX3_ring_21 hl (by decide) rfl (fun ls hl => ?_)
    refine x_loopH (σ := Nat) (fun a => j2 - a) (fun a H locs cells slots ls => (a ≤ j2) ∧ (xXO D ad n ch rg H) ∧ (xXB D cC ad H) ∧ (xMe D cI (ad 2) (ad 3) st kf H) ∧ (xCh D cI (ad 4) (ad 5) zr fr H) ∧ (xCh D cI (ad 6) (ad 7) zm fm H) ∧ (xRs D cI (ad 8) (ad 9) zs fs H) ∧ (xCh D cI (ad (10 + j1)) (ad (26 + j1)) n (rgs kf st n (pm j1) a) H) ∧ (xXC D cI ad (va_up zf j1 n) (va_up pm j1 (rgs kf st n (pm j1) a)) H) ∧ (va_S (xAD ad) s.heap H locs) ∧ (cells ≤ 2) ∧ (slots ≤ 12) ∧ lv_has ls 5 [(0, .ref (ad 0)), (1, .int (nI j1)), (2, .int (nI j2)), (3, .ref (ad (10 + j1))), (4, .int (nI a))]) ?_ 0 _ _ _ _ ls ⟨(Nat.zero_le _), hO, hBk, hMe, hRu, hMa, hRs, hC1, (by rw [va_up_id (hz j1 hj1)]; show xXC D cI ad zf (va_up pm j1 (pm j1)) _; rw [va_up_same]; exact hCs), hS, (by omega), (by omega), lv_sub hl [2, 3, 4, 1, 0] rfl⟩
    rintro i H locs cells slots ls ⟨h2, hO, hBk, hMe, hRu, hMa, hRs, hC1, hCs, hS, hce, hse, hl⟩ ih23
    
    refine lv_iload hx hb dX3_ring_23 (lv_at hl 4 rfl) ?_
    refine lv_iload_n hx hb dX3_ring_25 rfl (lv_at hl 2 rfl) ?_
    refine xn_icmp_ge (tgt := 45) hx hb dX3_ring_26 (by decide) (by omega) (by omega) (fun c26 => ?_) (fun c26 => ?_)
    · refine lv_aload_n hx hb dX3_ring_45 rfl (lv_at hl 0 rfl) ?_
      refine lv_dup hx hb dX3_ring_46 rfl ?_
      refine x_get (v := .int (nI rg)) (C := RX3) (T := TX3) (N := 8) hx hb hts (by decide +kernel) hown hK hO rfl 7 (by decide) (hts (.fieldLink RX3 44 "BellRanks" "rungInAll" "I") (by decide +kernel)) (fun _ h9 => h9) rfl dX3_ring_47 ?_
      refine lv_iload_n hx hb dX3_ring_50 rfl (lv_at hl 2 rfl) ?_
      refine xn_iadd hx hb dX3_ring_51 ?_
      refine x_put (v := .int (nI (rg + j2))) (ty := .int) (C := RX3) (T := TX3) (N := 8) hx hb hts (by decide +kernel) tyX3 tyX3_ok nmX3 hown hK hO hS ⟨0, by omega, rfl⟩ rfl 7 (by decide) (hts (.fieldLink RX3 44 "BellRanks" "rungInAll" "I") (by decide +kernel)) (fun _ h9 => h9) rfl (by decide +kernel) rfl rfl (Nat.le_of_ble_eq_true rfl) dX3_ring_52 (fun H1 locs1 hN hz9 oq hS => ?_)
      have hO : xXO D ad n ch (rg + j2) H1 := hN
      have hBk : xXB D cC ad H1 := va_at.kept hBk (oq _ (xne hj (by omega) (by omega) (by omega)))
      have hMe : xMe D cI (ad 2) (ad 3) st kf H1 := ⟨hMe.1.kept (oq _ (xne hj (by omega) (by omega) (by omega))), hMe.2.kept (oq _ (xne hj (by omega) (by omega) (by omega)))⟩
      have hRu : xCh D cI (ad 4) (ad 5) zr fr H1 := ⟨hRu.1.kept (oq _ (xne hj (by omega) (by omega) (by omega))), hRu.2.kept (oq _ (xne hj (by omega) (by omega) (by omega)))⟩
      have hMa : xCh D cI (ad 6) (ad 7) zm fm H1 := ⟨hMa.1.kept (oq _ (xne hj (by omega) (by omega) (by omega))), hMa.2.kept (oq _ (xne hj (by omega) (by omega) (by omega)))⟩
      have hRs : xRs D cI (ad 8) (ad 9) zs fs H1 := ⟨hRs.1.kept (oq _ (xne hj (by omega) (by omega) (by omega))), hRs.2.kept (oq _ (xne hj (by omega) (by omega) (by omega)))⟩
      have hC1 : xCh D cI (ad (10 + j1)) (ad (26 + j1)) n (rgs kf st n (pm j1) i) H1 := ⟨hC1.1.kept (oq _ (xne hj (by omega) (by omega) (by omega))), hC1.2.kept (oq _ (xne hj (by omega) (by omega) (by omega)))⟩
      have hCs : xXC D cI ad (va_up zf j1 n) (va_up pm j1 (rgs kf st n (pm j1) i)) H1 := fun k hk9 => ⟨(hCs k hk9).1.kept (oq _ (xne hj (by omega) (by omega) (by omega))), (hCs k hk9).2.kept (oq _ (xne hj (by omega) (by omega) (by omega)))⟩
      refine lv_aload_n hx hb dX3_ring_55 rfl (lv_at hl 3 rfl) ?_
      refine xcV (As := []) (rest := []) ⟨hx, hb, hml, hown, hts⟩ (cX0_rank_ l D cI cC (ad (10 + j1)) (ad (26 + j1)) n (rgs kf st n (pm j1) i) hn8 (fun i9 => Nat.lt_trans ((rgs_bd (hpm8 j1) i) i9) (by decide))) (cwV 0 hts gX3_ring_X0_rank rfl rfl rfl (by decide +kernel) ⟨Nat.le_of_ble_eq_true rfl, Nat.le_of_ble_eq_true rfl⟩) hK hC1 (xRecv hK rfl hC1.1) rfl hl.1 rfl (Nat.le_of_ble_eq_true rfl) dX3_ring_56 ⟨(by show cells ≤ 10; omega), (by show slots ≤ 60; omega)⟩ (fun x56 e56 => ?_)
      subst e56
      have hi9 : i = j2 := by omega
      have hrg : rgF (n, ch, pm, st, kf, rg) j1 j2 = rgs kf st n (pm j1) j2 := if_neg (show ¬ st = 0 by omega)
      rw [hi9] at hCs
      have hz : ∀ k, k < ch → va_up zf j1 n k = n := zf_set hz
      have ht : tRing (n, ch, pm, st, kf, rg) (nI j1) (nI j2) = 0 := (show (if inR (nI j1) ch then (if inR (nI j2) 201 ∧ 1 ≤ xN (nI j2) then 0 else 2) else 1) = 0 by rw [if_pos hi2, if_pos hi7])
      refine W.widen (k := 10) (n := 60) (by omega) (by omega) ?_
      refine vx_ret ?_
      have hnw : nRing (n, ch, pm, st, kf, rg) (nI j1) (nI j2) = (n, ch, va_up pm j1 (rgs kf st n (pm j1) j2), st, kf, rg + j2) := (if_pos ht).trans (by simp only [xN_nI hj1b, xN_nI hj2b, hrg, if_neg (show ¬ st = 0 by omega)])
      exact x_miret hx hb hr hlocks () ⟨ht, (by show nI _ = rRing _ _ _; unfold rRing; simp only [xN_nI hj1b, xN_nI hj2b]; rw [hrg, hi9])⟩ (by show xXW D cI cC ad (nRing (n, ch, pm, st, kf, rg) (nI j1) (nI j2)) _; rw [hnw]; exact (xXW_mk (S := (n, ch, va_up pm j1 (rgs kf st n (pm j1) j2), st, kf, rg + j2)) hO hBk hMe hRu hfr hMa hfm hRs hCs hz)) hS (fun _ h => h) dX3_ring_59
    · refine lv_aload_n hx hb dX3_ring_29 rfl (lv_at hl 0 rfl) ?_
      refine x_get (v := .ref (ad 2)) (C := RX3) (T := TX3) (N := 8) hx hb hts (by decide +kernel) hown hK hO rfl 1 (by decide) (hts (.fieldLink RX3 19 "BellRanks" "method" "LBellRanks$Method;") (by decide +kernel)) (fun _ h9 => h9) rfl dX3_ring_30 ?_
      refine lv_aload_n hx hb dX3_ring_33 rfl (lv_at hl 3 rfl) ?_
      refine lv_iload hx hb dX3_ring_34 (lv_at hl 4 rfl) ?_
      refine xmV (As := [.ref (ad (10 + j1)), .int (nI i)]) (rest := []) ⟨hx, hb, hml, hown, hts⟩ (cX1_ringOn_ l D cI cC (ad 2) (ad 3) st kf (ad (10 + j1)) (ad (26 + j1)) n (rgs kf st n (pm j1) i) (xne hj (by omega) (by omega) (by omega)) hn8 hst0 (by omega) hkb i (by omega)) (cwV 2 hts gX3_ring_X1_ringOn rfl rfl rfl (by decide +kernel) ⟨Nat.le_of_ble_eq_true rfl, Nat.le_of_ble_eq_true rfl⟩) hK ⟨hMe, hC1⟩ (xRecv hK rfl hMe.1) rfl hl.1 rfl (Nat.le_of_ble_eq_true rfl) dX3_ring_36 ⟨(by show cells + 0 ≤ 10; omega), (by show slots + 0 ≤ 60; omega)⟩ hS (fun q h => ⟨26 + j1, by omega, h⟩) (fun q h => ⟨26 + j1, by omega, h⟩) (fun u36 H1 locs1 hp36 hF36 hz36 hk36 hS => ?_)
      have hO : xXO D ad n ch rg H1 := xat_keep hO hk36 (xne hj (by omega) (by omega) (by omega))
      have hBk : xXB D cC ad H1 := xat_keep hBk hk36 (xne hj (by omega) (by omega) (by omega))
      have hMe : xMe D cI (ad 2) (ad 3) st kf H1 := xMe_keep hMe hk36 (xne hj (by omega) (by omega) (by omega)) (xne hj (by omega) (by omega) (by omega))
      have hRu : xCh D cI (ad 4) (ad 5) zr fr H1 := xCh_keep hRu hk36 (xne hj (by omega) (by omega) (by omega)) (xne hj (by omega) (by omega) (by omega))
      have hMa : xCh D cI (ad 6) (ad 7) zm fm H1 := xCh_keep hMa hk36 (xne hj (by omega) (by omega) (by omega)) (xne hj (by omega) (by omega) (by omega))
      have hRs : xRs D cI (ad 8) (ad 9) zs fs H1 := xRs_keep hRs hk36 (xne hj (by omega) (by omega) (by omega)) (xne hj (by omega) (by omega) (by omega))
      have hC1 : xCh D cI (ad (10 + j1)) (ad (26 + j1)) n (rst (kf (i % st)) n n 0 (rgs kf st n (pm j1) i)) H1 := hF36
      have hCs := xXC_set hCs hk36 (fun i h5 h6 h7 h8 => (xne hj (by omega) (by omega) (by omega))) hC1 (show j1 < 16 by omega)
      rw [va_up_up, va_up_up] at hCs
      refine xn_iinc (v := i + 1) (lv' := [(4, .int (nI (i + 1))), (0, .ref (ad 0)), (1, .int (nI j1)), (2, .int (nI j2)), (3, .ref (ad (10 + j1)))]) hx hb dX3_ring_39 hl (k := 4) rfl (xinc1 _) (by decide) rfl (fun ls hl => ?_)
      refine lv_goto (tgt := 23) hx hb dX3_ring_42 (by decide) ?_
      exact ih23 (i + 1) _ _ _ _ ls ⟨(by omega), hO, hBk, hMe, hRu, hMa, hRs, hC1, hCs, hS, hce, hse, lv_sub hl [1, 2, 3, 4, 0] rfl⟩ (by omega)

set_option maxRecDepth 100000 in
set_option maxHeartbeats 4000000 in
theorem kBell_ (l : Launch) (hst9 : l.stackTraces = false) (D : va_G) (cI cC : ClassId) (ad : Nat → Nat) (hj : xInj ad) (S : AS) (hI : AI S) (x : Int32) (y : Int32) : vx_Met l yX3_bell wsX3_bell (xRm 14 10 60) (va_Pc [.ref (ad 0), .int x, .int y] (xBZ D cI cC (xXW D cI cC ad S) (xAD ad))) (xI (fun r (_ : Unit) => tBell S x y = 0 ∧ r = rBell S x y) (fun _ H => xXW D cI cC ad (S) H) (xAD ad)) (xX (xAD ad) (fun E H => (tBell S x y = 1 ∧ E = xEI) ∧ xXW D cI cC ad S H)) 10 60 (xAD ad) := by
  obtain ⟨n, ch, pm, st, kf, rg⟩ := S
  obtain ⟨⟨hn2, hn8⟩, hch, hst, hpm8, hpm, hkv, hkb⟩ := id hI
  dsimp only at hn2 hn8 hch hst hpm8 hpm hkv hkb
  refine vx_ofW (cc := cX3_bell) (maxL := 4) (ret := (some .int)) (by decide) rfl ?_
  intro p e s m args below meth c s₁ B hml htb hv
  obtain ⟨rfl, hP, hK, hZ⟩ := hv
  have hx := B.exec
  have hb := B.bytes
  have hr := B.returns
  have hts := atoms_spec (ws := wsX3_bell) B.pre
  have hown : s.vm.findClass RX3 = some m.cls := findClass_of_methodNamed B.named
  have hlocks := B.notSynchronized
  have hW := hP
  have hl := lv_entry ([.ref (ad 0), .int x, .int y]) (n := 4) (Nat.le_of_ble_eq_true rfl)
  rw [lg_entry_eq]
  generalize (lg_sl ([.ref (ad 0), .int x, .int y]) ++ List.replicate (4 - (lg_sl ([.ref (ad 0), .int x, .int y])).length) Slot.unset).toArray = ls at hl ⊢
  have hl : lv_has ls 4 [(0, .ref (ad 0)), (1, .int x), (2, .int y)] := hl
  obtain ⟨zr, zm, zs, fr, fm, fs, zf, hO, hBk, hMe, hRu, hfr, hMa, hfm, hRs, hCs, hz⟩ := id hW
  have hO : xXO D ad n ch rg s.heap := hO
  have hMe : xMe D cI (ad 2) (ad 3) st kf s.heap := hMe
  have hCs : xXC D cI ad zf pm s.heap := hCs
  have hz : ∀ k, k < ch → zf k = n := hz
  have hS : va_S (xAD ad) s.heap s.heap [] := va_S.rf
  refine lv_aload_n hx hb dX3_bell_0 rfl (lv_at hl 0 rfl) ?_
  refine lv_iload_n hx hb dX3_bell_1 rfl (lv_at hl 1 rfl) ?_
  refine xtR (As := [.int x]) (rest := []) ⟨hx, hb, hml, hown, hts⟩ (cX3_find_ l hst9 D cI cC ad _ n ch rg (by omega) x) (cwV 1 hts gX3_bell_X3_find rfl rfl rfl (by decide +kernel) ⟨Nat.le_of_ble_eq_true rfl, Nat.le_of_ble_eq_true rfl⟩) hK ((hZ.kept hS.2.1).narrow (fun q h => h.elim)) ⟨rfl, hO, hBk⟩ (xRecv hK rfl hO) rfl hl.1 rfl (Nat.le_of_ble_eq_true rfl) dX3_bell_2 ⟨(by show 0 + 1 ≤ 10; omega), (by show 0 + 6 ≤ 60; omega)⟩ hS (fun q h => h.elim) (fun q h => h.elim) (fun E ce q9 H1 locs1 hB hz9 hk9 hS h1 h2 h3 => ?_) (fun u ra H1 locs1 hp hF hz9 hk2 hS => ?_)
  · obtain ⟨rfl, hn⟩ := hB
    exact x_pass htb hlocks h1 h2 h3 ⟨⟨if_neg (fun z => hn z.1), rfl⟩, (xXW_old hW (fun x9 hx9 => hk9 x9 hx9 id))⟩ hS (fun _ h => h) (by omega) (by omega)
  obtain ⟨rfl, hra⟩ := hF
  have hi2 := hp
  obtain ⟨j1, hj1, hj1b, rfl⟩ := inR_of hp
  rw [xN_nI hj1b] at hra
  subst hra
  have hl : lv_has ls 4 [(0, .ref (ad 0)), (1, .int (nI j1)), (2, .int y)] := hl
  have hC1 : xCh D cI (ad (10 + j1)) (ad (26 + j1)) n (pm j1) s.heap := xXC_at hCs (show j1 < 16 by omega) (hz j1 hj1)
  refine lv_astore_n (lv' := [(3, .ref (ad (10 + j1))), (0, .ref (ad 0)), (1, .int (nI j1)), (2, .int y)]) hx hb dX3_bell_5 rfl hl (by decide) rfl (fun ls hl => ?_)
  refine lv_aload_n hx hb dX3_bell_6 rfl (lv_at hl 1 rfl) ?_
  refine lv_iload_n hx hb dX3_bell_7 rfl (lv_at hl 3 rfl) ?_
  refine xtV (As := [.int y]) (rest := []) ⟨hx, hb, hml, hown, hts⟩ (cX3_checkPlace_ l hst9 D cI cC ad _ n ch rg hn8 y) (cwV 1 hts gX3_bell_X3_checkPlace rfl rfl rfl (by decide +kernel) ⟨Nat.le_of_ble_eq_true rfl, Nat.le_of_ble_eq_true rfl⟩) hK ((hZ.kept hS.2.1).narrow (fun q h => h.elim)) ⟨rfl, hO⟩ (xRecv hK rfl hO) rfl hl.1 rfl (Nat.le_of_ble_eq_true rfl) dX3_bell_8 ⟨(by show 0 + 1 + 1 ≤ 10; omega), (by show 0 + 6 + 6 ≤ 60; omega)⟩ hS (fun q h => h.elim) (fun q h => h.elim) (fun E ce q9 H1 locs1 hB hz9 hk9 hS h1 h2 h3 => ?_) (fun u H1 locs1 hp hF hz9 hk8 hS => ?_)
  · obtain ⟨rfl, hn⟩ := hB
    exact x_pass htb hlocks h1 h2 h3 ⟨⟨if_neg (fun z => hn z.2), rfl⟩, (xXW_old hW (fun x9 hx9 => hk9 x9 hx9 id))⟩ hS (fun _ h => h) (by omega) (by omega)
  obtain rfl := hF
  have hi8 := hp
  obtain ⟨j2, hj2, hj2b, rfl⟩ := inR_of hi8
  have hl : lv_has ls 4 [(3, .ref (ad (10 + j1))), (0, .ref (ad 0)), (1, .int (nI j1)), (2, .int (nI j2))] := hl
  refine lv_aload_n hx hb dX3_bell_11 rfl (lv_at hl 0 rfl) ?_
  refine lv_iload_n hx hb dX3_bell_12 rfl (lv_at hl 3 rfl) ?_
  refine xcV (As := [.int (nI j2)]) (rest := []) ⟨hx, hb, hml, hown, hts⟩ (cX0_bellAt_ l D cI cC (ad (10 + j1)) (ad (26 + j1)) n (pm j1) j2 (by omega)) (cwV 1 hts gX3_bell_X0_bellAt rfl rfl rfl (by decide +kernel) ⟨Nat.le_of_ble_eq_true rfl, Nat.le_of_ble_eq_true rfl⟩) hK hC1 (xRecv hK rfl hC1.1) rfl hl.1 rfl (Nat.le_of_ble_eq_true rfl) dX3_bell_13 ⟨(by show 0 + 1 + 1 ≤ 10; omega), (by show 0 + 6 + 6 ≤ 60; omega)⟩ (fun x13 e13 => ?_)
  subst e13
  have ht : tBell (n, ch, pm, st, kf, rg) (nI j1) (nI j2) = 0 := if_pos ⟨hi2, hi8⟩
  refine W.widen (k := 10) (n := 60) (by omega) (by omega) ?_
  refine vx_ret ?_
  exact x_miret hx hb hr hlocks () ⟨ht, (by show nI _ = rBell _ _ _; unfold rBell; simp only [xN_nI hj1b, xN_nI hj2b])⟩ (xXW_mk (S := (n, ch, pm, st, kf, rg)) hO hBk hMe hRu hfr hMa hfm hRs hCs hz) hS (fun _ h => h) dX3_bell_16

set_option maxRecDepth 100000 in
set_option maxHeartbeats 4000000 in
theorem kRound_ (l : Launch) (hst9 : l.stackTraces = false) (D : va_G) (cI cC : ClassId) (ad : Nat → Nat) (hj : xInj ad) (S : AS) (hI : AI S) (x : Int32) (y : Int32) : vx_Met l yX3_round wsX3_round (xRm 14 10 60) (va_Pc [.ref (ad 0), .int x, .int y] (xBZ D cI cC (xXW D cI cC ad S) (xAD ad))) (xI (fun r (_ : Unit) => tBell S x y = 0 ∧ r = rRound S x y) (fun _ H => xXW D cI cC ad (S) H) (xAD ad)) (xX (xAD ad) (fun E H => (tBell S x y = 1 ∧ E = xEI) ∧ xXW D cI cC ad S H)) 10 60 (xAD ad) := by
  obtain ⟨n, ch, pm, st, kf, rg⟩ := S
  obtain ⟨⟨hn2, hn8⟩, hch, hst, hpm8, hpm, hkv, hkb⟩ := id hI
  dsimp only at hn2 hn8 hch hst hpm8 hpm hkv hkb
  refine vx_ofW (cc := cX3_round) (maxL := 4) (ret := (some .int)) (by decide) rfl ?_
  intro p e s m args below meth c s₁ B hml htb hv
  obtain ⟨rfl, hP, hK, hZ⟩ := hv
  have hx := B.exec
  have hb := B.bytes
  have hr := B.returns
  have hts := atoms_spec (ws := wsX3_round) B.pre
  have hown : s.vm.findClass RX3 = some m.cls := findClass_of_methodNamed B.named
  have hlocks := B.notSynchronized
  have hW := hP
  have hl := lv_entry ([.ref (ad 0), .int x, .int y]) (n := 4) (Nat.le_of_ble_eq_true rfl)
  rw [lg_entry_eq]
  generalize (lg_sl ([.ref (ad 0), .int x, .int y]) ++ List.replicate (4 - (lg_sl ([.ref (ad 0), .int x, .int y])).length) Slot.unset).toArray = ls at hl ⊢
  have hl : lv_has ls 4 [(0, .ref (ad 0)), (1, .int x), (2, .int y)] := hl
  obtain ⟨zr, zm, zs, fr, fm, fs, zf, hO, hBk, hMe, hRu, hfr, hMa, hfm, hRs, hCs, hz⟩ := id hW
  have hO : xXO D ad n ch rg s.heap := hO
  have hMe : xMe D cI (ad 2) (ad 3) st kf s.heap := hMe
  have hCs : xXC D cI ad zf pm s.heap := hCs
  have hz : ∀ k, k < ch → zf k = n := hz
  have hS : va_S (xAD ad) s.heap s.heap [] := va_S.rf
  refine lv_aload_n hx hb dX3_round_0 rfl (lv_at hl 0 rfl) ?_
  refine lv_iload_n hx hb dX3_round_1 rfl (lv_at hl 1 rfl) ?_
  refine xtR (As := [.int x]) (rest := []) ⟨hx, hb, hml, hown, hts⟩ (cX3_find_ l hst9 D cI cC ad _ n ch rg (by omega) x) (cwV 1 hts gX3_round_X3_find rfl rfl rfl (by decide +kernel) ⟨Nat.le_of_ble_eq_true rfl, Nat.le_of_ble_eq_true rfl⟩) hK ((hZ.kept hS.2.1).narrow (fun q h => h.elim)) ⟨rfl, hO, hBk⟩ (xRecv hK rfl hO) rfl hl.1 rfl (Nat.le_of_ble_eq_true rfl) dX3_round_2 ⟨(by show 0 + 1 ≤ 10; omega), (by show 0 + 6 ≤ 60; omega)⟩ hS (fun q h => h.elim) (fun q h => h.elim) (fun E ce q9 H1 locs1 hB hz9 hk9 hS h1 h2 h3 => ?_) (fun u ra H1 locs1 hp hF hz9 hk2 hS => ?_)
  · obtain ⟨rfl, hn⟩ := hB
    exact x_pass htb hlocks h1 h2 h3 ⟨⟨if_neg (fun z => hn z.1), rfl⟩, (xXW_old hW (fun x9 hx9 => hk9 x9 hx9 id))⟩ hS (fun _ h => h) (by omega) (by omega)
  obtain ⟨rfl, hra⟩ := hF
  have hi2 := hp
  obtain ⟨j1, hj1, hj1b, rfl⟩ := inR_of hp
  rw [xN_nI hj1b] at hra
  subst hra
  have hl : lv_has ls 4 [(0, .ref (ad 0)), (1, .int (nI j1)), (2, .int y)] := hl
  have hC1 : xCh D cI (ad (10 + j1)) (ad (26 + j1)) n (pm j1) s.heap := xXC_at hCs (show j1 < 16 by omega) (hz j1 hj1)
  refine lv_astore_n (lv' := [(3, .ref (ad (10 + j1))), (0, .ref (ad 0)), (1, .int (nI j1)), (2, .int y)]) hx hb dX3_round_5 rfl hl (by decide) rfl (fun ls hl => ?_)
  refine lv_aload_n hx hb dX3_round_6 rfl (lv_at hl 1 rfl) ?_
  refine lv_iload_n hx hb dX3_round_7 rfl (lv_at hl 3 rfl) ?_
  refine xtV (As := [.int y]) (rest := []) ⟨hx, hb, hml, hown, hts⟩ (cX3_checkPlace_ l hst9 D cI cC ad _ n ch rg hn8 y) (cwV 1 hts gX3_round_X3_checkPlace rfl rfl rfl (by decide +kernel) ⟨Nat.le_of_ble_eq_true rfl, Nat.le_of_ble_eq_true rfl⟩) hK ((hZ.kept hS.2.1).narrow (fun q h => h.elim)) ⟨rfl, hO⟩ (xRecv hK rfl hO) rfl hl.1 rfl (Nat.le_of_ble_eq_true rfl) dX3_round_8 ⟨(by show 0 + 1 + 1 ≤ 10; omega), (by show 0 + 6 + 6 ≤ 60; omega)⟩ hS (fun q h => h.elim) (fun q h => h.elim) (fun E ce q9 H1 locs1 hB hz9 hk9 hS h1 h2 h3 => ?_) (fun u H1 locs1 hp hF hz9 hk8 hS => ?_)
  · obtain ⟨rfl, hn⟩ := hB
    exact x_pass htb hlocks h1 h2 h3 ⟨⟨if_neg (fun z => hn z.2), rfl⟩, (xXW_old hW (fun x9 hx9 => hk9 x9 hx9 id))⟩ hS (fun _ h => h) (by omega) (by omega)
  obtain rfl := hF
  have hi8 := hp
  obtain ⟨j2, hj2, hj2b, rfl⟩ := inR_of hi8
  have hl : lv_has ls 4 [(3, .ref (ad (10 + j1))), (0, .ref (ad 0)), (1, .int (nI j1)), (2, .int (nI j2))] := hl
  refine lv_aload_n hx hb dX3_round_11 rfl (lv_at hl 0 rfl) ?_
  refine lv_iload_n hx hb dX3_round_12 rfl (lv_at hl 3 rfl) ?_
  refine xcV (As := [.int (nI j2)]) (rest := []) ⟨hx, hb, hml, hown, hts⟩ (cX0_ringLength_ l D cI cC (ad (10 + j1)) (ad (26 + j1)) n (pm j1) hn8 (hpm8 j1) j2 (by omega)) (cwV 1 hts gX3_round_X0_ringLength rfl rfl rfl (by decide +kernel) ⟨Nat.le_of_ble_eq_true rfl, Nat.le_of_ble_eq_true rfl⟩) hK hC1 (xRecv hK rfl hC1.1) rfl hl.1 rfl (Nat.le_of_ble_eq_true rfl) dX3_round_13 ⟨(by show 0 + 1 + 1 ≤ 10; omega), (by show 0 + 6 + 6 ≤ 60; omega)⟩ (fun x13 e13 => ?_)
  subst e13
  have ht : tBell (n, ch, pm, st, kf, rg) (nI j1) (nI j2) = 0 := if_pos ⟨hi2, hi8⟩
  refine W.widen (k := 10) (n := 60) (by omega) (by omega) ?_
  refine vx_ret ?_
  exact x_miret hx hb hr hlocks () ⟨ht, (by show nI _ = rRound _ _ _; unfold rRound; simp only [xN_nI hj1b, xN_nI hj2b])⟩ (xXW_mk (S := (n, ch, pm, st, kf, rg)) hO hBk hMe hRu hfr hMa hfm hRs hCs hz) hS (fun _ h => h) dX3_round_16

set_option maxRecDepth 100000 in
set_option maxHeartbeats 4000000 in
theorem kTold_ (l : Launch) (hst9 : l.stackTraces = false) (D : va_G) (cI cC : ClassId) (ad : Nat → Nat) (hj : xInj ad) (S : AS) (hI : AI S) (x : Int32) (y : Int32) : vx_Met l yX3_told wsX3_told (xRm 14 10 60) (va_Pc [.ref (ad 0), .int x, .int y] (xBZ D cI cC (xXW D cI cC ad S) (xAD ad))) (xI (fun r (_ : Unit) => tTold S x y = 0 ∧ r = rTold S x y) (fun _ H => xXW D cI cC ad (S) H) (xAD ad)) (xX (xAD ad) (fun E H => (tTold S x y = 1 ∧ E = xEI) ∧ xXW D cI cC ad S H)) 10 60 (xAD ad) := by
  obtain ⟨n, ch, pm, st, kf, rg⟩ := S
  obtain ⟨⟨hn2, hn8⟩, hch, hst, hpm8, hpm, hkv, hkb⟩ := id hI
  dsimp only at hn2 hn8 hch hst hpm8 hpm hkv hkb
  refine vx_ofW (cc := cX3_told) (maxL := 4) (ret := (some .int)) (by decide) rfl ?_
  intro p e s m args below meth c s₁ B hml htb hv
  obtain ⟨rfl, hP, hK, hZ⟩ := hv
  have hx := B.exec
  have hb := B.bytes
  have hr := B.returns
  have hts := atoms_spec (ws := wsX3_told) B.pre
  have hown : s.vm.findClass RX3 = some m.cls := findClass_of_methodNamed B.named
  have hlocks := B.notSynchronized
  have hW := hP
  have hl := lv_entry ([.ref (ad 0), .int x, .int y]) (n := 4) (Nat.le_of_ble_eq_true rfl)
  rw [lg_entry_eq]
  generalize (lg_sl ([.ref (ad 0), .int x, .int y]) ++ List.replicate (4 - (lg_sl ([.ref (ad 0), .int x, .int y])).length) Slot.unset).toArray = ls at hl ⊢
  have hl : lv_has ls 4 [(0, .ref (ad 0)), (1, .int x), (2, .int y)] := hl
  obtain ⟨zr, zm, zs, fr, fm, fs, zf, hO, hBk, hMe, hRu, hfr, hMa, hfm, hRs, hCs, hz⟩ := id hW
  have hO : xXO D ad n ch rg s.heap := hO
  have hMe : xMe D cI (ad 2) (ad 3) st kf s.heap := hMe
  have hCs : xXC D cI ad zf pm s.heap := hCs
  have hz : ∀ k, k < ch → zf k = n := hz
  have hS : va_S (xAD ad) s.heap s.heap [] := va_S.rf
  refine lv_aload_n hx hb dX3_told_0 rfl (lv_at hl 0 rfl) ?_
  refine lv_iload_n hx hb dX3_told_1 rfl (lv_at hl 1 rfl) ?_
  refine xtR (As := [.int x]) (rest := []) ⟨hx, hb, hml, hown, hts⟩ (cX3_find_ l hst9 D cI cC ad _ n ch rg (by omega) x) (cwV 1 hts gX3_told_X3_find rfl rfl rfl (by decide +kernel) ⟨Nat.le_of_ble_eq_true rfl, Nat.le_of_ble_eq_true rfl⟩) hK ((hZ.kept hS.2.1).narrow (fun q h => h.elim)) ⟨rfl, hO, hBk⟩ (xRecv hK rfl hO) rfl hl.1 rfl (Nat.le_of_ble_eq_true rfl) dX3_told_2 ⟨(by show 0 + 1 ≤ 10; omega), (by show 0 + 6 ≤ 60; omega)⟩ hS (fun q h => h.elim) (fun q h => h.elim) (fun E ce q9 H1 locs1 hB hz9 hk9 hS h1 h2 h3 => ?_) (fun u ra H1 locs1 hp hF hz9 hk2 hS => ?_)
  · obtain ⟨rfl, hn⟩ := hB
    exact x_pass htb hlocks h1 h2 h3 ⟨⟨if_neg (fun z => hn z.1), rfl⟩, (xXW_old hW (fun x9 hx9 => hk9 x9 hx9 id))⟩ hS (fun _ h => h) (by omega) (by omega)
  obtain ⟨rfl, hra⟩ := hF
  have hi2 := hp
  obtain ⟨j1, hj1, hj1b, rfl⟩ := inR_of hp
  rw [xN_nI hj1b] at hra
  subst hra
  have hl : lv_has ls 4 [(0, .ref (ad 0)), (1, .int (nI j1)), (2, .int y)] := hl
  have hC1 : xCh D cI (ad (10 + j1)) (ad (26 + j1)) n (pm j1) s.heap := xXC_at hCs (show j1 < 16 by omega) (hz j1 hj1)
  refine lv_astore_n (lv' := [(3, .ref (ad (10 + j1))), (0, .ref (ad 0)), (1, .int (nI j1)), (2, .int y)]) hx hb dX3_told_5 rfl hl (by decide) rfl (fun ls hl => ?_)
  refine lv_iload_n hx hb dX3_told_6 rfl (lv_at hl 3 rfl) ?_
  by_cases hy : inR y 8
  · obtain ⟨w, hw, hwb, rfl⟩ := inR_of hy
    have hl : lv_has ls 4 [(3, .ref (ad (10 + j1))), (0, .ref (ad 0)), (1, .int (nI j1)), (2, .int (nI w))] := hl
    rcases (show w = 0 ∨ w = 1 ∨ w = 2 ∨ w = 3 ∨ w = 4 ∨ w = 5 ∨ w = 6 ∨ w = 7 by omega) with rfl | rfl | rfl | rfl | rfl | rfl | rfl | rfl
    · refine lv_tableIn (off := 45) (tgt := 52) hx hb dX3_told_7 (by decide) (by decide) rfl (by decide) ?_
      have hl : lv_has ls 4 [(3, .ref (ad (10 + j1))), (0, .ref (ad 0)), (1, .int (nI j1)), (2, .int (nI 0))] := hl
      refine lv_aload_n hx hb dX3_told_52 rfl (lv_at hl 0 rfl) ?_
      refine xcV (As := []) (rest := []) ⟨hx, hb, hml, hown, hts⟩ (cX0_rank_ l D cI cC (ad (10 + j1)) (ad (26 + j1)) n (pm j1) hn8 (fun i9 => Nat.lt_trans ((hpm8 j1) i9) (by decide))) (cwV 0 hts gX3_told_X0_rank rfl rfl rfl (by decide +kernel) ⟨Nat.le_of_ble_eq_true rfl, Nat.le_of_ble_eq_true rfl⟩) hK hC1 (xRecv hK rfl hC1.1) rfl hl.1 rfl (Nat.le_of_ble_eq_true rfl) dX3_told_53 ⟨(by show 0 + 1 ≤ 10; omega), (by show 0 + 6 ≤ 60; omega)⟩ (fun x53 e53 => ?_)
      subst e53
      have ht : tTold (n, ch, pm, st, kf, rg) (nI j1) (nI 0) = 0 := if_pos ⟨hi2, hy⟩
      refine W.widen (k := 10) (n := 60) (by omega) (by omega) ?_
      refine vx_ret ?_
      exact x_miret hx hb hr hlocks () ⟨ht, (by show nI _ = rTold _ _ _; unfold rTold; simp only [xN_nI hj1b, xN_nI (show 0 < 2 ^ 31 by decide)]; rfl)⟩ (xXW_mk (S := (n, ch, pm, st, kf, rg)) hO hBk hMe hRu hfr hMa hfm hRs hCs hz) hS (fun _ h => h) dX3_told_56
    · refine lv_tableIn (off := 50) (tgt := 57) hx hb dX3_told_7 (by decide) (by decide) rfl (by decide) ?_
      have hl : lv_has ls 4 [(3, .ref (ad (10 + j1))), (0, .ref (ad 0)), (1, .int (nI j1)), (2, .int (nI 1))] := hl
      refine lv_aload_n hx hb dX3_told_57 rfl (lv_at hl 0 rfl) ?_
      refine xcV (As := []) (rest := []) ⟨hx, hb, hml, hown, hts⟩ (cX0_inversions_ l D cI cC (ad (10 + j1)) (ad (26 + j1)) n (pm j1) hn8 (fun i9 => Nat.lt_trans ((hpm8 j1) i9) (by decide))) (cwV 0 hts gX3_told_X0_inversions rfl rfl rfl (by decide +kernel) ⟨Nat.le_of_ble_eq_true rfl, Nat.le_of_ble_eq_true rfl⟩) hK hC1 (xRecv hK rfl hC1.1) rfl hl.1 rfl (Nat.le_of_ble_eq_true rfl) dX3_told_58 ⟨(by show 0 + 1 ≤ 10; omega), (by show 0 + 6 ≤ 60; omega)⟩ (fun x58 e58 => ?_)
      subst e58
      have ht : tTold (n, ch, pm, st, kf, rg) (nI j1) (nI 1) = 0 := if_pos ⟨hi2, hy⟩
      refine W.widen (k := 10) (n := 60) (by omega) (by omega) ?_
      refine vx_ret ?_
      exact x_miret hx hb hr hlocks () ⟨ht, (by show nI _ = rTold _ _ _; unfold rTold; simp only [xN_nI hj1b, xN_nI (show 1 < 2 ^ 31 by decide)]; rfl)⟩ (xXW_mk (S := (n, ch, pm, st, kf, rg)) hO hBk hMe hRu hfr hMa hfm hRs hCs hz) hS (fun _ h => h) dX3_told_61
    · refine lv_tableIn (off := 55) (tgt := 62) hx hb dX3_told_7 (by decide) (by decide) rfl (by decide) ?_
      have hl : lv_has ls 4 [(3, .ref (ad (10 + j1))), (0, .ref (ad 0)), (1, .int (nI j1)), (2, .int (nI 2))] := hl
      refine lv_aload_n hx hb dX3_told_62 rfl (lv_at hl 0 rfl) ?_
      refine xcV (As := []) (rest := []) ⟨hx, hb, hml, hown, hts⟩ (cX0_inversions_ l D cI cC (ad (10 + j1)) (ad (26 + j1)) n (pm j1) hn8 (fun i9 => Nat.lt_trans ((hpm8 j1) i9) (by decide))) (cwV 0 hts gX3_told_X0_inversions rfl rfl rfl (by decide +kernel) ⟨Nat.le_of_ble_eq_true rfl, Nat.le_of_ble_eq_true rfl⟩) hK hC1 (xRecv hK rfl hC1.1) rfl hl.1 rfl (Nat.le_of_ble_eq_true rfl) dX3_told_63 ⟨(by show 0 + 1 ≤ 10; omega), (by show 0 + 6 ≤ 60; omega)⟩ (fun x63 e63 => ?_)
      subst e63
      refine xn_iconst (v := 1) hx hb dX3_told_66 (by decide) ?_
      refine lv_iand hx hb dX3_told_67 ?_
      refine xz_i (xand1 (Nat.lt_of_le_of_lt (ivs_le _ _) (by have h9 : n * n ≤ 8 * 8 := Nat.mul_le_mul hn8 hn8; omega))) ?_
      have ht : tTold (n, ch, pm, st, kf, rg) (nI j1) (nI 2) = 0 := if_pos ⟨hi2, hy⟩
      refine W.widen (k := 10) (n := 60) (by omega) (by omega) ?_
      refine vx_ret ?_
      exact x_miret hx hb hr hlocks () ⟨ht, (by show nI _ = rTold _ _ _; unfold rTold; simp only [xN_nI hj1b, xN_nI (show 2 < 2 ^ 31 by decide)]; rfl)⟩ (xXW_mk (S := (n, ch, pm, st, kf, rg)) hO hBk hMe hRu hfr hMa hfm hRs hCs hz) hS (fun _ h => h) dX3_told_68
    · refine lv_tableIn (off := 62) (tgt := 69) hx hb dX3_told_7 (by decide) (by decide) rfl (by decide) ?_
      have hl : lv_has ls 4 [(3, .ref (ad (10 + j1))), (0, .ref (ad 0)), (1, .int (nI j1)), (2, .int (nI 3))] := hl
      refine lv_aload_n hx hb dX3_told_69 rfl (lv_at hl 0 rfl) ?_
      refine xcV (As := []) (rest := []) ⟨hx, hb, hml, hown, hts⟩ (cX0_ringCount_ l D cI cC (ad (10 + j1)) (ad (26 + j1)) n (pm j1) hn8 (hpm8 j1)) (cwV 0 hts gX3_told_X0_ringCount rfl rfl rfl (by decide +kernel) ⟨Nat.le_of_ble_eq_true rfl, Nat.le_of_ble_eq_true rfl⟩) hK hC1 (xRecv hK rfl hC1.1) rfl hl.1 rfl (Nat.le_of_ble_eq_true rfl) dX3_told_70 ⟨(by show 0 + 1 ≤ 10; omega), (by show 0 + 6 ≤ 60; omega)⟩ (fun x70 e70 => ?_)
      subst e70
      have ht : tTold (n, ch, pm, st, kf, rg) (nI j1) (nI 3) = 0 := if_pos ⟨hi2, hy⟩
      refine W.widen (k := 10) (n := 60) (by omega) (by omega) ?_
      refine vx_ret ?_
      exact x_miret hx hb hr hlocks () ⟨ht, (by show nI _ = rTold _ _ _; unfold rTold; simp only [xN_nI hj1b, xN_nI (show 3 < 2 ^ 31 by decide)]; rfl)⟩ (xXW_mk (S := (n, ch, pm, st, kf, rg)) hO hBk hMe hRu hfr hMa hfm hRs hCs hz) hS (fun _ h => h) dX3_told_73
    · refine lv_tableIn (off := 67) (tgt := 74) hx hb dX3_told_7 (by decide) (by decide) rfl (by decide) ?_
      have hl : lv_has ls 4 [(3, .ref (ad (10 + j1))), (0, .ref (ad 0)), (1, .int (nI j1)), (2, .int (nI 4))] := hl
      refine lv_aload_n hx hb dX3_told_74 rfl (lv_at hl 0 rfl) ?_
      refine xcV (As := []) (rest := []) ⟨hx, hb, hml, hown, hts⟩ (cX0_longestRing_ l D cI cC (ad (10 + j1)) (ad (26 + j1)) n (pm j1) hn8 (hpm8 j1)) (cwV 0 hts gX3_told_X0_longestRing rfl rfl rfl (by decide +kernel) ⟨Nat.le_of_ble_eq_true rfl, Nat.le_of_ble_eq_true rfl⟩) hK hC1 (xRecv hK rfl hC1.1) rfl hl.1 rfl (Nat.le_of_ble_eq_true rfl) dX3_told_75 ⟨(by show 0 + 1 ≤ 10; omega), (by show 0 + 6 ≤ 60; omega)⟩ (fun x75 e75 => ?_)
      subst e75
      have ht : tTold (n, ch, pm, st, kf, rg) (nI j1) (nI 4) = 0 := if_pos ⟨hi2, hy⟩
      refine W.widen (k := 10) (n := 60) (by omega) (by omega) ?_
      refine vx_ret ?_
      exact x_miret hx hb hr hlocks () ⟨ht, (by show nI _ = rTold _ _ _; unfold rTold; simp only [xN_nI hj1b, xN_nI (show 4 < 2 ^ 31 by decide)]; rfl)⟩ (xXW_mk (S := (n, ch, pm, st, kf, rg)) hO hBk hMe hRu hfr hMa hfm hRs hCs hz) hS (fun _ h => h) dX3_told_78
    · refine lv_tableIn (off := 72) (tgt := 79) hx hb dX3_told_7 (by decide) (by decide) rfl (by decide) ?_
      have hl : lv_has ls 4 [(3, .ref (ad (10 + j1))), (0, .ref (ad 0)), (1, .int (nI j1)), (2, .int (nI 5))] := hl
      refine lv_aload_n hx hb dX3_told_79 rfl (lv_at hl 0 rfl) ?_
      refine xcV (As := []) (rest := []) ⟨hx, hb, hml, hown, hts⟩ (cX0_order_ l D cI cC (ad (10 + j1)) (ad (26 + j1)) n (pm j1) hn8 (hpm8 j1) (fun i9 h9 => Nat.lt_trans (ord_ok hn8 i9 h9).2.1 (by decide))) (cwV 0 hts gX3_told_X0_order rfl rfl rfl (by decide +kernel) ⟨Nat.le_of_ble_eq_true rfl, Nat.le_of_ble_eq_true rfl⟩) hK hC1 (xRecv hK rfl hC1.1) rfl hl.1 rfl (Nat.le_of_ble_eq_true rfl) dX3_told_80 ⟨(by show 0 + 1 ≤ 10; omega), (by show 0 + 6 ≤ 60; omega)⟩ (fun x80 e80 => ?_)
      subst e80
      have ht : tTold (n, ch, pm, st, kf, rg) (nI j1) (nI 5) = 0 := if_pos ⟨hi2, hy⟩
      refine W.widen (k := 10) (n := 60) (by omega) (by omega) ?_
      refine vx_ret ?_
      exact x_miret hx hb hr hlocks () ⟨ht, (by show nI _ = rTold _ _ _; unfold rTold; simp only [xN_nI hj1b, xN_nI (show 5 < 2 ^ 31 by decide)]; rfl)⟩ (xXW_mk (S := (n, ch, pm, st, kf, rg)) hO hBk hMe hRu hfr hMa hfm hRs hCs hz) hS (fun _ h => h) dX3_told_83
    · refine lv_tableIn (off := 77) (tgt := 84) hx hb dX3_told_7 (by decide) (by decide) rfl (by decide) ?_
      have hl : lv_has ls 4 [(3, .ref (ad (10 + j1))), (0, .ref (ad 0)), (1, .int (nI j1)), (2, .int (nI 6))] := hl
      refine lv_aload_n hx hb dX3_told_84 rfl (lv_at hl 0 rfl) ?_
      refine xcV (As := []) (rest := []) ⟨hx, hb, hml, hown, hts⟩ (cX0_ownPlaces_ l D cI cC (ad (10 + j1)) (ad (26 + j1)) n (pm j1) hn8 (fun i9 => Nat.lt_trans ((hpm8 j1) i9) (by decide))) (cwV 0 hts gX3_told_X0_ownPlaces rfl rfl rfl (by decide +kernel) ⟨Nat.le_of_ble_eq_true rfl, Nat.le_of_ble_eq_true rfl⟩) hK hC1 (xRecv hK rfl hC1.1) rfl hl.1 rfl (Nat.le_of_ble_eq_true rfl) dX3_told_85 ⟨(by show 0 + 1 ≤ 10; omega), (by show 0 + 6 ≤ 60; omega)⟩ (fun x85 e85 => ?_)
      subst e85
      have ht : tTold (n, ch, pm, st, kf, rg) (nI j1) (nI 6) = 0 := if_pos ⟨hi2, hy⟩
      refine W.widen (k := 10) (n := 60) (by omega) (by omega) ?_
      refine vx_ret ?_
      exact x_miret hx hb hr hlocks () ⟨ht, (by show nI _ = rTold _ _ _; unfold rTold; simp only [xN_nI hj1b, xN_nI (show 6 < 2 ^ 31 by decide)]; rfl)⟩ (xXW_mk (S := (n, ch, pm, st, kf, rg)) hO hBk hMe hRu hfr hMa hfm hRs hCs hz) hS (fun _ h => h) dX3_told_88
    · refine lv_tableIn (off := 82) (tgt := 89) hx hb dX3_told_7 (by decide) (by decide) rfl (by decide) ?_
      have hl : lv_has ls 4 [(3, .ref (ad (10 + j1))), (0, .ref (ad 0)), (1, .int (nI j1)), (2, .int (nI 7))] := hl
      refine lv_aload_n hx hb dX3_told_89 rfl (lv_at hl 0 rfl) ?_
      refine xn_iconst (v := 0) hx hb dX3_told_90 (by decide) ?_
      refine xcV (As := [.int (nI 0)]) (rest := []) ⟨hx, hb, hml, hown, hts⟩ (cX0_placeOf_ l D cI cC (ad (10 + j1)) (ad (26 + j1)) n (pm j1) hn8 (fun i9 => Nat.lt_trans ((hpm8 j1) i9) (by decide)) 0 (by decide)) (cwV 1 hts gX3_told_X0_placeOf rfl rfl rfl (by decide +kernel) ⟨Nat.le_of_ble_eq_true rfl, Nat.le_of_ble_eq_true rfl⟩) hK hC1 (xRecv hK rfl hC1.1) rfl hl.1 rfl (Nat.le_of_ble_eq_true rfl) dX3_told_91 ⟨(by show 0 + 1 ≤ 10; omega), (by show 0 + 6 ≤ 60; omega)⟩ (fun x91 e91 => ?_)
      subst e91
      have ht : tTold (n, ch, pm, st, kf, rg) (nI j1) (nI 7) = 0 := if_pos ⟨hi2, hy⟩
      refine W.widen (k := 10) (n := 60) (by omega) (by omega) ?_
      refine vx_ret ?_
      exact x_miret hx hb hr hlocks () ⟨ht, (by show nI _ = rTold _ _ _; unfold rTold; simp only [xN_nI hj1b, xN_nI (show 7 < 2 ^ 31 by decide)]; rfl)⟩ (xXW_mk (S := (n, ch, pm, st, kf, rg)) hO hBk hMe hRu hfr hMa hfm hRs hCs hz) hS (fun _ h => h) dX3_told_94
  have hn := hy
  refine lv_tableOut (tgt := 95) hx hb dX3_told_7 (nin_toInt (N := 8) (by decide) hy) (by decide) ?_
  exact x_throw (cls := xEI) (text := "what is not 0 to 7") (ik := 61) (is := 152) (ic := 65) hx hb hst9 hts hown htb hlocks hZ hS (hl.1.trans hml.symm) (by decide +kernel) (by decide +kernel) (by decide +kernel) xbad_I (by decide +kernel) xgood_I (by decide) dX3_told_95 dX3_told_98 dX3_told_99 dX3_told_101 dX3_told_104 (Nat.le_of_ble_eq_true rfl) (Nat.le_of_ble_eq_true rfl) (by show 0 + 1 + 1 ≤ 10; omega) (by show 0 + 6 + 6 ≤ 60; omega) (fun H1 _ ho => ⟨⟨if_neg (fun z => hn z.2), rfl⟩, xXW_old hW ho⟩) (fun _ h => h) (by omega) (by omega)

set_option maxRecDepth 100000 in
set_option maxHeartbeats 4000000 in
theorem kApart_ (l : Launch) (hst9 : l.stackTraces = false) (D : va_G) (cI cC : ClassId) (ad : Nat → Nat) (hj : xInj ad) (S : AS) (hI : AI S) (x : Int32) (y : Int32) : vx_Met l yX3_apart wsX3_apart (xRm 14 10 60) (va_Pc [.ref (ad 0), .int x, .int y] (xBZ D cI cC (xXW D cI cC ad S) (xAD ad))) (xI (fun r (_ : Unit) => tTwo S x y = 0 ∧ r = rApart S x y) (fun _ H => xXW D cI cC ad (S) H) (xAD ad)) (xX (xAD ad) (fun E H => (tTwo S x y = 1 ∧ E = xEI) ∧ xXW D cI cC ad S H)) 10 60 (xAD ad) := by
  obtain ⟨n, ch, pm, st, kf, rg⟩ := S
  obtain ⟨⟨hn2, hn8⟩, hch, hst, hpm8, hpm, hkv, hkb⟩ := id hI
  dsimp only at hn2 hn8 hch hst hpm8 hpm hkv hkb
  refine vx_ofW (cc := cX3_apart) (maxL := 8) (ret := (some .int)) (by decide) rfl ?_
  intro p e s m args below meth c s₁ B hml htb hv
  obtain ⟨rfl, hP, hK, hZ⟩ := hv
  have hx := B.exec
  have hb := B.bytes
  have hr := B.returns
  have hts := atoms_spec (ws := wsX3_apart) B.pre
  have hown : s.vm.findClass RX3 = some m.cls := findClass_of_methodNamed B.named
  have hlocks := B.notSynchronized
  have hW := hP
  have hl := lv_entry ([.ref (ad 0), .int x, .int y]) (n := 8) (Nat.le_of_ble_eq_true rfl)
  rw [lg_entry_eq]
  generalize (lg_sl ([.ref (ad 0), .int x, .int y]) ++ List.replicate (8 - (lg_sl ([.ref (ad 0), .int x, .int y])).length) Slot.unset).toArray = ls at hl ⊢
  have hl : lv_has ls 8 [(0, .ref (ad 0)), (1, .int x), (2, .int y)] := hl
  obtain ⟨zr, zm, zs, fr, fm, fs, zf, hO, hBk, hMe, hRu, hfr, hMa, hfm, hRs, hCs, hz⟩ := id hW
  have hO : xXO D ad n ch rg s.heap := hO
  have hMe : xMe D cI (ad 2) (ad 3) st kf s.heap := hMe
  have hCs : xXC D cI ad zf pm s.heap := hCs
  have hz : ∀ k, k < ch → zf k = n := hz
  have hS : va_S (xAD ad) s.heap s.heap [] := va_S.rf
  
  refine lv_aload_n hx hb dX3_apart_0 rfl (lv_at hl 0 rfl) ?_
  refine lv_iload_n hx hb dX3_apart_1 rfl (lv_at hl 1 rfl) ?_
  refine xtR (As := [.int x]) (rest := []) ⟨hx, hb, hml, hown, hts⟩ (cX3_find_ l hst9 D cI cC ad _ n ch rg (by omega) x) (cwV 1 hts gX3_apart_X3_find rfl rfl rfl (by decide +kernel) ⟨Nat.le_of_ble_eq_true rfl, Nat.le_of_ble_eq_true rfl⟩) hK ((hZ.kept hS.2.1).narrow (fun q h => h.elim)) ⟨rfl, hO, hBk⟩ (xRecv hK rfl hO) rfl hl.1 rfl (Nat.le_of_ble_eq_true rfl) dX3_apart_2 ⟨(by show 0 + 1 ≤ 10; omega), (by show 0 + 6 ≤ 60; omega)⟩ hS (fun q h => h.elim) (fun q h => h.elim) (fun E ce q9 H1 locs1 hB hz9 hk9 hS h1 h2 h3 => ?_) (fun u ra H1 locs1 hp hF hz9 hk2 hS => ?_)
  · obtain ⟨rfl, hn⟩ := hB
    exact x_pass htb hlocks h1 h2 h3 ⟨⟨if_neg (fun z => hn z.1), rfl⟩, (xXW_old hW (fun x9 hx9 => hk9 x9 hx9 id))⟩ hS (fun _ h => h) (by omega) (by omega)
  obtain ⟨rfl, hra⟩ := hF
  have hi2 := hp
  obtain ⟨j1, hj1, hj1b, rfl⟩ := inR_of hp
  rw [xN_nI hj1b] at hra
  subst hra
  have hl : lv_has ls 8 [(0, .ref (ad 0)), (1, .int (nI j1)), (2, .int y)] := hl
  have hC1 : xCh D cI (ad (10 + j1)) (ad (26 + j1)) n (pm j1) s.heap := xXC_at hCs (show j1 < 16 by omega) (hz j1 hj1)
  refine lv_astore_n (lv' := [(3, .ref (ad (10 + j1))), (0, .ref (ad 0)), (1, .int (nI j1)), (2, .int y)]) hx hb dX3_apart_5 rfl hl (by decide) rfl (fun ls hl => ?_)
  refine lv_aload_n hx hb dX3_apart_6 rfl (lv_at hl 1 rfl) ?_
  refine lv_iload_n hx hb dX3_apart_7 rfl (lv_at hl 3 rfl) ?_
  refine xtR (As := [.int y]) (rest := []) ⟨hx, hb, hml, hown, hts⟩ (cX3_find_ l hst9 D cI cC ad _ n ch rg (by omega) y) (cwV 1 hts gX3_apart_X3_find rfl rfl rfl (by decide +kernel) ⟨Nat.le_of_ble_eq_true rfl, Nat.le_of_ble_eq_true rfl⟩) hK ((hZ.kept hS.2.1).narrow (fun q h => h.elim)) ⟨rfl, hO, hBk⟩ (xRecv hK rfl hO) rfl hl.1 rfl (Nat.le_of_ble_eq_true rfl) dX3_apart_8 ⟨(by show 0 + 1 + 1 ≤ 10; omega), (by show 0 + 6 + 6 ≤ 60; omega)⟩ hS (fun q h => h.elim) (fun q h => h.elim) (fun E ce q9 H1 locs1 hB hz9 hk9 hS h1 h2 h3 => ?_) (fun u ra H1 locs1 hp hF hz9 hk8 hS => ?_)
  · obtain ⟨rfl, hn⟩ := hB
    exact x_pass htb hlocks h1 h2 h3 ⟨⟨if_neg (fun z => hn z.2), rfl⟩, (xXW_old hW (fun x9 hx9 => hk9 x9 hx9 id))⟩ hS (fun _ h => h) (by omega) (by omega)
  obtain ⟨rfl, hra⟩ := hF
  have hi8 := hp
  obtain ⟨j2, hj2, hj2b, rfl⟩ := inR_of hp
  rw [xN_nI hj2b] at hra
  subst hra
  have hl : lv_has ls 8 [(3, .ref (ad (10 + j1))), (0, .ref (ad 0)), (1, .int (nI j1)), (2, .int (nI j2))] := hl
  have hC2 : xCh D cI (ad (10 + j2)) (ad (26 + j2)) n (pm j2) s.heap := xXC_at hCs (show j2 < 16 by omega) (hz j2 hj2)
  refine lv_astore (lv' := [(4, .ref (ad (10 + j2))), (3, .ref (ad (10 + j1))), (0, .ref (ad 0)), (1, .int (nI j1)), (2, .int (nI j2))]) hx hb dX3_apart_11 hl (by decide) rfl (fun ls hl => ?_)
  refine xn_iconst (v := 0) hx hb dX3_apart_13 (by decide) ?_
  refine lv_istore (lv' := [(5, .int (nI 0)), (4, .ref (ad (10 + j2))), (3, .ref (ad (10 + j1))), (0, .ref (ad 0)), (1, .int (nI j1)), (2, .int (nI j2))]) hx hb dX3_apart_14 hl (by decide) rfl (fun ls hl => ?_)
  refine xn_iconst (v := 0) hx hb dX3_apart_16 (by decide) ?_
  refine lv_istore (lv' := [(6, .int (nI 0)), (5, .int (nI 0)), (4, .ref (ad (10 + j2))), (3, .ref (ad (10 + j1))), (0, .ref (ad 0)), (1, .int (nI j1)), (2, .int (nI j2))]) hx hb dX3_apart_17 hl (by decide) rfl (fun ls hl => ?_)
  refine x_loop (σ := Nat × Nat) (fun a => n - a.2) (fun a ls => (a.2 ≤ n) ∧ (a.1 = sm (lss (apF (n, ch, pm, st, kf, rg) j1 j2) n) a.2) ∧ lv_has ls 8 [(0, .ref (ad 0)), (1, .int (nI j1)), (2, .int (nI j2)), (3, .ref (ad (10 + j1))), (4, .ref (ad (10 + j2))), (5, .int (nI a.1)), (6, .int (nI a.2))]) ?_ (0, 0) ls ⟨(Nat.zero_le _), rfl, lv_sub hl [4, 5, 6, 3, 2, 1, 0] rfl⟩
  rintro ⟨L, i⟩ ls ⟨h2, h3, hl⟩ ih19
  dsimp only at h2 h3 hl
  refine lv_iload hx hb dX3_apart_19 (lv_at hl 6 rfl) ?_
  refine lv_aload_n hx hb dX3_apart_21 rfl (lv_at hl 0 rfl) ?_
  refine x_get (v := .int (nI n)) (C := RX3) (T := TX3) (N := 8) hx hb hts (by decide +kernel) hown hK hO rfl 5 (by decide) (hts (.fieldLink RX3 37 "BellRanks" "bells" "I") (by decide +kernel)) (fun _ h9 => h9) rfl dX3_apart_22 ?_
  refine xn_icmp_ge (tgt := 83) hx hb dX3_apart_25 (by decide) (by omega) (by omega) (fun c25 => ?_) (fun c25 => ?_)
  · refine lv_iload hx hb dX3_apart_83 (lv_at hl 5 rfl) ?_
    have ht : tTwo (n, ch, pm, st, kf, rg) (nI j1) (nI j2) = 0 := if_pos ⟨hi2, hi8⟩
    refine W.widen (k := 10) (n := 60) (by omega) (by omega) ?_
    refine vx_ret ?_
    exact x_miret hx hb hr hlocks () ⟨ht, (by show nI _ = rApart _ _ _; unfold rApart; simp only [xN_nI hj1b, xN_nI hj2b]; rw [h3, show i = n by omega]; rfl)⟩ (xXW_mk (S := (n, ch, pm, st, kf, rg)) hO hBk hMe hRu hfr hMa hfm hRs hCs hz) hS (fun _ h => h) dX3_apart_85
  · refine lv_iload hx hb dX3_apart_28 (lv_at hl 6 rfl) ?_
    refine xn_iconst (v := 1) hx hb dX3_apart_30 (by decide) ?_
    refine xn_iadd hx hb dX3_apart_31 ?_
    refine lv_istore (lv' := [(7, .int (nI (i + 1))), (0, .ref (ad 0)), (1, .int (nI j1)), (2, .int (nI j2)), (3, .ref (ad (10 + j1))), (4, .ref (ad (10 + j2))), (5, .int (nI L)), (6, .int (nI i))]) hx hb dX3_apart_32 hl (by decide) rfl (fun ls hl => ?_)
    refine x_loop (σ := Nat × Nat) (fun a => n - a.2) (fun a ls => (i < a.2 ∧ a.2 ≤ n) ∧ (a.1 = sm (lss (apF (n, ch, pm, st, kf, rg) j1 j2) n) i + sm (lsf (apF (n, ch, pm, st, kf, rg) j1 j2) i) a.2) ∧ lv_has ls 8 [(0, .ref (ad 0)), (1, .int (nI j1)), (2, .int (nI j2)), (3, .ref (ad (10 + j1))), (4, .ref (ad (10 + j2))), (5, .int (nI a.1)), (6, .int (nI i)), (7, .int (nI a.2))]) ?_ (L, i + 1) ls ⟨⟨by dsimp only; omega, by dsimp only; omega⟩, (by dsimp only; rw [h3, sm_zero (fun q hq => lsf_le (by omega))]; rfl), lv_sub hl [1, 2, 3, 4, 5, 6, 7, 0] rfl⟩
    rintro ⟨L2, jj⟩ ls ⟨h4, h5, hl⟩ ih34
    dsimp only at h4 h5 hl
    refine lv_iload hx hb dX3_apart_34 (lv_at hl 7 rfl) ?_
    refine lv_aload_n hx hb dX3_apart_36 rfl (lv_at hl 0 rfl) ?_
    refine x_get (v := .int (nI n)) (C := RX3) (T := TX3) (N := 8) hx hb hts (by decide +kernel) hown hK hO rfl 5 (by decide) (hts (.fieldLink RX3 37 "BellRanks" "bells" "I") (by decide +kernel)) (fun _ h9 => h9) rfl dX3_apart_37 ?_
    refine xn_icmp_ge (tgt := 77) hx hb dX3_apart_40 (by decide) (by omega) (by omega) (fun c40 => ?_) (fun c40 => ?_)
    · refine xn_iinc (v := i + 1) (lv' := [(6, .int (nI (i + 1))), (0, .ref (ad 0)), (1, .int (nI j1)), (2, .int (nI j2)), (3, .ref (ad (10 + j1))), (4, .ref (ad (10 + j2))), (5, .int (nI L2)), (7, .int (nI jj))]) hx hb dX3_apart_77 hl (k := 6) rfl (xinc1 _) (by decide) rfl (fun ls hl => ?_)
      refine lv_goto (tgt := 19) hx hb dX3_apart_80 (by decide) ?_
      exact ih19 (L2, i + 1) ls ⟨(by dsimp only; omega), (by dsimp only; rw [h5, show jj = n by omega]; rfl), lv_sub hl [1, 2, 3, 4, 5, 6, 0] rfl⟩ (by dsimp only; omega)
    · refine lv_aload hx hb dX3_apart_43 (lv_at hl 4 rfl) ?_
      refine lv_aload_n hx hb dX3_apart_45 rfl (lv_at hl 3 rfl) ?_
      refine lv_iload hx hb dX3_apart_46 (lv_at hl 6 rfl) ?_
      refine xcV (As := [.int (nI i)]) (rest := [.ref (ad (10 + j2))]) ⟨hx, hb, hml, hown, hts⟩ (cX0_bellAt_ l D cI cC (ad (10 + j1)) (ad (26 + j1)) n (pm j1) i (by omega)) (cwV 1 hts gX3_apart_X0_bellAt rfl rfl rfl (by decide +kernel) ⟨Nat.le_of_ble_eq_true rfl, Nat.le_of_ble_eq_true rfl⟩) hK hC1 (xRecv hK rfl hC1.1) rfl hl.1 rfl (Nat.le_of_ble_eq_true rfl) dX3_apart_48 ⟨(by show 0 + 1 + 1 ≤ 10; omega), (by show 0 + 6 + 6 ≤ 60; omega)⟩ (fun x48 e48 => ?_)
      subst e48
      refine xcV (As := [.int (nI ((pm j1) i))]) (rest := []) ⟨hx, hb, hml, hown, hts⟩ (cX0_placeOf_ l D cI cC (ad (10 + j2)) (ad (26 + j2)) n (pm j2) hn8 (fun i9 => Nat.lt_trans ((hpm8 j2) i9) (by decide)) ((pm j1) i) (Nat.lt_trans (hpm8 _ _) (by decide))) (cwV 1 hts gX3_apart_X0_placeOf rfl rfl rfl (by decide +kernel) ⟨Nat.le_of_ble_eq_true rfl, Nat.le_of_ble_eq_true rfl⟩) hK hC2 (xRecv hK rfl hC2.1) rfl hl.1 rfl (Nat.le_of_ble_eq_true rfl) dX3_apart_51 ⟨(by show 0 + 1 + 1 ≤ 10; omega), (by show 0 + 6 + 6 ≤ 60; omega)⟩ (fun x51 e51 => ?_)
      subst e51
      refine lv_aload hx hb dX3_apart_54 (lv_at hl 4 rfl) ?_
      refine lv_aload_n hx hb dX3_apart_56 rfl (lv_at hl 3 rfl) ?_
      refine lv_iload hx hb dX3_apart_57 (lv_at hl 7 rfl) ?_
      refine xcV (As := [.int (nI jj)]) (rest := [.ref (ad (10 + j2)), .int (nI (pos (pm j2) n ((pm j1) i)))]) ⟨hx, hb, hml, hown, hts⟩ (cX0_bellAt_ l D cI cC (ad (10 + j1)) (ad (26 + j1)) n (pm j1) jj (by omega)) (cwV 1 hts gX3_apart_X0_bellAt rfl rfl rfl (by decide +kernel) ⟨Nat.le_of_ble_eq_true rfl, Nat.le_of_ble_eq_true rfl⟩) hK hC1 (xRecv hK rfl hC1.1) rfl hl.1 rfl (Nat.le_of_ble_eq_true rfl) dX3_apart_59 ⟨(by show 0 + 1 + 1 ≤ 10; omega), (by show 0 + 6 + 6 ≤ 60; omega)⟩ (fun x59 e59 => ?_)
      subst e59
      refine xcV (As := [.int (nI ((pm j1) jj))]) (rest := [.int (nI (pos (pm j2) n ((pm j1) i)))]) ⟨hx, hb, hml, hown, hts⟩ (cX0_placeOf_ l D cI cC (ad (10 + j2)) (ad (26 + j2)) n (pm j2) hn8 (fun i9 => Nat.lt_trans ((hpm8 j2) i9) (by decide)) ((pm j1) jj) (Nat.lt_trans (hpm8 _ _) (by decide))) (cwV 1 hts gX3_apart_X0_placeOf rfl rfl rfl (by decide +kernel) ⟨Nat.le_of_ble_eq_true rfl, Nat.le_of_ble_eq_true rfl⟩) hK hC2 (xRecv hK rfl hC2.1) rfl hl.1 rfl (Nat.le_of_ble_eq_true rfl) dX3_apart_62 ⟨(by show 0 + 1 + 1 ≤ 10; omega), (by show 0 + 6 + 6 ≤ 60; omega)⟩ (fun x62 e62 => ?_)
      subst e62
      refine xn_icmp_le (tgt := 71) hx hb dX3_apart_65 (by decide) (Nat.lt_of_le_of_lt (fnd_spec _ n).1 (by omega)) (Nat.lt_of_le_of_lt (fnd_spec _ n).1 (by omega)) (fun c65 => ?_) (fun c65 => ?_)
      · refine xn_iinc (v := jj + 1) (lv' := [(7, .int (nI (jj + 1))), (0, .ref (ad 0)), (1, .int (nI j1)), (2, .int (nI j2)), (3, .ref (ad (10 + j1))), (4, .ref (ad (10 + j2))), (5, .int (nI L2)), (6, .int (nI i))]) hx hb dX3_apart_71 hl (k := 7) rfl (xinc1 _) (by decide) rfl (fun ls hl => ?_)
        refine lv_goto (tgt := 34) hx hb dX3_apart_74 (by decide) ?_
        exact ih34 (L2, jj + 1) ls ⟨⟨by dsimp only; omega, by dsimp only; omega⟩, (by dsimp only; rw [sm_succ, ← Nat.add_assoc, ← h5, lsf0 (f := apF (n, ch, pm, st, kf, rg) j1 j2) c65] <;> rfl), lv_sub hl [1, 2, 3, 4, 5, 6, 7, 0] rfl⟩ (by dsimp only; omega)
      · refine xn_iinc (v := L2 + 1) (lv' := [(5, .int (nI (L2 + 1))), (0, .ref (ad 0)), (1, .int (nI j1)), (2, .int (nI j2)), (3, .ref (ad (10 + j1))), (4, .ref (ad (10 + j2))), (6, .int (nI i)), (7, .int (nI jj))]) hx hb dX3_apart_68 hl (k := 5) rfl (xinc1 _) (by decide) rfl (fun ls hl => ?_)
        refine xn_iinc (v := jj + 1) (lv' := [(7, .int (nI (jj + 1))), (5, .int (nI (L2 + 1))), (0, .ref (ad 0)), (1, .int (nI j1)), (2, .int (nI j2)), (3, .ref (ad (10 + j1))), (4, .ref (ad (10 + j2))), (6, .int (nI i))]) hx hb dX3_apart_71 hl (k := 7) rfl (xinc1 _) (by decide) rfl (fun ls hl => ?_)
        refine lv_goto (tgt := 34) hx hb dX3_apart_74 (by decide) ?_
        exact ih34 (L2 + 1, jj + 1) ls ⟨⟨by dsimp only; omega, by dsimp only; omega⟩, (by dsimp only; rw [sm_succ, ← Nat.add_assoc, ← h5, lsf1 (f := apF (n, ch, pm, st, kf, rg) j1 j2) h4.1 c65] <;> rfl), lv_sub hl [2, 3, 4, 5, 6, 1, 7, 0] rfl⟩ (by dsimp only; omega)

set_option maxRecDepth 100000 in
set_option maxHeartbeats 4000000 in
theorem kCount_ (l : Launch) (hst9 : l.stackTraces = false) (D : va_G) (cI cC : ClassId) (ad : Nat → Nat) (hj : xInj ad) (S : AS) (hI : AI S) (x : Int32) : vx_Met l yX3_count wsX3_count (xRm 14 10 60) (va_Pc [.ref (ad 0), .int x] (xBZ D cI cC (xXW D cI cC ad S) (xAD ad))) (xI (fun r (_ : Unit) => tCount S x = 0 ∧ r = rCount S x) (fun _ H => xXW D cI cC ad (S) H) (xAD ad)) (xX (xAD ad) (fun E H => (tCount S x = 1 ∧ E = xEI) ∧ xXW D cI cC ad S H)) 10 60 (xAD ad) := by
  obtain ⟨n, ch, pm, st, kf, rg⟩ := S
  obtain ⟨⟨hn2, hn8⟩, hch, hst, hpm8, hpm, hkv, hkb⟩ := id hI
  dsimp only at hn2 hn8 hch hst hpm8 hpm hkv hkb
  refine vx_ofW (cc := cX3_count) (maxL := 2) (ret := (some .int)) (by decide) rfl ?_
  intro p e s m args below meth c s₁ B hml htb hv
  obtain ⟨rfl, hP, hK, hZ⟩ := hv
  have hx := B.exec
  have hb := B.bytes
  have hr := B.returns
  have hts := atoms_spec (ws := wsX3_count) B.pre
  have hown : s.vm.findClass RX3 = some m.cls := findClass_of_methodNamed B.named
  have hlocks := B.notSynchronized
  have hW := hP
  have hl := lv_entry ([.ref (ad 0), .int x]) (n := 2) (Nat.le_of_ble_eq_true rfl)
  rw [lg_entry_eq]
  generalize (lg_sl ([.ref (ad 0), .int x]) ++ List.replicate (2 - (lg_sl ([.ref (ad 0), .int x])).length) Slot.unset).toArray = ls at hl ⊢
  have hl : lv_has ls 2 [(0, .ref (ad 0)), (1, .int x)] := hl
  obtain ⟨zr, zm, zs, fr, fm, fs, zf, hO, hBk, hMe, hRu, hfr, hMa, hfm, hRs, hCs, hz⟩ := id hW
  have hO : xXO D ad n ch rg s.heap := hO
  have hMe : xMe D cI (ad 2) (ad 3) st kf s.heap := hMe
  have hCs : xXC D cI ad zf pm s.heap := hCs
  have hz : ∀ k, k < ch → zf k = n := hz
  have hS : va_S (xAD ad) s.heap s.heap [] := va_S.rf
  refine lv_iload_n hx hb dX3_count_0 rfl (lv_at hl 1 rfl) ?_
  by_cases hy : inR x 6
  · obtain ⟨w, hw, hwb, rfl⟩ := inR_of hy
    have hl : lv_has ls 2 [(0, .ref (ad 0)), (1, .int (nI w))] := hl
    rcases (show w = 0 ∨ w = 1 ∨ w = 2 ∨ w = 3 ∨ w = 4 ∨ w = 5 by omega) with rfl | rfl | rfl | rfl | rfl | rfl
    · refine lv_tableIn (off := 39) (tgt := 40) hx hb dX3_count_1 (by decide) (by decide) rfl (by decide) ?_
      have hl : lv_has ls 2 [(0, .ref (ad 0)), (1, .int (nI 0))] := hl
      refine lv_aload_n hx hb dX3_count_40 rfl (lv_at hl 0 rfl) ?_
      refine x_get (v := .int (nI n)) (C := RX3) (T := TX3) (N := 8) hx hb hts (by decide +kernel) hown hK hO rfl 5 (by decide) (hts (.fieldLink RX3 37 "BellRanks" "bells" "I") (by decide +kernel)) (fun _ h9 => h9) rfl dX3_count_41 ?_
      have ht : tCount (n, ch, pm, st, kf, rg) (nI 0) = 0 := if_pos hy
      refine W.widen (k := 10) (n := 60) (by omega) (by omega) ?_
      refine vx_ret ?_
      exact x_miret hx hb hr hlocks () ⟨ht, (by show nI _ = rCount _ _; unfold rCount; simp only [xN_nI (show 0 < 2 ^ 31 by decide)]; rfl)⟩ (xXW_mk (S := (n, ch, pm, st, kf, rg)) hO hBk hMe hRu hfr hMa hfm hRs hCs hz) hS (fun _ h => h) dX3_count_44
    · refine lv_tableIn (off := 44) (tgt := 45) hx hb dX3_count_1 (by decide) (by decide) rfl (by decide) ?_
      have hl : lv_has ls 2 [(0, .ref (ad 0)), (1, .int (nI 1))] := hl
      refine lv_aload_n hx hb dX3_count_45 rfl (lv_at hl 0 rfl) ?_
      refine x_get (v := .int (nI n)) (C := RX3) (T := TX3) (N := 8) hx hb hts (by decide +kernel) hown hK hO rfl 5 (by decide) (hts (.fieldLink RX3 37 "BellRanks" "bells" "I") (by decide +kernel)) (fun _ h9 => h9) rfl dX3_count_46 ?_
      refine xcS (As := [.int (nI n)]) (rest := []) ⟨hx, hb, hml, hown, hts⟩ (cX3_changesOf_ l D cI cC n (by omega) (by omega)) (va_cwS 1 hts gX3_count_X3_changesOf rfl rfl rfl (by decide +kernel) ⟨Nat.le_of_ble_eq_true rfl, Nat.le_of_ble_eq_true rfl⟩) hK trivial rfl hl.1 rfl (Nat.le_of_ble_eq_true rfl) dX3_count_49 ⟨(by show 0 ≤ 10; omega), (by show 0 ≤ 60; omega)⟩ (fun x49 e49 => ?_)
      subst e49
      have ht : tCount (n, ch, pm, st, kf, rg) (nI 1) = 0 := if_pos hy
      refine W.widen (k := 10) (n := 60) (by omega) (by omega) ?_
      refine vx_ret ?_
      exact x_miret hx hb hr hlocks () ⟨ht, (by show nI _ = rCount _ _; unfold rCount; simp only [xN_nI (show 1 < 2 ^ 31 by decide)]; rfl)⟩ (xXW_mk (S := (n, ch, pm, st, kf, rg)) hO hBk hMe hRu hfr hMa hfm hRs hCs hz) hS (fun _ h => h) dX3_count_52
    · refine lv_tableIn (off := 52) (tgt := 53) hx hb dX3_count_1 (by decide) (by decide) rfl (by decide) ?_
      have hl : lv_has ls 2 [(0, .ref (ad 0)), (1, .int (nI 2))] := hl
      refine lv_aload_n hx hb dX3_count_53 rfl (lv_at hl 0 rfl) ?_
      refine x_get (v := .int (nI ch)) (C := RX3) (T := TX3) (N := 8) hx hb hts (by decide +kernel) hown hK hO rfl 6 (by decide) (hts (.fieldLink RX3 41 "BellRanks" "written" "I") (by decide +kernel)) (fun _ h9 => h9) rfl dX3_count_54 ?_
      have ht : tCount (n, ch, pm, st, kf, rg) (nI 2) = 0 := if_pos hy
      refine W.widen (k := 10) (n := 60) (by omega) (by omega) ?_
      refine vx_ret ?_
      exact x_miret hx hb hr hlocks () ⟨ht, (by show nI _ = rCount _ _; unfold rCount; simp only [xN_nI (show 2 < 2 ^ 31 by decide)]; rfl)⟩ (xXW_mk (S := (n, ch, pm, st, kf, rg)) hO hBk hMe hRu hfr hMa hfm hRs hCs hz) hS (fun _ h => h) dX3_count_57
    · refine lv_tableIn (off := 57) (tgt := 58) hx hb dX3_count_1 (by decide) (by decide) rfl (by decide) ?_
      have hl : lv_has ls 2 [(0, .ref (ad 0)), (1, .int (nI 3))] := hl
      refine lv_aload_n hx hb dX3_count_58 rfl (lv_at hl 0 rfl) ?_
      refine xmI (As := []) (rest := []) ⟨hx, hb, hml, hown, hts⟩ (cX3_differentInBook_ l D cI cC ad hj n ch rg zs fs zf pm hn8 (by omega) hpm8 hz) (cwV 0 hts gX3_count_X3_differentInBook rfl rfl rfl (by decide +kernel) ⟨Nat.le_of_ble_eq_true rfl, Nat.le_of_ble_eq_true rfl⟩) hK ⟨hO, hBk, hRs, hCs⟩ (xRecv hK rfl hO) rfl hl.1 rfl (Nat.le_of_ble_eq_true rfl) dX3_count_59 ⟨(by show 0 + 0 ≤ 10; omega), (by show 0 + 0 ≤ 60; omega)⟩ hS (fun q h => h.elim (fun h => ⟨8, by omega, h⟩) (fun h => ⟨9, by omega, h⟩)) (fun q h => h.elim (fun h => ⟨8, by omega, h⟩) (fun h => ⟨9, by omega, h⟩)) (fun x59 u59 H1 locs1 hp59 hF59 hz59 hk59 hS => ?_)
      have hO : xXO D ad n ch rg H1 := xat_keep hO hk59 (fun z => z.elim (xne hj (by omega) (by omega) (by omega)) (xne hj (by omega) (by omega) (by omega)))
      have hBk : xXB D cC ad H1 := xat_keep hBk hk59 (fun z => z.elim (xne hj (by omega) (by omega) (by omega)) (xne hj (by omega) (by omega) (by omega)))
      have hMe : xMe D cI (ad 2) (ad 3) st kf H1 := xMe_keep hMe hk59 (fun z => z.elim (xne hj (by omega) (by omega) (by omega)) (xne hj (by omega) (by omega) (by omega))) (fun z => z.elim (xne hj (by omega) (by omega) (by omega)) (xne hj (by omega) (by omega) (by omega)))
      have hRu : xCh D cI (ad 4) (ad 5) zr fr H1 := xCh_keep hRu hk59 (fun z => z.elim (xne hj (by omega) (by omega) (by omega)) (xne hj (by omega) (by omega) (by omega))) (fun z => z.elim (xne hj (by omega) (by omega) (by omega)) (xne hj (by omega) (by omega) (by omega)))
      have hMa : xCh D cI (ad 6) (ad 7) zm fm H1 := xCh_keep hMa hk59 (fun z => z.elim (xne hj (by omega) (by omega) (by omega)) (xne hj (by omega) (by omega) (by omega))) (fun z => z.elim (xne hj (by omega) (by omega) (by omega)) (xne hj (by omega) (by omega) (by omega)))
      have hCs : xXC D cI ad zf pm H1 := xXC_keep hCs hk59 (fun i hi1 hi2 => (fun z => z.elim (xne hj (by omega) (by omega) (by omega)) (xne hj (by omega) (by omega) (by omega))))
      have hRs : xRs D cI (ad 8) (ad 9) u59.1 u59.2 H1 := hF59
      subst hp59
      have ht : tCount (n, ch, pm, st, kf, rg) (nI 3) = 0 := if_pos hy
      refine W.widen (k := 10) (n := 60) (by omega) (by omega) ?_
      refine vx_ret ?_
      exact x_miret hx hb hr hlocks () ⟨ht, (by show nI _ = rCount _ _; unfold rCount; simp only [xN_nI (show 3 < 2 ^ 31 by decide)]; rfl)⟩ (xXW_mk (S := (n, ch, pm, st, kf, rg)) hO hBk hMe hRu hfr hMa hfm hRs hCs hz) hS (fun _ h => h) dX3_count_62
    · refine lv_tableIn (off := 62) (tgt := 63) hx hb dX3_count_1 (by decide) (by decide) rfl (by decide) ?_
      have hl : lv_has ls 2 [(0, .ref (ad 0)), (1, .int (nI 4))] := hl
      refine lv_aload_n hx hb dX3_count_63 rfl (lv_at hl 0 rfl) ?_
      refine x_get (v := .ref (ad 2)) (C := RX3) (T := TX3) (N := 8) hx hb hts (by decide +kernel) hown hK hO rfl 1 (by decide) (hts (.fieldLink RX3 19 "BellRanks" "method" "LBellRanks$Method;") (by decide +kernel)) (fun _ h9 => h9) rfl dX3_count_64 ?_
      refine xcV (As := []) (rest := []) ⟨hx, hb, hml, hown, hts⟩ (cX1_length_ l D cI cC (ad 2) (ad 3) st kf) (cwV 0 hts gX3_count_X1_length rfl rfl rfl (by decide +kernel) ⟨Nat.le_of_ble_eq_true rfl, Nat.le_of_ble_eq_true rfl⟩) hK hMe (xRecv hK rfl hMe.1) rfl hl.1 rfl (Nat.le_of_ble_eq_true rfl) dX3_count_67 ⟨(by show 0 ≤ 10; omega), (by show 0 ≤ 60; omega)⟩ (fun x67 e67 => ?_)
      subst e67
      have ht : tCount (n, ch, pm, st, kf, rg) (nI 4) = 0 := if_pos hy
      refine W.widen (k := 10) (n := 60) (by omega) (by omega) ?_
      refine vx_ret ?_
      exact x_miret hx hb hr hlocks () ⟨ht, (by show nI _ = rCount _ _; unfold rCount; simp only [xN_nI (show 4 < 2 ^ 31 by decide)]; rfl)⟩ (xXW_mk (S := (n, ch, pm, st, kf, rg)) hO hBk hMe hRu hfr hMa hfm hRs hCs hz) hS (fun _ h => h) dX3_count_70
    · refine lv_tableIn (off := 70) (tgt := 71) hx hb dX3_count_1 (by decide) (by decide) rfl (by decide) ?_
      have hl : lv_has ls 2 [(0, .ref (ad 0)), (1, .int (nI 5))] := hl
      refine lv_aload_n hx hb dX3_count_71 rfl (lv_at hl 0 rfl) ?_
      refine x_get (v := .int (nI rg)) (C := RX3) (T := TX3) (N := 8) hx hb hts (by decide +kernel) hown hK hO rfl 7 (by decide) (hts (.fieldLink RX3 44 "BellRanks" "rungInAll" "I") (by decide +kernel)) (fun _ h9 => h9) rfl dX3_count_72 ?_
      have ht : tCount (n, ch, pm, st, kf, rg) (nI 5) = 0 := if_pos hy
      refine W.widen (k := 10) (n := 60) (by omega) (by omega) ?_
      refine vx_ret ?_
      exact x_miret hx hb hr hlocks () ⟨ht, (by show nI _ = rCount _ _; unfold rCount; simp only [xN_nI (show 5 < 2 ^ 31 by decide)]; rfl)⟩ (xXW_mk (S := (n, ch, pm, st, kf, rg)) hO hBk hMe hRu hfr hMa hfm hRs hCs hz) hS (fun _ h => h) dX3_count_75
  have hn := hy
  refine lv_tableOut (tgt := 76) hx hb dX3_count_1 (nin_toInt (N := 6) (by decide) hy) (by decide) ?_
  exact x_throw (cls := xEI) (text := "what is not 0 to 5") (ik := 61) (is := 160) (ic := 65) hx hb hst9 hts hown htb hlocks hZ hS (hl.1.trans hml.symm) (by decide +kernel) (by decide +kernel) (by decide +kernel) xbad_I (by decide +kernel) xgood_I (by decide) dX3_count_76 dX3_count_79 dX3_count_80 dX3_count_82 dX3_count_85 (Nat.le_of_ble_eq_true rfl) (Nat.le_of_ble_eq_true rfl) (by show 0 + 1 ≤ 10; omega) (by show 0 + 6 ≤ 60; omega) (fun H1 _ ho => ⟨⟨if_neg hn, rfl⟩, xXW_old hW ho⟩) (fun _ h => h) (by omega) (by omega)

set_option maxRecDepth 100000 in
set_option maxHeartbeats 4000000 in
theorem kKept_ (l : Launch) (hst9 : l.stackTraces = false) (D : va_G) (cI cC : ClassId) (ad : Nat → Nat) (hj : xInj ad) (S : AS) (hI : AI S) (x : Int32) : vx_Met l yX3_kept wsX3_kept (xRm 14 10 60) (va_Pc [.ref (ad 0), .int x] (xBZ D cI cC (xXW D cI cC ad S) (xAD ad))) (xI (fun r (_ : Unit) => tKept S x = 0 ∧ r = rKept S x) (fun _ H => xXW D cI cC ad (S) H) (xAD ad)) (xX (xAD ad) (fun E H => (tKept S x = 1 ∧ E = xEI) ∧ xXW D cI cC ad S H)) 10 60 (xAD ad) := by
  obtain ⟨n, ch, pm, st, kf, rg⟩ := S
  obtain ⟨⟨hn2, hn8⟩, hch, hst, hpm8, hpm, hkv, hkb⟩ := id hI
  dsimp only at hn2 hn8 hch hst hpm8 hpm hkv hkb
  refine vx_ofW (cc := cX3_kept) (maxL := 2) (ret := (some .int)) (by decide) rfl ?_
  intro p e s m args below meth c s₁ B hml htb hv
  obtain ⟨rfl, hP, hK, hZ⟩ := hv
  have hx := B.exec
  have hb := B.bytes
  have hr := B.returns
  have hts := atoms_spec (ws := wsX3_kept) B.pre
  have hown : s.vm.findClass RX3 = some m.cls := findClass_of_methodNamed B.named
  have hlocks := B.notSynchronized
  have hW := hP
  have hl := lv_entry ([.ref (ad 0), .int x]) (n := 2) (Nat.le_of_ble_eq_true rfl)
  rw [lg_entry_eq]
  generalize (lg_sl ([.ref (ad 0), .int x]) ++ List.replicate (2 - (lg_sl ([.ref (ad 0), .int x])).length) Slot.unset).toArray = ls at hl ⊢
  have hl : lv_has ls 2 [(0, .ref (ad 0)), (1, .int x)] := hl
  obtain ⟨zr, zm, zs, fr, fm, fs, zf, hO, hBk, hMe, hRu, hfr, hMa, hfm, hRs, hCs, hz⟩ := id hW
  have hO : xXO D ad n ch rg s.heap := hO
  have hMe : xMe D cI (ad 2) (ad 3) st kf s.heap := hMe
  have hCs : xXC D cI ad zf pm s.heap := hCs
  have hz : ∀ k, k < ch → zf k = n := hz
  have hS : va_S (xAD ad) s.heap s.heap [] := va_S.rf
  refine lv_iload_n hx hb dX3_kept_0 rfl (lv_at hl 1 rfl) ?_
  refine lv_if_lt (tgt := 15) hx hb dX3_kept_1 (by decide) (fun c1 => ?_) (fun c1 => ?_)
  · have hn : ¬ inR x st := fun z => z.1 c1
    exact x_throw (cls := xEI) (text := "no such step") (ik := 61) (is := 162) (ic := 65) hx hb hst9 hts hown htb hlocks hZ hS (hl.1.trans hml.symm) (by decide +kernel) (by decide +kernel) (by decide +kernel) xbad_I (by decide +kernel) xgood_I (by decide) dX3_kept_15 dX3_kept_18 dX3_kept_19 dX3_kept_21 dX3_kept_24 (Nat.le_of_ble_eq_true rfl) (Nat.le_of_ble_eq_true rfl) (by show 0 + 1 ≤ 10; omega) (by show 0 + 6 ≤ 60; omega) (fun H1 _ ho => ⟨⟨if_neg hn, rfl⟩, xXW_old hW ho⟩) (fun _ h => h) (by omega) (by omega)
  · refine lv_iload_n hx hb dX3_kept_4 rfl (lv_at hl 1 rfl) ?_
    refine lv_aload_n hx hb dX3_kept_5 rfl (lv_at hl 0 rfl) ?_
    refine x_get (v := .ref (ad 2)) (C := RX3) (T := TX3) (N := 8) hx hb hts (by decide +kernel) hown hK hO rfl 1 (by decide) (hts (.fieldLink RX3 19 "BellRanks" "method" "LBellRanks$Method;") (by decide +kernel)) (fun _ h9 => h9) rfl dX3_kept_6 ?_
    refine xcV (As := []) (rest := [.int x]) ⟨hx, hb, hml, hown, hts⟩ (cX1_length_ l D cI cC (ad 2) (ad 3) st kf) (cwV 0 hts gX3_kept_X1_length rfl rfl rfl (by decide +kernel) ⟨Nat.le_of_ble_eq_true rfl, Nat.le_of_ble_eq_true rfl⟩) hK hMe (xRecv hK rfl hMe.1) rfl hl.1 rfl (Nat.le_of_ble_eq_true rfl) dX3_kept_9 ⟨(by show 0 ≤ 10; omega), (by show 0 ≤ 60; omega)⟩ (fun x9 e9 => ?_)
    subst e9
    refine lv_icmp_lt (tgt := 25) hx hb dX3_kept_12 (by decide) (fun c12 => ?_) (fun c12 => ?_)
    · have hi : inR x st := (inR_ltI c1 (by omega)).mp c12
      obtain ⟨j1, hj1, hj1b, rfl⟩ := inR_of hi
      have hl : lv_has ls 2 [(0, .ref (ad 0)), (1, .int (nI j1))] := hl
      refine lv_aload_n hx hb dX3_kept_25 rfl (lv_at hl 0 rfl) ?_
      refine x_get (v := .ref (ad 2)) (C := RX3) (T := TX3) (N := 8) hx hb hts (by decide +kernel) hown hK hO rfl 1 (by decide) (hts (.fieldLink RX3 19 "BellRanks" "method" "LBellRanks$Method;") (by decide +kernel)) (fun _ h9 => h9) rfl dX3_kept_26 ?_
      refine lv_iload_n hx hb dX3_kept_29 rfl (lv_at hl 1 rfl) ?_
      refine xcV (As := [.int (nI j1)]) (rest := []) ⟨hx, hb, hml, hown, hts⟩ (cX1_keptAt_ l D cI cC (ad 2) (ad 3) st kf j1 (by omega)) (cwV 1 hts gX3_kept_X1_keptAt rfl rfl rfl (by decide +kernel) ⟨Nat.le_of_ble_eq_true rfl, Nat.le_of_ble_eq_true rfl⟩) hK hMe (xRecv hK rfl hMe.1) rfl hl.1 rfl (Nat.le_of_ble_eq_true rfl) dX3_kept_30 ⟨(by show 0 ≤ 10; omega), (by show 0 ≤ 60; omega)⟩ (fun x30 e30 => ?_)
      subst e30
      have ht : tKept (n, ch, pm, st, kf, rg) (nI j1) = 0 := if_pos hi
      refine W.widen (k := 10) (n := 60) (by omega) (by omega) ?_
      refine vx_ret ?_
      exact x_miret hx hb hr hlocks () ⟨ht, (by show nI _ = rKept _ _; unfold rKept; simp only [xN_nI hj1b])⟩ (xXW_mk (S := (n, ch, pm, st, kf, rg)) hO hBk hMe hRu hfr hMa hfm hRs hCs hz) hS (fun _ h => h) dX3_kept_33
    · have hn : ¬ inR x st := fun z => c12 ((inR_ltI c1 (by omega)).mpr z)
      exact x_throw (cls := xEI) (text := "no such step") (ik := 61) (is := 162) (ic := 65) hx hb hst9 hts hown htb hlocks hZ hS (hl.1.trans hml.symm) (by decide +kernel) (by decide +kernel) (by decide +kernel) xbad_I (by decide +kernel) xgood_I (by decide) dX3_kept_15 dX3_kept_18 dX3_kept_19 dX3_kept_21 dX3_kept_24 (Nat.le_of_ble_eq_true rfl) (Nat.le_of_ble_eq_true rfl) (by show 0 + 1 ≤ 10; omega) (by show 0 + 6 ≤ 60; omega) (fun H1 _ ho => ⟨⟨if_neg hn, rfl⟩, xXW_old hW ho⟩) (fun _ h => h) (by omega) (by omega)
