/-! BellRanks: its own helpers -/
theorem fac_s {i : Nat} (h : 2 ≤ i) : i * fac (i - 1) = fac i := by
  obtain ⟨z, rfl⟩ : ∃ z, i = z + 1 := ⟨i - 1, by omega⟩
  rfl
theorem inR_ltI {x : Int32} {N : Nat} (h : ¬ x < 0) (hN : N < 2 ^ 31) : x < nI N ↔ inR x N := by
  obtain ⟨j, hj, rfl⟩ := nI_of h
  rw [inR_nI hj, nI_ltI hj hN]
theorem inR_leI {x : Int32} {N : Nat} (h : ¬ x < 0) (hN : N < 2 ^ 31) : x ≤ nI N ↔ inR x (N + 1) := by
  obtain ⟨j, hj, rfl⟩ := nI_of h
  rw [inR_nI hj, nI_leI hj hN]
  omega
/-- one more value into the set -/
theorem dg_step {g gg : Nat → Nat} {L k r : Nat} {u : Nat × (Nat → Nat)} (hset : ∀ v9, (∃ i9, i9 < L ∧ gg i9 = v9) ↔ (∃ q8, q8 < k ∧ g q8 = v9)) (h3 : L = sm (nwf g) k) (hu : (u = (L, gg) ∧ ∃ i, i < L ∧ gg i = r) ∨ (u = (L + 1, va_up gg L r) ∧ ∀ i, i < L → gg i ≠ r)) (hr : r = g k) : u.1 = sm (nwf g) (k + 1) ∧ ∀ v9, (∃ i9, i9 < u.1 ∧ u.2 i9 = v9) ↔ (∃ q8, q8 < k + 1 ∧ g q8 = v9) := by
  rcases hu with ⟨rfl, h⟩ | ⟨rfl, h⟩
  · obtain ⟨q, hq, e⟩ := (hset r).mp h
    refine ⟨?_, fun v => ?_⟩
    · show L = sm (nwf g) k + nwf g k
      rw [show nwf g k = 0 from nwg_0 (e.trans hr) hq, ← h3]; rfl
    · rw [hset v]
      constructor
      · rintro ⟨i, hi, e⟩
        exact ⟨i, by omega, e⟩
      · rintro ⟨i, hi, ei⟩
        by_cases c : i = k
        · exact ⟨q, hq, by rw [e, hr, ← c, ei]⟩
        · exact ⟨i, by omega, ei⟩
  · refine ⟨?_, fun v => ⟨?_, ?_⟩⟩
    · show L + 1 = sm (nwf g) k + nwf g k
      rw [show nwf g k = 1 from nwg_1 (fun q hq e => by
        obtain ⟨i, hi, ei⟩ := (hset r).mpr ⟨q, hq, by rw [e, hr]⟩
        exact h i hi ei), ← h3]
    · rintro ⟨i, hi, e⟩
      have hi : i < L + 1 := hi
      have e : va_up gg L r i = v := e
      by_cases c : i = L
      · rw [c, va_up_self] at e
        exact ⟨k, Nat.lt_succ_self _, by rw [← hr, e]⟩
      · rw [va_up_ne _ _ c] at e
        obtain ⟨q, hq, eq⟩ := (hset v).mp ⟨i, by omega, e⟩
        exact ⟨q, by omega, eq⟩
    · rintro ⟨q, hq, e⟩
      by_cases c : q = k
      · exact ⟨L, Nat.lt_succ_self _, by show va_up gg L r L = v; rw [va_up_self, hr, ← c, e]⟩
      · obtain ⟨i, hi, ei⟩ := (hset v).mpr ⟨q, by omega, e⟩
        exact ⟨i, Nat.lt_succ_of_lt hi, by show va_up gg L r i = v; rw [va_up_ne _ _ (by omega)]; exact ei⟩
set_option maxRecDepth 100000 in
set_option maxHeartbeats 4000000 in
theorem cX3_changesOf_ (l : Launch) (D : va_G) (cI cC : ClassId) (z : Nat) (hz2 : 2 ≤ z) (hz8 : z ≤ 8) : Met l yX3_changesOf wsX3_changesOf (xRm 0 0 0) (va_Pc [.int (nI z)] (xB D cI cC (fun _ => True))) (vp_Si (fun x => x = nI (fac z))) 0 0 (fun _ => False) := by
  refine Met.ofW (cc := cX3_changesOf) (maxL := 3) (ret := (some .int)) (by decide) rfl ?_
  intro p e s m args below meth c s₁ B hml hv
  obtain ⟨rfl, hP, hK⟩ := hv
  have hx := B.exec
  have hb := B.bytes
  have hr := B.returns
  have hts := atoms_spec (ws := wsX3_changesOf) B.pre
  have hown : s.vm.findClass RX3 = some m.cls := findClass_of_methodNamed B.named
  have hlocks := B.notSynchronized
  have hl := lv_entry ([.int (nI z)]) (n := 3) (Nat.le_of_ble_eq_true rfl)
  rw [lg_entry_eq]
  generalize (lg_sl ([.int (nI z)]) ++ List.replicate (3 - (lg_sl ([.int (nI z)])).length) Slot.unset).toArray = ls at hl ⊢
  have hl : lv_has ls 3 [(0, .int (nI z))] := hl
  refine xn_iconst (v := 1) hx hb dX3_changesOf_0 (by decide) ?_
  refine lv_istore_n (lv' := [(1, .int (nI 1)), (0, .int (nI z))]) hx hb dX3_changesOf_1 rfl hl (by decide) rfl (fun ls hl => ?_)
  refine xn_iconst (v := 2) hx hb dX3_changesOf_2 (by decide) ?_
  refine lv_istore_n (lv' := [(2, .int (nI 2)), (1, .int (nI 1)), (0, .int (nI z))]) hx hb dX3_changesOf_3 rfl hl (by decide) rfl (fun ls hl => ?_)
  refine x_loop (σ := Nat × Nat) (fun a => z + 2 - a.2) (fun a ls => (2 ≤ a.2) ∧ (a.2 ≤ z + 1) ∧ (a.1 = fac (a.2 - 1)) ∧ lv_has ls 3 [(0, .int (nI z)), (1, .int (nI a.1)), (2, .int (nI a.2))]) ?_ (1, 2) ls ⟨(Nat.le_refl _), (by dsimp only; omega), rfl, lv_sub hl [2, 1, 0] rfl⟩
  rintro ⟨L, i⟩ ls ⟨h1, h2, h3, hl⟩ ih4
  dsimp only at h1 h2 h3 hl
  refine lv_iload_n hx hb dX3_changesOf_4 rfl (lv_at hl 2 rfl) ?_
  refine lv_iload_n hx hb dX3_changesOf_5 rfl (lv_at hl 0 rfl) ?_
  refine xn_icmp_gt (tgt := 19) hx hb dX3_changesOf_6 (by decide) (by omega) (by omega) (fun c6 => ?_) (fun c6 => ?_)
  · refine lv_iload_n hx hb dX3_changesOf_19 rfl (lv_at hl 1 rfl) ?_
    exact x_iret hx hb hr hlocks rfl (by rw [h3, show i - 1 = z by omega]) dX3_changesOf_20
  · refine lv_iload_n hx hb dX3_changesOf_9 rfl (lv_at hl 1 rfl) ?_
    refine lv_iload_n hx hb dX3_changesOf_10 rfl (lv_at hl 2 rfl) ?_
    refine xn_imul hx hb dX3_changesOf_11 ?_
    refine lv_istore_n (lv' := [(1, .int (nI (L * i))), (0, .int (nI z)), (2, .int (nI i))]) hx hb dX3_changesOf_12 rfl hl (by decide) rfl (fun ls hl => ?_)
    refine xn_iinc (v := i + 1) (lv' := [(2, .int (nI (i + 1))), (1, .int (nI (L * i))), (0, .int (nI z))]) hx hb dX3_changesOf_13 hl (k := 2) rfl (xinc1 _) (by decide) rfl (fun ls hl => ?_)
    refine lv_goto (tgt := 4) hx hb dX3_changesOf_16 (by decide) ?_
    exact ih4 (L * i, i + 1) ls ⟨(by dsimp only; omega), (by dsimp only; omega), (by dsimp only; rw [h3, Nat.add_sub_cancel, Nat.mul_comm]; exact fac_s h1), lv_sub hl [2, 1, 0] rfl⟩ (by dsimp only; omega)

set_option maxRecDepth 100000 in
set_option maxHeartbeats 4000000 in
theorem cX3_find_ (l : Launch) (hst9 : l.stackTraces = false) (D : va_G) (cI cC : ClassId) (ad : Nat → Nat) (Hp : Heap) (n ch rg : Nat) (hch : ch ≤ 16) (x : Int32) : vx_Met l yX3_find wsX3_find (xRm 6 1 6) (va_Pc [.ref (ad 0), .int x] (xBZ D cI cC (fun H => H = Hp ∧ xXO D ad n ch rg H ∧ xXB D cC ad H) xNo)) (xR (fun _ : Unit => inR x ch) (fun _ a H => H = Hp ∧ a = ad (10 + xN x)) xNo) (xX xNo (fun E _ => E = xEI ∧ ¬ inR x ch)) 1 6 xNo := by
  refine vx_ofW (cc := cX3_find) (maxL := 2) (ret := (some (.object "BellRanks$Change"))) (by decide) rfl ?_
  intro p e s m args below meth c s₁ B hml htb hv
  obtain ⟨rfl, hP, hK, hZ⟩ := hv
  have hx := B.exec
  have hb := B.bytes
  have hr := B.returns
  have hts := atoms_spec (ws := wsX3_find) B.pre
  have hown : s.vm.findClass RX3 = some m.cls := findClass_of_methodNamed B.named
  have hlocks := B.notSynchronized
  obtain ⟨hHp, hO, hBk⟩ := hP
  have hl := lv_entry ([.ref (ad 0), .int x]) (n := 2) (Nat.le_of_ble_eq_true rfl)
  rw [lg_entry_eq]
  generalize (lg_sl ([.ref (ad 0), .int x]) ++ List.replicate (2 - (lg_sl ([.ref (ad 0), .int x])).length) Slot.unset).toArray = ls at hl ⊢
  have hl : lv_has ls 2 [(0, .ref (ad 0)), (1, .int x)] := hl
  have hS : va_S xNo s.heap s.heap [] := va_S.rf
  refine lv_iload_n hx hb dX3_find_0 rfl (lv_at hl 1 rfl) ?_
  refine lv_if_lt (tgt := 12) hx hb dX3_find_1 (by decide) (fun c1 => ?_) (fun c1 => ?_)
  · have hn : ¬ inR x ch := fun z => z.1 c1
    exact x_throw (cls := xEI) (text := "no such change") (ik := 61) (is := 193) (ic := 65) hx hb hst9 hts hown htb hlocks hZ hS (hl.1.trans hml.symm) (by decide +kernel) (by decide +kernel) (by decide +kernel) xbad_I (by decide +kernel) xgood_I (by decide) dX3_find_12 dX3_find_15 dX3_find_16 dX3_find_18 dX3_find_21 (Nat.le_of_ble_eq_true rfl) (Nat.le_of_ble_eq_true rfl) (by show 0 + 1 ≤ 1; omega) (by show 0 + 6 ≤ 6; omega) (fun H1 _ ho => ⟨rfl, hn⟩) (fun _ h => h) (by omega) (by omega)
  · refine lv_iload_n hx hb dX3_find_4 rfl (lv_at hl 1 rfl) ?_
    refine lv_aload_n hx hb dX3_find_5 rfl (lv_at hl 0 rfl) ?_
    refine x_get (v := .int (nI ch)) (C := RX3) (T := TX3) (N := 8) hx hb hts (by decide +kernel) hown hK hO rfl 6 (by decide) (hts (.fieldLink RX3 41 "BellRanks" "written" "I") (by decide +kernel)) (fun _ h9 => h9) rfl dX3_find_6 ?_
    refine lv_icmp_lt (tgt := 22) hx hb dX3_find_9 (by decide) (fun c9 => ?_) (fun c9 => ?_)
    · have hi : inR x ch := (inR_ltI c1 (by omega)).mp c9
      obtain ⟨j, hj9, hjb, rfl⟩ := inR_of hi
      have hl : lv_has ls 2 [(0, .ref (ad 0)), (1, .int (nI j))] := hl
      refine lv_aload_n hx hb dX3_find_22 rfl (lv_at hl 0 rfl) ?_
      refine x_get (v := .ref (ad 1)) (C := RX3) (T := TX3) (N := 8) hx hb hts (by decide +kernel) hown hK hO rfl 0 (by decide) (hts (.fieldLink RX3 11 "BellRanks" "book" "[LBellRanks$Change;") (by decide +kernel)) (fun _ h9 => h9) rfl dX3_find_23 ?_
      refine lv_iload_n hx hb dX3_find_26 rfl (lv_at hl 1 rfl) ?_
      refine x_aald hx hb hK hBk (show j < 16 by omega) (by decide) dX3_find_27 ?_
      refine W.widen (k := 1) (n := 6) (by omega) (by omega) ?_
      refine vx_ret ?_
      exact x_maret (rt := .object "BellRanks$Change") hx hb hr (Or.inl ⟨_, rfl⟩) hlocks () hi ⟨hHp, by rw [xN_nI hjb]⟩ hS (fun _ h => h) dX3_find_28
    · have hn : ¬ inR x ch := fun z => c9 ((inR_ltI c1 (by omega)).mpr z)
      exact x_throw (cls := xEI) (text := "no such change") (ik := 61) (is := 193) (ic := 65) hx hb hst9 hts hown htb hlocks hZ hS (hl.1.trans hml.symm) (by decide +kernel) (by decide +kernel) (by decide +kernel) xbad_I (by decide +kernel) xgood_I (by decide) dX3_find_12 dX3_find_15 dX3_find_16 dX3_find_18 dX3_find_21 (Nat.le_of_ble_eq_true rfl) (Nat.le_of_ble_eq_true rfl) (by show 0 + 1 ≤ 1; omega) (by show 0 + 6 ≤ 6; omega) (fun H1 _ ho => ⟨rfl, hn⟩) (fun _ h => h) (by omega) (by omega)

set_option maxRecDepth 100000 in
set_option maxHeartbeats 4000000 in
theorem cX3_checkPlace_ (l : Launch) (hst9 : l.stackTraces = false) (D : va_G) (cI cC : ClassId) (ad : Nat → Nat) (Hp : Heap) (n ch rg : Nat) (hn8 : n ≤ 8) (x : Int32) : vx_Met l yX3_checkPlace wsX3_checkPlace (xRm 6 1 6) (va_Pc [.ref (ad 0), .int x] (xBZ D cI cC (fun H => H = Hp ∧ xXO D ad n ch rg H) xNo)) (xV (fun _ : Unit => inR x n) (fun _ H => H = Hp) xNo) (xX xNo (fun E _ => E = xEI ∧ ¬ inR x n)) 1 6 xNo := by
  refine vx_ofW (cc := cX3_checkPlace) (maxL := 2) (ret := none) (by decide) rfl ?_
  intro p e s m args below meth c s₁ B hml htb hv
  obtain ⟨rfl, hP, hK, hZ⟩ := hv
  have hx := B.exec
  have hb := B.bytes
  have hr := B.returns
  have hts := atoms_spec (ws := wsX3_checkPlace) B.pre
  have hown : s.vm.findClass RX3 = some m.cls := findClass_of_methodNamed B.named
  have hlocks := B.notSynchronized
  obtain ⟨hHp, hO⟩ := hP
  have hl := lv_entry ([.ref (ad 0), .int x]) (n := 2) (Nat.le_of_ble_eq_true rfl)
  rw [lg_entry_eq]
  generalize (lg_sl ([.ref (ad 0), .int x]) ++ List.replicate (2 - (lg_sl ([.ref (ad 0), .int x])).length) Slot.unset).toArray = ls at hl ⊢
  have hl : lv_has ls 2 [(0, .ref (ad 0)), (1, .int x)] := hl
  have hS : va_S xNo s.heap s.heap [] := va_S.rf
  refine lv_iload_n hx hb dX3_checkPlace_0 rfl (lv_at hl 1 rfl) ?_
  refine lv_if_lt (tgt := 12) hx hb dX3_checkPlace_1 (by decide) (fun c1 => ?_) (fun c1 => ?_)
  · have hn : ¬ inR x n := fun z => z.1 c1
    exact x_throw (cls := xEI) (text := "no such place") (ik := 61) (is := 197) (ic := 65) hx hb hst9 hts hown htb hlocks hZ hS (hl.1.trans hml.symm) (by decide +kernel) (by decide +kernel) (by decide +kernel) xbad_I (by decide +kernel) xgood_I (by decide) dX3_checkPlace_12 dX3_checkPlace_15 dX3_checkPlace_16 dX3_checkPlace_18 dX3_checkPlace_21 (Nat.le_of_ble_eq_true rfl) (Nat.le_of_ble_eq_true rfl) (by show 0 + 1 ≤ 1; omega) (by show 0 + 6 ≤ 6; omega) (fun H1 _ ho => ⟨rfl, hn⟩) (fun _ h => h) (by omega) (by omega)
  · refine lv_iload_n hx hb dX3_checkPlace_4 rfl (lv_at hl 1 rfl) ?_
    refine lv_aload_n hx hb dX3_checkPlace_5 rfl (lv_at hl 0 rfl) ?_
    refine x_get (v := .int (nI n)) (C := RX3) (T := TX3) (N := 8) hx hb hts (by decide +kernel) hown hK hO rfl 5 (by decide) (hts (.fieldLink RX3 37 "BellRanks" "bells" "I") (by decide +kernel)) (fun _ h9 => h9) rfl dX3_checkPlace_6 ?_
    refine lv_icmp_lt (tgt := 22) hx hb dX3_checkPlace_9 (by decide) (fun c9 => ?_) (fun c9 => ?_)
    · have hi : inR x n := (inR_ltI c1 (by omega)).mp c9
      refine W.widen (k := 1) (n := 6) (by omega) (by omega) ?_
      refine vx_ret ?_
      exact x_vret hx hb hr hlocks () hi hHp hS (fun _ h => h) dX3_checkPlace_22
    · have hn : ¬ inR x n := fun z => c9 ((inR_ltI c1 (by omega)).mpr z)
      exact x_throw (cls := xEI) (text := "no such place") (ik := 61) (is := 197) (ic := 65) hx hb hst9 hts hown htb hlocks hZ hS (hl.1.trans hml.symm) (by decide +kernel) (by decide +kernel) (by decide +kernel) xbad_I (by decide +kernel) xgood_I (by decide) dX3_checkPlace_12 dX3_checkPlace_15 dX3_checkPlace_16 dX3_checkPlace_18 dX3_checkPlace_21 (Nat.le_of_ble_eq_true rfl) (Nat.le_of_ble_eq_true rfl) (by show 0 + 1 ≤ 1; omega) (by show 0 + 6 ≤ 6; omega) (fun H1 _ ho => ⟨rfl, hn⟩) (fun _ h => h) (by omega) (by omega)

set_option maxRecDepth 100000 in
set_option maxHeartbeats 4000000 in
theorem cX3_checkSteps_ (l : Launch) (hst9 : l.stackTraces = false) (D : va_G) (cI cC : ClassId) (ad : Nat → Nat) (Hp : Heap) (x : Int32) : vx_Met l yX3_checkSteps wsX3_checkSteps (xRm 6 1 6) (va_Pc [.int x] (xBZ D cI cC (fun H => H = Hp) xNo)) (xV (fun _ : Unit => inR x 201 ∧ 1 ≤ xN x) (fun _ H => H = Hp) xNo) (xX xNo (fun E _ => E = xEA ∧ ¬ (inR x 201 ∧ 1 ≤ xN x))) 1 6 xNo := by
  refine vx_ofW (cc := cX3_checkSteps) (maxL := 1) (ret := none) (by decide) rfl ?_
  intro p e s m args below meth c s₁ B hml htb hv
  obtain ⟨rfl, hP, hK, hZ⟩ := hv
  have hx := B.exec
  have hb := B.bytes
  have hr := B.returns
  have hts := atoms_spec (ws := wsX3_checkSteps) B.pre
  have hown : s.vm.findClass RX3 = some m.cls := findClass_of_methodNamed B.named
  have hlocks := B.notSynchronized
  have hHp := hP
  have hl := lv_entry ([.int x]) (n := 1) (Nat.le_of_ble_eq_true rfl)
  rw [lg_entry_eq]
  generalize (lg_sl ([.int x]) ++ List.replicate (1 - (lg_sl ([.int x])).length) Slot.unset).toArray = ls at hl ⊢
  have hl : lv_has ls 1 [(0, .int x)] := hl
  have hS : va_S xNo s.heap s.heap [] := va_S.rf
  refine lv_iload_n hx hb dX3_checkSteps_0 rfl (lv_at hl 0 rfl) ?_
  refine xn_iconst (v := 1) hx hb dX3_checkSteps_1 (by decide) ?_
  refine lv_icmp_lt (tgt := 12) hx hb dX3_checkSteps_2 (by decide) (fun c2 => ?_) (fun c2 => ?_)
  · have hn : ¬ (inR x 201 ∧ 1 ≤ xN x) := fun z => Int32.not_lt.mpr ((xin_rng (lo := 1) (hi := 200) (by decide) (by decide)).mpr z).1 c2
    exact x_throw (cls := xEA) (text := "steps is not 1 to 200") (ik := 47) (is := 199) (ic := 51) hx hb hst9 hts hown htb hlocks hZ hS (hl.1.trans hml.symm) (by decide +kernel) (by decide +kernel) (by decide +kernel) xbad_A (by decide +kernel) xgood_A (by decide) dX3_checkSteps_12 dX3_checkSteps_15 dX3_checkSteps_16 dX3_checkSteps_18 dX3_checkSteps_21 (Nat.le_of_ble_eq_true rfl) (Nat.le_of_ble_eq_true rfl) (by show 0 + 1 ≤ 1; omega) (by show 0 + 6 ≤ 6; omega) (fun H1 _ ho => ⟨rfl, hn⟩) (fun _ h => h) (by omega) (by omega)
  · refine lv_iload_n hx hb dX3_checkSteps_5 rfl (lv_at hl 0 rfl) ?_
    refine xn_sipush (v := 200) hx hb dX3_checkSteps_6 (by decide) ?_
    refine lv_icmp_le (tgt := 22) hx hb dX3_checkSteps_9 (by decide) (fun c9 => ?_) (fun c9 => ?_)
    · have hi : (inR x 201 ∧ 1 ≤ xN x) := (xin_rng (lo := 1) (hi := 200) (by decide) (by decide)).mp ⟨Int32.not_lt.mp c2, c9⟩
      refine W.widen (k := 1) (n := 6) (by omega) (by omega) ?_
      refine vx_ret ?_
      exact x_vret hx hb hr hlocks () hi hHp hS (fun _ h => h) dX3_checkSteps_22
    · have hn : ¬ (inR x 201 ∧ 1 ≤ xN x) := fun z => c9 ((xin_rng (lo := 1) (hi := 200) (by decide) (by decide)).mpr z).2
      exact x_throw (cls := xEA) (text := "steps is not 1 to 200") (ik := 47) (is := 199) (ic := 51) hx hb hst9 hts hown htb hlocks hZ hS (hl.1.trans hml.symm) (by decide +kernel) (by decide +kernel) (by decide +kernel) xbad_A (by decide +kernel) xgood_A (by decide) dX3_checkSteps_12 dX3_checkSteps_15 dX3_checkSteps_16 dX3_checkSteps_18 dX3_checkSteps_21 (Nat.le_of_ble_eq_true rfl) (Nat.le_of_ble_eq_true rfl) (by show 0 + 1 ≤ 1; omega) (by show 0 + 6 ≤ 6; omega) (fun H1 _ ho => ⟨rfl, hn⟩) (fun _ h => h) (by omega) (by omega)

set_option maxRecDepth 100000 in
set_option maxHeartbeats 4000000 in
theorem cX3_openPage_ (l : Launch) (hst9 : l.stackTraces = false) (D : va_G) (cI cC : ClassId) (ad : Nat → Nat) (n ch rg : Nat) (hch : ch ≤ 16) : vx_Met l yX3_openPage wsX3_openPage (xRm 6 1 6) (va_Pc [.ref (ad 0)] (xBZ D cI cC (fun H => xXO D ad n ch rg H ∧ xXB D cC ad H) (fun q9 => q9 = ad 0))) (xR (fun _ : Unit => ch < 16) (fun _ a H => a = ad (10 + ch) ∧ xXO D ad n (ch + 1) rg H) (fun q9 => q9 = ad 0)) (xX (fun q9 => q9 = ad 0) (fun E H => E = xES ∧ ¬ ch < 16 ∧ xXO D ad n ch rg H)) 1 6 (fun q9 => q9 = ad 0) := by
  refine vx_ofW (cc := cX3_openPage) (maxL := 2) (ret := (some (.object "BellRanks$Change"))) (by decide) rfl ?_
  intro p e s m args below meth c s₁ B hml htb hv
  obtain ⟨rfl, hP, hK, hZ⟩ := hv
  have hx := B.exec
  have hb := B.bytes
  have hr := B.returns
  have hts := atoms_spec (ws := wsX3_openPage) B.pre
  have hown : s.vm.findClass RX3 = some m.cls := findClass_of_methodNamed B.named
  have hlocks := B.notSynchronized
  obtain ⟨hO, hBk⟩ := hP
  have hl := lv_entry ([.ref (ad 0)]) (n := 2) (Nat.le_of_ble_eq_true rfl)
  rw [lg_entry_eq]
  generalize (lg_sl ([.ref (ad 0)]) ++ List.replicate (2 - (lg_sl ([.ref (ad 0)])).length) Slot.unset).toArray = ls at hl ⊢
  have hl : lv_has ls 2 [(0, .ref (ad 0))] := hl
  have hS : va_S (fun q9 => q9 = ad 0) s.heap s.heap [] := va_S.rf
  refine lv_aload_n hx hb dX3_openPage_0 rfl (lv_at hl 0 rfl) ?_
  refine x_get (v := .int (nI ch)) (C := RX3) (T := TX3) (N := 8) hx hb hts (by decide +kernel) hown hK hO rfl 6 (by decide) (hts (.fieldLink RX3 41 "BellRanks" "written" "I") (by decide +kernel)) (fun _ h9 => h9) rfl dX3_openPage_1 ?_
  refine lv_aload_n hx hb dX3_openPage_4 rfl (lv_at hl 0 rfl) ?_
  refine x_get (v := .ref (ad 1)) (C := RX3) (T := TX3) (N := 8) hx hb hts (by decide +kernel) hown hK hO rfl 0 (by decide) (hts (.fieldLink RX3 11 "BellRanks" "book" "[LBellRanks$Change;") (by decide +kernel)) (fun _ h9 => h9) rfl dX3_openPage_5 ?_
  refine x_alenC hx hb hK hBk dX3_openPage_8 ?_
  refine xn_icmp_lt (tgt := 22) hx hb dX3_openPage_9 (by decide) (by omega) (by decide) (fun c9 => ?_) (fun c9 => ?_)
  · refine lv_aload_n hx hb dX3_openPage_22 rfl (lv_at hl 0 rfl) ?_
    refine x_get (v := .ref (ad 1)) (C := RX3) (T := TX3) (N := 8) hx hb hts (by decide +kernel) hown hK hO rfl 0 (by decide) (hts (.fieldLink RX3 11 "BellRanks" "book" "[LBellRanks$Change;") (by decide +kernel)) (fun _ h9 => h9) rfl dX3_openPage_23 ?_
    refine lv_aload_n hx hb dX3_openPage_26 rfl (lv_at hl 0 rfl) ?_
    refine x_get (v := .int (nI ch)) (C := RX3) (T := TX3) (N := 8) hx hb hts (by decide +kernel) hown hK hO rfl 6 (by decide) (hts (.fieldLink RX3 41 "BellRanks" "written" "I") (by decide +kernel)) (fun _ h9 => h9) rfl dX3_openPage_27 ?_
    refine x_aald hx hb hK hBk (show ch < 16 by omega) (by decide) dX3_openPage_30 ?_
    refine lv_astore_n (lv' := [(1, .ref (ad (10 + ch))), (0, .ref (ad 0))]) hx hb dX3_openPage_31 rfl hl (by decide) rfl (fun ls hl => ?_)
    refine lv_aload_n hx hb dX3_openPage_32 rfl (lv_at hl 1 rfl) ?_
    refine lv_dup hx hb dX3_openPage_33 rfl ?_
    refine x_get (v := .int (nI ch)) (C := RX3) (T := TX3) (N := 8) hx hb hts (by decide +kernel) hown hK hO rfl 6 (by decide) (hts (.fieldLink RX3 41 "BellRanks" "written" "I") (by decide +kernel)) (fun _ h9 => h9) rfl dX3_openPage_34 ?_
    refine xn_iconst (v := 1) hx hb dX3_openPage_37 (by decide) ?_
    refine xn_iadd hx hb dX3_openPage_38 ?_
    refine x_put (v := .int (nI (ch + 1))) (ty := .int) (C := RX3) (T := TX3) (N := 8) hx hb hts (by decide +kernel) tyX3 tyX3_ok nmX3 hown hK hO hS rfl rfl 6 (by decide) (hts (.fieldLink RX3 41 "BellRanks" "written" "I") (by decide +kernel)) (fun _ h9 => h9) rfl (by decide +kernel) rfl rfl (Nat.le_of_ble_eq_true rfl) dX3_openPage_39 (fun H1 locs1 hN hz9 oq hS => ?_)
    have hO : xXO D ad n (ch + 1) rg H1 := hN
    refine lv_aload_n hx hb dX3_openPage_42 rfl (lv_at hl 0 rfl) ?_
    refine W.widen (k := 1) (n := 6) (by omega) (by omega) ?_
    refine vx_ret ?_
    exact x_maret (rt := .object "BellRanks$Change") hx hb hr (Or.inl ⟨_, rfl⟩) hlocks () c9 ⟨rfl, hO⟩ hS (fun _ h => h) dX3_openPage_43
  · have hn : ¬ ch < 16 := by omega
    exact x_throw (cls := xES) (text := "the book holds 16 changes") (ik := 114) (is := 195) (ic := 118) hx hb hst9 hts hown htb hlocks hZ hS (hl.1.trans hml.symm) (by decide +kernel) (by decide +kernel) (by decide +kernel) xbad_S (by decide +kernel) xgood_S (by decide) dX3_openPage_12 dX3_openPage_15 dX3_openPage_16 dX3_openPage_18 dX3_openPage_21 (Nat.le_of_ble_eq_true rfl) (Nat.le_of_ble_eq_true rfl) (by show 0 + 1 ≤ 1; omega) (by show 0 + 6 ≤ 6; omega) (fun H1 _ ho => ⟨rfl, hn, xat_old hO ho⟩) (fun _ h => h) (by omega) (by omega)

set_option maxRecDepth 100000 in
set_option maxHeartbeats 4000000 in
theorem cX3_differentInBook_ (l : Launch) (D : va_G) (cI cC : ClassId) (ad : Nat → Nat) (hj : xInj ad) (n ch rg zs : Nat) (fs zf : Nat → Nat) (pm : Nat → Nat → Nat) (hn8 : n ≤ 8) (hch : ch ≤ 16) (hpm8 : ∀ k i, pm k i < 8) (hz : ∀ k, k < ch → zf k = n) : Met l yX3_differentInBook wsX3_differentInBook (xRm 4 0 0) (va_Pc [.ref (ad 0)] (xB D cI cC (fun H => xXO D ad n ch rg H ∧ xXB D cC ad H ∧ xRs D cI (ad 8) (ad 9) zs fs H ∧ xXC D cI ad zf pm H))) (xI (fun x (_ : Nat × (Nat → Nat)) => x = nI (sm (nwf (fun k => hrk (pm k) n n)) ch)) (fun u H => xRs D cI (ad 8) (ad 9) u.1 u.2 H) (fun q9 => q9 = ad 8 ∨ q9 = ad 9)) 0 0 (fun q9 => q9 = ad 8 ∨ q9 = ad 9) := by
  refine Met.ofW (cc := cX3_differentInBook) (maxL := 2) (ret := (some .int)) (by decide) rfl ?_
  intro p e s m args below meth c s₁ B hml hv
  obtain ⟨rfl, hP, hK⟩ := hv
  have hx := B.exec
  have hb := B.bytes
  have hr := B.returns
  have hts := atoms_spec (ws := wsX3_differentInBook) B.pre
  have hown : s.vm.findClass RX3 = some m.cls := findClass_of_methodNamed B.named
  have hlocks := B.notSynchronized
  obtain ⟨hO, hBk, hRs, hCs⟩ := hP
  have hl := lv_entry ([.ref (ad 0)]) (n := 2) (Nat.le_of_ble_eq_true rfl)
  rw [lg_entry_eq]
  generalize (lg_sl ([.ref (ad 0)]) ++ List.replicate (2 - (lg_sl ([.ref (ad 0)])).length) Slot.unset).toArray = ls at hl ⊢
  have hl : lv_has ls 2 [(0, .ref (ad 0))] := hl
  have hS : va_S (fun q9 => q9 = ad 8 ∨ q9 = ad 9) s.heap s.heap [] := va_S.rf
  refine lv_aload_n hx hb dX3_differentInBook_0 rfl (lv_at hl 0 rfl) ?_
  refine x_get (v := .ref (ad 8)) (C := RX3) (T := TX3) (N := 8) hx hb hts (by decide +kernel) hown hK hO rfl 4 (by decide) (hts (.fieldLink RX3 33 "BellRanks" "ranks" "LBellRanks$RankSet;") (by decide +kernel)) (fun _ h9 => h9) rfl dX3_differentInBook_1 ?_
  refine xmV (As := []) (rest := []) ⟨hx, hb, hml, hown, hts⟩ (cX2_removeAll_ l D cI cC (ad 8) (ad 9) zs fs (xne hj (by omega) (by omega) (by omega))) (cwV 0 hts gX3_differentInBook_X2_removeAll rfl rfl rfl (by decide +kernel) ⟨Nat.le_of_ble_eq_true rfl, Nat.le_of_ble_eq_true rfl⟩) hK hRs (xRecv hK rfl hRs.1) rfl hl.1 rfl (Nat.le_of_ble_eq_true rfl) dX3_differentInBook_4 ⟨(by show 0 + 0 ≤ 0; omega), (by show 0 + 0 ≤ 0; omega)⟩ hS (fun _ h => h) (fun _ h => h) (fun u4 H1 locs1 hp4 hF4 hz4 hk4 hS => ?_)
  have hO : xXO D ad n ch rg H1 := xat_keep hO hk4 (fun z => z.elim (xne hj (by omega) (by omega) (by omega)) (xne hj (by omega) (by omega) (by omega)))
  have hBk : xXB D cC ad H1 := xat_keep hBk hk4 (fun z => z.elim (xne hj (by omega) (by omega) (by omega)) (xne hj (by omega) (by omega) (by omega)))
  have hCs : xXC D cI ad zf pm H1 := xXC_keep hCs hk4 (fun i hi1 hi2 => (fun z => z.elim (xne hj (by omega) (by omega) (by omega)) (xne hj (by omega) (by omega) (by omega))))
  have hRs : xRs D cI (ad 8) (ad 9) 0 fs H1 := hF4
  refine xn_iconst (v := 0) hx hb dX3_differentInBook_7 (by decide) ?_
  refine lv_istore_n (lv' := [(1, .int (nI 0)), (0, .ref (ad 0))]) hx hb dX3_differentInBook_8 rfl hl (by decide) rfl (fun ls hl => ?_)
  refine x_loopH (σ := Nat × Nat × (Nat → Nat)) (fun a => ch - a.1) (fun a H locs cells slots ls => (a.1 ≤ ch) ∧ (a.2.1 = sm (nwf (fun k => hrk (pm k) n n)) a.1) ∧ (∀ v9, (∃ i9, i9 < a.2.1 ∧ a.2.2 i9 = v9) ↔ (∃ q8, q8 < a.1 ∧ (fun k => hrk (pm k) n n) q8 = v9)) ∧ (xXO D ad n ch rg H) ∧ (xXB D cC ad H) ∧ (xRs D cI (ad 8) (ad 9) a.2.1 a.2.2 H) ∧ (xXC D cI ad zf pm H) ∧ (va_S (fun q9 => q9 = ad 8 ∨ q9 = ad 9) s.heap H locs) ∧ (cells = 0) ∧ (slots = 0) ∧ lv_has ls 2 [(0, .ref (ad 0)), (1, .int (nI a.1))]) ?_ (0, 0, fs) _ _ _ _ ls ⟨(Nat.zero_le _), rfl, (fun v9 => ⟨fun ⟨i9, z, _⟩ => absurd z (Nat.not_lt_zero _), fun ⟨i9, z, _⟩ => absurd z (Nat.not_lt_zero _)⟩), hO, hBk, hRs, hCs, hS, rfl, rfl, lv_sub hl [1, 0] rfl⟩
  rintro ⟨i, z9, g9⟩ H locs cells slots ls ⟨h2, h3, hset, hO, hBk, hRs, hCs, hS, rfl, rfl, hl⟩ ih9
  dsimp only at h2 h3 hset hO hBk hRs hCs hS hl
  have hzl := sm_nwf_le (fun k => hrk (pm k) n n) i
  rw [← h3] at hzl
  have hsb : ∀ i9, i9 < z9 → g9 i9 < 2 ^ 31 := fun i9 hi9 => by
    obtain ⟨q8, -, e9⟩ := (hset (g9 i9)).mp ⟨i9, hi9, rfl⟩
    rw [← e9]
    exact Nat.lt_trans (hrk_bd hn8) (by decide)
  refine lv_iload_n hx hb dX3_differentInBook_9 rfl (lv_at hl 1 rfl) ?_
  refine lv_aload_n hx hb dX3_differentInBook_10 rfl (lv_at hl 0 rfl) ?_
  refine x_get (v := .int (nI ch)) (C := RX3) (T := TX3) (N := 8) hx hb hts (by decide +kernel) hown hK hO rfl 6 (by decide) (hts (.fieldLink RX3 41 "BellRanks" "written" "I") (by decide +kernel)) (fun _ h9 => h9) rfl dX3_differentInBook_11 ?_
  refine xn_icmp_ge (tgt := 39) hx hb dX3_differentInBook_14 (by decide) (by omega) (by omega) (fun c14 => ?_) (fun c14 => ?_)
  · refine lv_aload_n hx hb dX3_differentInBook_39 rfl (lv_at hl 0 rfl) ?_
    refine x_get (v := .ref (ad 8)) (C := RX3) (T := TX3) (N := 8) hx hb hts (by decide +kernel) hown hK hO rfl 4 (by decide) (hts (.fieldLink RX3 33 "BellRanks" "ranks" "LBellRanks$RankSet;") (by decide +kernel)) (fun _ h9 => h9) rfl dX3_differentInBook_40 ?_
    refine xcV (As := []) (rest := []) ⟨hx, hb, hml, hown, hts⟩ (cX2_size_ l D cI cC (ad 8) (ad 9) z9 g9) (cwV 0 hts gX3_differentInBook_X2_size rfl rfl rfl (by decide +kernel) ⟨Nat.le_of_ble_eq_true rfl, Nat.le_of_ble_eq_true rfl⟩) hK hRs (xRecv hK rfl hRs.1) rfl hl.1 rfl (Nat.le_of_ble_eq_true rfl) dX3_differentInBook_43 ⟨(by show 0 ≤ 0; omega), (by show 0 ≤ 0; omega)⟩ (fun x43 e43 => ?_)
    subst e43
    exact x_miret hx hb hr hlocks (z9, g9) (by rw [h3, show i = ch by omega]) hRs hS (fun _ h => h) dX3_differentInBook_46
  · refine lv_aload_n hx hb dX3_differentInBook_17 rfl (lv_at hl 0 rfl) ?_
    refine x_get (v := .ref (ad 8)) (C := RX3) (T := TX3) (N := 8) hx hb hts (by decide +kernel) hown hK hO rfl 4 (by decide) (hts (.fieldLink RX3 33 "BellRanks" "ranks" "LBellRanks$RankSet;") (by decide +kernel)) (fun _ h9 => h9) rfl dX3_differentInBook_18 ?_
    refine lv_aload_n hx hb dX3_differentInBook_21 rfl (lv_at hl 0 rfl) ?_
    refine x_get (v := .ref (ad 1)) (C := RX3) (T := TX3) (N := 8) hx hb hts (by decide +kernel) hown hK hO rfl 0 (by decide) (hts (.fieldLink RX3 11 "BellRanks" "book" "[LBellRanks$Change;") (by decide +kernel)) (fun _ h9 => h9) rfl dX3_differentInBook_22 ?_
    refine lv_iload_n hx hb dX3_differentInBook_25 rfl (lv_at hl 1 rfl) ?_
    refine x_aald hx hb hK hBk (show i < 16 by omega) (by decide) dX3_differentInBook_26 ?_
    refine xcV (As := []) (rest := [.ref (ad 8)]) ⟨hx, hb, hml, hown, hts⟩ (cX0_rank_ l D cI cC (ad (10 + i)) (ad (26 + i)) n (pm i) hn8 (fun i9 => Nat.lt_trans (hpm8 _ i9) (by decide))) (cwV 0 hts gX3_differentInBook_X0_rank rfl rfl rfl (by decide +kernel) ⟨Nat.le_of_ble_eq_true rfl, Nat.le_of_ble_eq_true rfl⟩) hK (xXC_at hCs (show i < 16 by omega) (hz i (by omega))) (xRecv hK rfl (xXC_at hCs (show i < 16 by omega) (hz i (by omega))).1) rfl hl.1 rfl (Nat.le_of_ble_eq_true rfl) dX3_differentInBook_27 ⟨(by show 0 ≤ 0; omega), (by show 0 ≤ 0; omega)⟩ (fun x27 e27 => ?_)
    subst e27
    refine xmV (As := [.int (nI (hrk (pm i) n n))]) (rest := []) ⟨hx, hb, hml, hown, hts⟩ (cX2_add_ l D cI cC (ad 8) (ad 9) z9 g9 (xne hj (by omega) (by omega) (by omega)) (by omega) (hrk (pm i) n n) (Nat.lt_trans (hrk_bd hn8) (by decide)) hsb) (cwV 1 hts gX3_differentInBook_X2_add rfl rfl rfl (by decide +kernel) ⟨Nat.le_of_ble_eq_true rfl, Nat.le_of_ble_eq_true rfl⟩) hK hRs (xRecv hK rfl hRs.1) rfl hl.1 rfl (Nat.le_of_ble_eq_true rfl) dX3_differentInBook_30 ⟨(by show 0 + 0 ≤ 0; omega), (by show 0 + 0 ≤ 0; omega)⟩ hS (fun _ h => h) (fun _ h => h) (fun u30 H1 locs1 hp30 hF30 hz30 hk30 hS => ?_)
    have hO : xXO D ad n ch rg H1 := xat_keep hO hk30 (fun z => z.elim (xne hj (by omega) (by omega) (by omega)) (xne hj (by omega) (by omega) (by omega)))
    have hBk : xXB D cC ad H1 := xat_keep hBk hk30 (fun z => z.elim (xne hj (by omega) (by omega) (by omega)) (xne hj (by omega) (by omega) (by omega)))
    have hCs : xXC D cI ad zf pm H1 := xXC_keep hCs hk30 (fun i hi1 hi2 => (fun z => z.elim (xne hj (by omega) (by omega) (by omega)) (xne hj (by omega) (by omega) (by omega))))
    have hRs : xRs D cI (ad 8) (ad 9) u30.1 u30.2 H1 := hF30
    have hdg := dg_step (g := (fun k => hrk (pm k) n n)) hset h3 hp30 rfl
    refine xn_iinc (v := i + 1) (lv' := [(1, .int (nI (i + 1))), (0, .ref (ad 0))]) hx hb dX3_differentInBook_33 hl (k := 1) rfl (xinc1 _) (by decide) rfl (fun ls hl => ?_)
    refine lv_goto (tgt := 9) hx hb dX3_differentInBook_36 (by decide) ?_
    exact ih9 (i + 1, u30.1, u30.2) _ _ _ _ ls ⟨(by dsimp only; omega), hdg.1, hdg.2, hO, hBk, hRs, hCs, hS, rfl, rfl, lv_sub hl [1, 0] rfl⟩ (by dsimp only; omega)
