/-! THE LAW'S LOOP -/
section XS
variable {p : Program} {l : Launch} {e : Env} {R : Room} {s : State} {m : MethodId} {args : Array Value} {below : List Frame} {meth : Method} {c : Code} {H : Heap} {locs : List Loc} {cells slots : Nat} {Q : State → Prop}
variable {mc ms : Nat} {free : Addr → Prop} {A0 A1 : Nat → Prop} {H0 : Heap} {pc : Nat} {ls : Array Slot} {st0 rest : List Value}
variable {y : MethodName} {bytes cc : ByteArray} {maxL nL n index : Nat} {ret : Option FieldType} {ws : List Cond} {rm : Room} {Ts : List Cond} {own : String} {As : List Value} {Bp : State → Prop}
theorem lmR {S0 : Type} {post : S0 → Prop} {F : S0 → Nat → Heap → Prop} (S : CallFix p m c cc nL s args Ts own) (hM : Met l y ws rm (va_Pc As Bp) (xR post F A1) mc ms free) (cw : CallB R s args own index y bytes maxL ret ws rm mc ms n ∧ (Cond.static y).before args s = true) (hp : PreS s H (va_Pc As Bp) As)
    (hn : As.length = n) (hl : ls.size = nL) (hst : st0 = As.reverse ++ rest) (hcat : (rest.map fun v => v.category).sum ≤ 8) (hdg : decode cc pc = .ok (.invokestatic index, 3)) (hf : cells + mc ≤ R.cells ∧ slots + ms ≤ R.slots)
    (hS : va_S A0 H0 H locs) (hA : ∀ q, A1 q → A0 q) (hfr : ∀ q, free q → A0 q)
    (kk : ∀ (u : S0) (ra : Nat) (H1 : Heap) (locs1 : List Loc), F u ra H1 → va_S A0 H0 H1 locs1 → W p l e R s m args below meth c H1 locs1 (cells + mc) (slots + ms) Q (F0 m (pc + 3) ls (.ref ra :: rest))) : W p l e R s m args below meth c H locs cells slots Q (F0 m pc ls st0) :=
  va_callr (va_runS S hM cw hp rfl hn hl hst (lv_room hcat) hdg hf) hS (fun q _ h => hA q h) hfr (fun u ra t H1 locs1 ht _ _ hF hz hk hS1 => kk u ra H1 locs1 (ht ▸ hF) hS1)
theorem lmI {S0 : Type} {post : Int32 → S0 → Prop} {F : S0 → Heap → Prop} (S : CallFix p m c cc nL s args Ts own) (hM : Met l y ws rm (va_Pc As Bp) (xI post F A1) mc ms free) (cw : CallB R s args own index y bytes maxL ret ws rm mc ms n ∧ (Cond.static y).before args s = true) (hp : PreS s H (va_Pc As Bp) As)
    (hn : As.length = n) (hl : ls.size = nL) (hst : st0 = As.reverse ++ rest) (hcat : (rest.map fun v => v.category).sum ≤ 8) (hdg : decode cc pc = .ok (.invokestatic index, 3)) (hf : cells + mc ≤ R.cells ∧ slots + ms ≤ R.slots)
    (hS : va_S A0 H0 H locs) (hA : ∀ q, A1 q → A0 q) (hfr : ∀ q, free q → A0 q)
    (kk : ∀ (r : Int32) (u : S0) (H1 : Heap) (locs1 : List Loc), post r u → F u H1 → va_S A0 H0 H1 locs1 → W p l e R s m args below meth c H1 locs1 (cells + mc) (slots + ms) Q (F0 m (pc + 3) ls (.int r :: rest))) : W p l e R s m args below meth c H locs cells slots Q (F0 m pc ls st0) :=
  va_calli (va_runS S hM cw hp rfl hn hl hst (lv_room hcat) hdg hf) hS (fun q _ h => hA q h) hfr (fun r u t H1 locs1 ht _ hp hF hz hk hS1 => kk r u H1 locs1 hp (ht ▸ hF) hS1)
end XS
set_option maxRecDepth 100000 in
set_option maxHeartbeats 4000000 in
theorem lwLoop_ {p : Program} {l : Launch} {e : Env} {s : State} {m : MethodId} {below : List Frame} {meth : Method} {c : Code} {b L : Nat} {xs : Nat → Int32} {D : va_G} {cI cC : ClassId} {ad : Nat → Nat} {Q : State → Prop} {n st : Nat} {kf : Nat → Nat} (hst9 : l.stackTraces = false) (C : qC p s m c b L xs D cI cC ad) (hst1 : 1 ≤ st)
    (K : ∀ (H1 : Heap) (locs1 : List Loc) (cells1 slots1 : Nat) (ls1 : Array Slot), va_S (fun q : Nat => s.heap.size ≤ q) s.heap H1 locs1 → cells1 ≤ 600172 → slots1 ≤ 7300668 → W p l e room_1 s m #[Value.ref b] below meth c H1 locs1 cells1 slots1 Q (F0 m 740 ls1 []))
    {pm : Nat → Nat → Nat} {H : Heap} {locs : List Loc} {cells slots : Nat} {ls : Array Slot} (hI : AI (n, 5, pm, st, kf, 0)) (hW : xXW D cI cC ad (n, 5, pm, st, kf, 0) H) (hS : va_S (fun q : Nat => s.heap.size ≤ q) s.heap H locs) (hce0 : cells ≤ 300) (hse0 : slots ≤ 1800) (hl : lv_has ls 18 [(0, .ref b), (1, .ref (ad 0)), (2, .int (nI n)), (3, .int (nI st)), (4, .int (nI 0)), (5, .int (nI 5)), (6, .int (nI 0))]) :
    W p l e room_1 s m #[Value.ref b] below meth c H locs cells slots Q (F0 m 26 ls []) := by
  obtain ⟨hx, hb, hml, hown, hts, hX, hbl, hL, hK, hZ, hj, hA⟩ := id C
  have hbA : ¬ (fun q : Nat => s.heap.size ≤ q) b := Nat.not_le.mpr hbl
  refine x_loopH (σ := Nat × (Nat → Nat → Nat) × Nat × Nat) (fun a => 30 - a.2.2.2) (fun a H locs cells slots ls => (AI (n, a.1, a.2.1, st, kf, a.2.2.1)) ∧ (5 ≤ a.1) ∧ (a.2.2.1 ≤ 200 * a.2.2.2) ∧ (a.2.2.2 ≤ 30) ∧ (xXW D cI cC ad (n, a.1, a.2.1, st, kf, a.2.2.1) H) ∧ (va_S (fun q : Nat => s.heap.size ≤ q) s.heap H locs) ∧ (cells ≤ 300 + 8000 * a.2.2.2) ∧ (slots ≤ 1800 + 48000 * a.2.2.2) ∧ lv_has ls 18 [(0, .ref b), (1, .ref (ad 0)), (2, .int (nI n)), (3, .int (nI st)), (4, .int (nI a.2.2.1)), (5, .int (nI a.1)), (6, .int (nI a.2.2.2))]) ?_ (5, pm, 0, 0) _ _ _ _ ls ⟨hI, Nat.le_refl 5, Nat.zero_le _, Nat.zero_le _, hW, hS, (by dsimp only; omega), (by dsimp only; omega), hl⟩
  rintro ⟨ch, pm, rg, ti⟩ H locs cells slots ls ⟨hI, hc5, hrg, hti, hW, hS, hce, hse, hl⟩ ih26
  dsimp only at hI hc5 hrg hti hW hS hce hse hl
  obtain ⟨⟨hn2, hn8⟩, hch, hst, hpm8, hpm, hkv, hkb⟩ := id hI
  have hn2 : 2 ≤ n := hn2
  have hn8 : n ≤ 8 := hn8
  have hch : ch ≤ 16 := hch
  have hst : st ≤ 10 := hst
  have hpm8 : ∀ k i, pm k i < 8 := hpm8
  have hpm : ∀ k, k < ch → Prm n (pm k) := hpm
  refine lv_iload hx hb dL_law_26 (lv_at hl 6 rfl) ?_
  refine xn_bipush (v := 30) hx hb dL_law_28 (by decide) ?_
  refine xn_icmp_ge (tgt := 740) hx hb dL_law_30 (by decide) (by omega) (by decide) (fun c30 => ?_) (fun c30 => ?_)
  · exact K _ _ _ _ _ hS (by omega) (by omega)
  · skip
    refine lv_aload_n hx hb dL_law_33 rfl (lv_at hl 0 rfl) ?_
    refine lv_iload hx hb dL_law_34 (lv_at hl 6 rfl) ?_
    refine xn_bipush (v := 16) hx hb dL_law_36 (by decide) ?_
    refine xn_irem hx hb (by omega) (by decide) (by decide) dL_law_38 ?_
    refine lcS (As := [.ref b, .int (nI (ti % 16))]) (rest := []) ⟨hx, hb, hml, hown, hts⟩ (cL_cell_ l b L xs hL (ti % 16) (by omega)) (va_cwS 2 hts gL_law_L_cell rfl rfl rfl (by decide +kernel) ⟨Nat.le_of_ble_eq_true rfl, Nat.le_of_ble_eq_true rfl⟩) (lpreX (hX.kept (hS.2.1 b hbl hbA))) rfl hl.1 rfl (Nat.le_of_ble_eq_true rfl) dL_law_39 ⟨(by show cells ≤ 600172; omega), (by show slots ≤ 7300668; omega)⟩ (fun x39 e39 => ?_)
    subst e39
    refine lv_iload hx hb dL_law_42 (lv_at hl 6 rfl) ?_
    refine xn_bipush (v := 16) hx hb dL_law_44 (by decide) ?_
    refine xn_idiv hx hb (by omega) (by decide) (by decide) dL_law_46 ?_
    refine xn_iconst (v := 4) hx hb dL_law_47 (by decide) ?_
    refine xn_imul hx hb dL_law_48 ?_
    refine lv_ishr hx hb dL_law_49 ?_
    generalize (cel xs L (ti % 16)) >>> ((nI ((ti / 16) * 4)) &&& 31) = v
    refine lv_istore (lv' := [(7, .int v), (0, .ref b), (1, .ref (ad 0)), (2, .int (nI n)), (3, .int (nI st)), (4, .int (nI rg)), (5, .int (nI ch)), (6, .int (nI ti))]) hx hb dL_law_50 hl (by decide) rfl (fun ls hl => ?_)
    refine lv_iload hx hb dL_law_52 (lv_at hl 0 rfl) ?_
    refine xn_iconst (v := 2) hx hb dL_law_54 (by decide) ?_
    refine lv_ishr hx hb dL_law_55 ?_
    refine lv_iload hx hb dL_law_56 (lv_at hl 6 rfl) ?_
    refine lcS (As := [.int (v >>> ((nI 2) &&& 31)), .int (nI ch)]) (rest := []) ⟨hx, hb, hml, hown, hts⟩ (cL_below_ l (v >>> ((nI 2) &&& 31)) ch (by omega) (by omega)) (va_cwS 2 hts gL_law_L_below rfl rfl rfl (by decide +kernel) ⟨Nat.le_of_ble_eq_true rfl, Nat.le_of_ble_eq_true rfl⟩) lpre0 rfl hl.1 rfl (Nat.le_of_ble_eq_true rfl) dL_law_58 ⟨(by show cells ≤ 600172; omega), (by show slots ≤ 7300668; omega)⟩ (fun x58 e58 => ?_)
    subst e58
    have ha : bel (v >>> ((nI 2) &&& 31)) ch < ch := bel_lt _ (by omega)
    generalize bel (v >>> ((nI 2) &&& 31)) ch = a at ha ⊢
    refine lv_istore (lv' := [(8, .int (nI a)), (7, .int v), (0, .ref b), (1, .ref (ad 0)), (2, .int (nI n)), (3, .int (nI st)), (4, .int (nI rg)), (5, .int (nI ch)), (6, .int (nI ti))]) hx hb dL_law_61 hl (by decide) rfl (fun ls hl => ?_)
    refine lv_iload hx hb dL_law_63 (lv_at hl 1 rfl) ?_
    refine xn_iconst (v := 5) hx hb dL_law_65 (by decide) ?_
    refine lv_ishr hx hb dL_law_66 ?_
    refine lv_iload hx hb dL_law_67 (lv_at hl 7 rfl) ?_
    refine lcS (As := [.int (v >>> ((nI 5) &&& 31)), .int (nI ch)]) (rest := []) ⟨hx, hb, hml, hown, hts⟩ (cL_below_ l (v >>> ((nI 5) &&& 31)) ch (by omega) (by omega)) (va_cwS 2 hts gL_law_L_below rfl rfl rfl (by decide +kernel) ⟨Nat.le_of_ble_eq_true rfl, Nat.le_of_ble_eq_true rfl⟩) lpre0 rfl hl.1 rfl (Nat.le_of_ble_eq_true rfl) dL_law_69 ⟨(by show cells ≤ 600172; omega), (by show slots ≤ 7300668; omega)⟩ (fun x69 e69 => ?_)
    subst e69
    have hb9 : bel (v >>> ((nI 5) &&& 31)) ch < ch := bel_lt _ (by omega)
    generalize bel (v >>> ((nI 5) &&& 31)) ch = b9 at hb9 ⊢
    refine lv_istore (lv' := [(9, .int (nI b9)), (8, .int (nI a)), (7, .int v), (0, .ref b), (1, .ref (ad 0)), (2, .int (nI n)), (3, .int (nI st)), (4, .int (nI rg)), (5, .int (nI ch)), (6, .int (nI ti))]) hx hb dL_law_72 hl (by decide) rfl (fun ls hl => ?_)
    refine lv_aload_n hx hb dL_law_74 rfl (lv_at hl 4 rfl) ?_
    refine lv_iload hx hb dL_law_75 (lv_at hl 1 rfl) ?_
    refine xn_iconst (v := 0) hx hb dL_law_77 (by decide) ?_
    refine xoC (As := [.int (nI a), .int (nI 0)]) (rest := []) ⟨hx, hb, hml, hown, hts⟩ (kTold_ l hst9 D cI cC ad hj (n, ch, pm, st, kf, rg) hI (nI a) (nI 0)) (fun _ _ hB => no1 (t_told (S := (n, ch, pm, st, kf, rg)) hI (show a < ch by omega) (by decide)) hB) (cwV 2 hts gL_law_X3_told rfl rfl rfl (by decide +kernel) ⟨Nat.le_of_ble_eq_true rfl, Nat.le_of_ble_eq_true rfl⟩) hK hZ hW rfl hl.1 rfl (Nat.le_of_ble_eq_true rfl) dL_law_78 ⟨(by show cells + 10 ≤ 600172; omega), (by show slots + 60 ≤ 7300668; omega)⟩ hS hA (fun H1 locs1 hW hS => ?_)
    refine xz_i (y := nI (hrk (pm a) n n)) (v_told (by omega) (by decide)) ?_
    refine lv_istore (lv' := [(10, .int (nI (hrk (pm a) n n))), (9, .int (nI b9)), (8, .int (nI a)), (7, .int v), (0, .ref b), (1, .ref (ad 0)), (2, .int (nI n)), (3, .int (nI st)), (4, .int (nI rg)), (5, .int (nI ch)), (6, .int (nI ti))]) hx hb dL_law_81 hl (by decide) rfl (fun ls hl => ?_)
    refine lv_aload_n hx hb dL_law_83 rfl (lv_at hl 5 rfl) ?_
    refine lv_iload hx hb dL_law_84 (lv_at hl 2 rfl) ?_
    refine xn_iconst (v := 2) hx hb dL_law_86 (by decide) ?_
    refine xoC (As := [.int (nI a), .int (nI 2)]) (rest := []) ⟨hx, hb, hml, hown, hts⟩ (kTold_ l hst9 D cI cC ad hj (n, ch, pm, st, kf, rg) hI (nI a) (nI 2)) (fun _ _ hB => no1 (t_told (S := (n, ch, pm, st, kf, rg)) hI (show a < ch by omega) (by decide)) hB) (cwV 2 hts gL_law_X3_told rfl rfl rfl (by decide +kernel) ⟨Nat.le_of_ble_eq_true rfl, Nat.le_of_ble_eq_true rfl⟩) hK hZ hW rfl hl.1 rfl (Nat.le_of_ble_eq_true rfl) dL_law_87 ⟨(by show cells + 10 + 10 ≤ 600172; omega), (by show slots + 60 + 60 ≤ 7300668; omega)⟩ hS hA (fun H1 locs1 hW hS => ?_)
    refine xz_i (y := nI (ivs (pm a) n % 2)) (v_told (by omega) (by decide)) ?_
    refine lv_istore (lv' := [(11, .int (nI (ivs (pm a) n % 2))), (10, .int (nI (hrk (pm a) n n))), (9, .int (nI b9)), (8, .int (nI a)), (7, .int v), (0, .ref b), (1, .ref (ad 0)), (2, .int (nI n)), (3, .int (nI st)), (4, .int (nI rg)), (5, .int (nI ch)), (6, .int (nI ti))]) hx hb dL_law_90 hl (by decide) rfl (fun ls hl => ?_)
    refine lv_iload hx hb dL_law_92 (lv_at hl 1 rfl) ?_
    refine lv_istore (lv' := [(12, .int (nI (hrk (pm a) n n))), (11, .int (nI (ivs (pm a) n % 2))), (10, .int (nI (hrk (pm a) n n))), (9, .int (nI b9)), (8, .int (nI a)), (7, .int v), (0, .ref b), (1, .ref (ad 0)), (2, .int (nI n)), (3, .int (nI st)), (4, .int (nI rg)), (5, .int (nI ch)), (6, .int (nI ti))]) hx hb dL_law_94 hl (by decide) rfl (fun ls hl => ?_)
    refine lv_iload hx hb dL_law_96 (lv_at hl 5 rfl) ?_
    refine xn_bipush (v := 7) hx hb dL_law_98 (by decide) ?_
    refine lcS (As := [.int v, .int (nI 7)]) (rest := []) ⟨hx, hb, hml, hown, hts⟩ (cL_below_ l v 7 (by decide) (by decide)) (va_cwS 2 hts gL_law_L_below rfl rfl rfl (by decide +kernel) ⟨Nat.le_of_ble_eq_true rfl, Nat.le_of_ble_eq_true rfl⟩) lpre0 rfl hl.1 rfl (Nat.le_of_ble_eq_true rfl) dL_law_100 ⟨(by show cells + 10 + 10 ≤ 600172; omega), (by show slots + 60 + 60 ≤ 7300668; omega)⟩ (fun x100 e100 => ?_)
    subst e100
    have hw : bel v 7 < 7 := bel_lt _ (by decide)
    generalize bel v 7 = w at hw ⊢
    have J : ∀ (ch1 : Nat) (pm1 : Nat → Nat → Nat) (rg1 : Nat) (H1 : Heap) (locs1 : List Loc) (cells1 slots1 : Nat) (ls1 : Array Slot), AI (n, ch1, pm1, st, kf, rg1) → 5 ≤ ch1 → a < ch1 → rg1 ≤ 200 * (ti + 1) → xXW D cI cC ad (n, ch1, pm1, st, kf, rg1) H1 → va_S (fun q : Nat => s.heap.size ≤ q) s.heap H1 locs1 → cells1 ≤ (cells + 10 + 10) + 808 → slots1 ≤ (slots + 60 + 60) + 4848 → lv_has ls1 18 [(0, .ref b), (1, .ref (ad 0)), (2, .int (nI n)), (3, .int (nI st)), (4, .int (nI rg1)), (5, .int (nI ch1)), (6, .int (nI ti)), (8, .int (nI a)), (12, .int (nI (hrk (pm1 a) n n)))] → W p l e room_1 s m #[Value.ref b] below meth c H1 locs1 cells1 slots1 Q (F0 m 447 ls1 []) := by
      intro ch1 pm1 rg1 H1 locs1 cells1 slots1 ls1 hI1 h51 ha1 hr1 hW1 hS1 hc1 hs1 hl1
      refine lwT_ hst9 C hI1 ha1 hr1 (by omega) hW1 hS1 (by omega) (by omega) hl1 (fun H2 locs2 cells2 slots2 ls2 hW2 hS2 hc2 hs2 hl2 => ?_)
      exact ih26 (ch1, pm1, rg1, ti + 1) _ _ _ _ ls2 ⟨hI1, h51, hr1, (by dsimp only; omega), hW2, hS2, (by dsimp only; omega), (by dsimp only; omega), hl2⟩ (by dsimp only; omega)
    have hz7 : w = 0 ∨ w = 1 ∨ w = 2 ∨ w = 3 ∨ w = 4 ∨ w = 5 ∨ w = 6 := by omega
    have hl : lv_has ls 18 [(0, .ref b), (1, .ref (ad 0)), (2, .int (nI n)), (3, .int (nI st)), (4, .int (nI rg)), (5, .int (nI ch)), (6, .int (nI ti)), (7, .int v), (8, .int (nI a)), (9, .int (nI b9)), (10, .int (nI (hrk (pm a) n n))), (11, .int (nI (ivs (pm a) n % 2))), (12, .int (nI (hrk (pm a) n n)))] := lv_sub hl [6, 7, 8, 9, 10, 11, 12, 5, 4, 3, 2, 1, 0] rfl
    rcases hz7 with rfl | rfl | rfl | rfl | rfl | rfl | rfl
    · refine lv_tableIn (off := 33) (tgt := 136) hx hb dL_law_103 (by decide) (by decide) rfl (by decide) ?_
      exact lwSwap_ hst9 C hI hc5 hst1 ha hb9 hrg (by omega) hW hS (by omega) (by omega) hl J
    · refine lv_tableIn (off := 72) (tgt := 175) hx hb dL_law_103 (by decide) (by decide) rfl (by decide) ?_
      exact lwNext_ hst9 C hI hc5 hst1 ha hb9 hrg (by omega) hW hS (by omega) (by omega) hl J
    · refine lv_tableIn (off := 96) (tgt := 199) hx hb dL_law_103 (by decide) (by decide) rfl (by decide) ?_
      exact lwBehind_ hst9 C hI hc5 hst1 ha hb9 hrg (by omega) hW hS (by omega) (by omega) hl J
    · refine lv_tableIn (off := 127) (tgt := 230) hx hb dL_law_103 (by decide) (by decide) rfl (by decide) ?_
      exact lwBack_ hst9 C hI hc5 hst1 ha hb9 hrg (by omega) hW hS (by omega) (by omega) hl J
    · refine lv_tableIn (off := 170) (tgt := 273) hx hb dL_law_103 (by decide) (by decide) rfl (by decide) ?_
      exact lwRing_ hst9 C hI hc5 hst1 ha hb9 hrg (by omega) hW hS (by omega) (by omega) hl J
    · refine lv_tableOut (tgt := 306) hx hb dL_law_103 (Or.inr (by decide)) (by decide) ?_
      exact lwAsk_ hst9 C hI hc5 hst1 ha hb9 hrg (by omega) hW hS (by omega) (by omega) hl J
    · refine lv_tableOut (tgt := 306) hx hb dL_law_103 (Or.inr (by decide)) (by decide) ?_
      exact lwAsk_ hst9 C hI hc5 hst1 ha hb9 hrg (by omega) hW hS (by omega) (by omega) hl J
