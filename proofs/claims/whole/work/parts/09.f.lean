/-! MEAN, on both sides -/
def mnP (S : AS) (r : UInt64) : Prop := if S.2.1 = 0 then r = FP.dconst0 else alike64 r (FP.ddiv (FP.i2d (nI (mnS S))) (FP.i2d (nI S.2.1))) = true
def xDd {S : Type} (post : UInt64 → S → Prop) (F : S → Heap → Prop) (A : Nat → Prop) := va_Qd post (fun u t => F u t.heap) A
theorem x_mdret {p : Program} {l : Launch} {e : Env} {R : Room} {s : State} {m : MethodId} {args : Array Value} {below : List Frame} {meth : Method} {c : Code} {H : Heap} {locs : List Loc} {cells slots : Nat} {cc : ByteArray} {pc : Nat} {ls : Array Slot} {S0 : Type} {post : UInt64 → S0 → Prop} {F : S0 → Heap → Prop} {A free : Addr → Prop} {v : UInt64} (hx : p.tables.exec = Jvm.exec) (hb : c.code = cc) (hr : meth.sig.returnType = some .double) (hlocks : meth.locks = false) (u : S0) (hp : post v u) (hF : F u H) (hS : va_S A s.heap H locs) (hf : ∀ q, A q → free q) (hdg : decode cc pc = .ok (.dreturn, 1)) : W p l e R s m args below meth c H locs cells slots (MQ below (xDd post F A) args s cells slots free) (F0 m pc ls [.double v]) :=
  W.dret hx hb hr (fun t ht _ => ⟨⟨v, u, rfl, hp, by show F u t.heap; rw [ht]; exact hF⟩, hS.F ht⟩) (fun q h => hf _ (hS.2.2 q h)) hdg hlocks
set_option maxRecDepth 100000 in
set_option maxHeartbeats 4000000 in
theorem kMean_ (l : Launch) (D : va_G) (cI cC : ClassId) (ad : Nat → Nat) (hj : xInj ad) (S : AS) (hI : AI S) : MetD lw_cs l yX3_mean wsX3_mean (xRm 14 0 0) (va_Pc [.ref (ad 0)] (xB D cI cC (xXW D cI cC ad S))) (xDd (fun r (_ : Unit) => mnP S r) (fun _ H => xXW D cI cC ad S H) (xAD ad)) 0 0 (xAD ad) := by
  obtain ⟨n, ch, pm, st, kf, rg⟩ := S
  obtain ⟨⟨hn2, hn8⟩, hch, hst, hpm8, hpm, hkv, hkb⟩ := id hI
  dsimp only at hn2 hn8 hch hst hpm8 hpm hkv hkb
  refine MetD.ofW (cc := cX3_mean) (maxL := 3) (ret := (some .double)) (by decide) rfl ?_
  intro p e s m args below meth c s₁ B hml hv hd0
  obtain ⟨rfl, hP, hK⟩ := hv
  have hx := B.exec
  have hb := B.bytes
  have hr := B.returns
  have hts := dr_words (atoms_spec (ws := wsX3_mean) B.pre) s.drawn
  have hown : s.vm.findClass RX3 = some m.cls := findClass_of_methodNamed B.named
  have hlocks := B.notSynchronized
  have hW := hP
  have hl := lv_entry ([.ref (ad 0)]) (n := 3) (Nat.le_of_ble_eq_true rfl)
  rw [lg_entry_eq]
  generalize (lg_sl ([.ref (ad 0)]) ++ List.replicate (3 - (lg_sl ([.ref (ad 0)])).length) Slot.unset).toArray = ls at hl ⊢
  have hl : lv_has ls 3 [(0, .ref (ad 0))] := hl
  obtain ⟨zr, zm, zs, fr, fm, fs, zf, hO, hBk, hMe, hRu, hfr, hMa, hfm, hRs, hCs, hz⟩ := id hW
  have hO : xXO D ad n ch rg s.heap := hO
  have hMe : xMe D cI (ad 2) (ad 3) st kf s.heap := hMe
  have hCs : xXC D cI ad zf pm s.heap := hCs
  have hz : ∀ k, k < ch → zf k = n := hz
  have hS : va_S (xAD ad) s.heap s.heap [] := va_S.rf
  refine lv_aload_n hx hb dX3_mean_0 rfl (lv_at hl 0 rfl) ?_
  refine x_get (v := .int (nI ch)) (C := RX3) (T := TX3) (N := 8) hx hb hts (by decide +kernel) hown hK hO rfl 6 (by decide) (hts (.fieldLink RX3 41 "BellRanks" "written" "I") (by decide +kernel)) (fun _ h9 => h9) rfl dX3_mean_1 ?_
  refine xn_if_ne (tgt := 9) hx hb dX3_mean_4 (by decide) (by omega) (fun c4 => ?_) (fun c4 => ?_)
  · refine xn_iconst (v := 0) hx hb dX3_mean_9 (by decide) ?_
    refine lv_istore_n (lv' := [(1, .int (nI 0)), (0, .ref (ad 0))]) hx hb dX3_mean_10 rfl hl (by decide) rfl (fun ls hl => ?_)
    refine xn_iconst (v := 0) hx hb dX3_mean_11 (by decide) ?_
    refine lv_istore_n (lv' := [(2, .int (nI 0)), (1, .int (nI 0)), (0, .ref (ad 0))]) hx hb dX3_mean_12 rfl hl (by decide) rfl (fun ls hl => ?_)
    refine x_loop (σ := Nat × Nat) (fun a => ch - a.2) (fun a ls => (a.2 ≤ ch) ∧ (a.1 = sm (rkS (n, ch, pm, st, kf, rg)) a.2) ∧ lv_has ls 3 [(0, .ref (ad 0)), (1, .int (nI a.1)), (2, .int (nI a.2))]) ?_ (0, 0) ls ⟨(Nat.zero_le _), rfl, lv_sub hl [2, 1, 0] rfl⟩
    rintro ⟨L, k⟩ ls ⟨h2, h3, hl⟩ ih13
    dsimp only at h2 h3 hl
    refine lv_iload_n hx hb dX3_mean_13 rfl (lv_at hl 2 rfl) ?_
    refine lv_aload_n hx hb dX3_mean_14 rfl (lv_at hl 0 rfl) ?_
    refine x_get (v := .int (nI ch)) (C := RX3) (T := TX3) (N := 8) hx hb hts (by decide +kernel) hown hK hO rfl 6 (by decide) (hts (.fieldLink RX3 41 "BellRanks" "written" "I") (by decide +kernel)) (fun _ h9 => h9) rfl dX3_mean_15 ?_
    refine xn_icmp_ge (tgt := 39) hx hb dX3_mean_18 (by decide) (by omega) (by omega) (fun c18 => ?_) (fun c18 => ?_)
    · refine lv_iload_n hx hb dX3_mean_39 rfl (lv_at hl 1 rfl) ?_
      refine lv_i2d hx hb dX3_mean_40 ?_
      refine lv_aload_n hx hb dX3_mean_41 rfl (lv_at hl 0 rfl) ?_
      refine x_get (v := .int (nI ch)) (C := RX3) (T := TX3) (N := 8) hx hb hts (by decide +kernel) hown hK hO rfl 6 (by decide) (hts (.fieldLink RX3 41 "BellRanks" "written" "I") (by decide +kernel)) (fun _ h9 => h9) rfl dX3_mean_42 ?_
      refine lv_i2d hx hb dX3_mean_45 ?_
      refine lv_ddiv_any hd0 lw_bits hx hb dX3_mean_46 (fun r9 d9 hal hd0 => ?_)
      refine W.endD hd0 ?_
      have hmn : mnP (n, ch, pm, st, kf, rg) r9 := by
        unfold mnP
        rw [if_neg (show ¬ (n, ch, pm, st, kf, rg).2.1 = 0 from (show ¬ ch = 0 by omega))]
        rw [h3, show k = ch by omega] at hal
        exact hal
      exact x_mdret hx hb hr hlocks () hmn (xXW_mk (S := (n, ch, pm, st, kf, rg)) hO hBk hMe hRu hfr hMa hfm hRs hCs hz) hS (fun _ h => h) dX3_mean_47
    · refine lv_iload_n hx hb dX3_mean_21 rfl (lv_at hl 1 rfl) ?_
      refine lv_aload_n hx hb dX3_mean_22 rfl (lv_at hl 0 rfl) ?_
      refine x_get (v := .ref (ad 1)) (C := RX3) (T := TX3) (N := 8) hx hb hts (by decide +kernel) hown hK hO rfl 0 (by decide) (hts (.fieldLink RX3 11 "BellRanks" "book" "[LBellRanks$Change;") (by decide +kernel)) (fun _ h9 => h9) rfl dX3_mean_23 ?_
      refine lv_iload_n hx hb dX3_mean_26 rfl (lv_at hl 2 rfl) ?_
      refine x_aald hx hb hK hBk (show k < 16 by omega) (by decide) dX3_mean_27 ?_
      refine xcV (As := []) (rest := [.int (nI L)]) ⟨hx, hb, hml, hown, hts⟩ (cX0_rank_ l D cI cC (ad (10 + k)) (ad (26 + k)) n (pm k) hn8 (fun i9 => Nat.lt_trans ((hpm8 k) i9) (by decide))) (cwV 0 hts gX3_mean_X0_rank rfl rfl rfl (by decide +kernel) ⟨Nat.le_of_ble_eq_true rfl, Nat.le_of_ble_eq_true rfl⟩) hK (xXC_at hCs (show k < 16 by omega) (hz k (by omega))) (xRecv hK rfl ((xXC_at hCs (show k < 16 by omega) (hz k (by omega)))).1) rfl hl.1 rfl (Nat.le_of_ble_eq_true rfl) dX3_mean_28 ⟨(by show 0 ≤ 0; omega), (by show 0 ≤ 0; omega)⟩ (fun x28 e28 => ?_)
      subst e28
      refine xn_iadd hx hb dX3_mean_31 ?_
      refine lv_istore_n (lv' := [(1, .int (nI (L + (hrk (pm k) n n)))), (0, .ref (ad 0)), (2, .int (nI k))]) hx hb dX3_mean_32 rfl hl (by decide) rfl (fun ls hl => ?_)
      refine xn_iinc (v := k + 1) (lv' := [(2, .int (nI (k + 1))), (1, .int (nI (L + (hrk (pm k) n n)))), (0, .ref (ad 0))]) hx hb dX3_mean_33 hl (k := 2) rfl (xinc1 _) (by decide) rfl (fun ls hl => ?_)
      refine lv_goto (tgt := 13) hx hb dX3_mean_36 (by decide) ?_
      exact ih13 (L + (hrk (pm k) n n), k + 1) ls ⟨(by dsimp only; omega), (by dsimp only; rw [h3]; rfl), lv_sub hl [2, 1, 0] rfl⟩ (by dsimp only; omega)
  · refine lv_dconst0 hx hb dX3_mean_7 ?_
    refine W.endD hd0 ?_
    have hmn : mnP (n, ch, pm, st, kf, rg) FP.dconst0 := by unfold mnP; rw [if_pos (show (n, ch, pm, st, kf, rg).2.1 = 0 from (show ch = 0 by omega))]
    exact x_mdret hx hb hr hlocks () hmn (xXW_mk (S := (n, ch, pm, st, kf, rg)) hO hBk hMe hRu hfr hMa hfm hRs hCs hz) hS (fun _ h => h) dX3_mean_8

set_option maxRecDepth 100000 in
set_option maxHeartbeats 4000000 in
theorem mMean_ (l : Launch) (D : va_G) (cI cC : ClassId) (o bk kp : Nat) (d1 : o ≠ bk) (d2 : o ≠ kp) (d3 : bk ≠ kp) (t0 : Nat) (S : AS) (hI : AI S) (sz : Nat) : MetD lw_cs l yX4_mean wsX4_mean (xRm 20 900 7200) (va_Pc [.ref o] (xB D cI cC (fun H => H.size = sz ∧ xMW D cI o bk kp t0 S H))) (xDd (fun r (_ : Unit) => mnP S r) (fun _ H => xMW D cI o bk kp 0 S H) (xMA o bk kp sz)) 900 7200 (xMA o bk kp sz) := by
  obtain ⟨n, ch, pm, st, kf, rg⟩ := S
  obtain ⟨⟨hn2, hn8⟩, hch, hst, hpm8, hpm, hkv, hkb⟩ := id hI
  dsimp only at hn2 hn8 hch hst hpm8 hpm hkv hkb
  refine MetD.ofW (cc := cX4_mean) (maxL := 3) (ret := (some .double)) (by decide) rfl ?_
  intro p e s m args below meth c s₁ B hml hv hd0
  obtain ⟨rfl, hP, hK⟩ := hv
  have hx := B.exec
  have hb := B.bytes
  have hr := B.returns
  have hts := dr_words (atoms_spec (ws := wsX4_mean) B.pre) s.drawn
  have hown : s.vm.findClass RX4 = some m.cls := findClass_of_methodNamed B.named
  have hlocks := B.notSynchronized
  obtain ⟨hsz, bf, hM, hbr, hbb⟩ := hP
  have hl := lv_entry ([.ref o]) (n := 3) (Nat.le_of_ble_eq_true rfl)
  rw [lg_entry_eq]
  generalize (lg_sl ([.ref o]) ++ List.replicate (3 - (lg_sl ([.ref o])).length) Slot.unset).toArray = ls at hl ⊢
  have hl : lv_has ls 3 [(0, .ref o)] := hl
  have hM : xMo D cI o bk kp t0 n ch st rg bf kf s.heap := hM
  have hbr : ∀ k, k < ch → bf k = hrk (pm k) n n := hbr
  have hS : va_S (xMA o bk kp sz) s.heap s.heap [] := va_S.rf
  have hle : sz ≤ s.heap.size := Nat.le_of_eq hsz.symm
  refine lv_aload_n hx hb dX4_mean_0 rfl (lv_at hl 0 rfl) ?_
  refine xn_iconst (v := 0) hx hb dX4_mean_1 (by decide) ?_
  refine x_put (v := .int (nI 0)) (ty := .int) (C := RX4) (T := TX4) (N := 7) hx hb hts (by decide +kernel) tyX4 tyX4_ok nmX4 hown hK hM.1 hS (Or.inl rfl) rfl 0 (by decide) (hts (.fieldLink RX4 20 "BellRanksModel" "thrown" "I") (by decide +kernel)) (fun _ h9 => h9) rfl (by decide +kernel) rfl rfl (Nat.le_of_ble_eq_true rfl) dX4_mean_2 (fun H1 locs1 hN hz oq hS => ?_)
  have hM : xMo D cI o bk kp 0 n ch st rg bf kf H1 := ⟨hN, hM.2.1.kept (oq _ (Ne.symm d1)), hM.2.2.kept (oq _ (Ne.symm d2))⟩
  have hle : sz ≤ H1.size := by rw [hz]; exact hle
  refine xn_iconst (v := 0) hx hb dX4_mean_5 (by decide) ?_
  refine lv_istore_n (lv' := [(1, .int (nI 0)), (0, .ref o)]) hx hb dX4_mean_6 rfl hl (by decide) rfl (fun ls hl => ?_)
  refine xn_iconst (v := 0) hx hb dX4_mean_7 (by decide) ?_
  refine lv_istore_n (lv' := [(2, .int (nI 0)), (1, .int (nI 0)), (0, .ref o)]) hx hb dX4_mean_8 rfl hl (by decide) rfl (fun ls hl => ?_)
  refine x_loop (σ := Nat × Nat) (fun a => ch - a.2) (fun a ls => (a.2 ≤ ch) ∧ (a.1 = sm (rkS (n, ch, pm, st, kf, rg)) a.2) ∧ lv_has ls 3 [(0, .ref o), (1, .int (nI a.1)), (2, .int (nI a.2))]) ?_ (0, 0) ls ⟨(Nat.zero_le _), rfl, lv_sub hl [2, 1, 0] rfl⟩
  rintro ⟨L, k⟩ ls ⟨h2, h3, hl⟩ ih9
  dsimp only at h2 h3 hl
  refine lv_iload_n hx hb dX4_mean_9 rfl (lv_at hl 2 rfl) ?_
  refine lv_aload_n hx hb dX4_mean_10 rfl (lv_at hl 0 rfl) ?_
  refine x_get (v := .int (nI ch)) (C := RX4) (T := TX4) (N := 7) hx hb hts (by decide +kernel) hown hK hM.1 rfl 2 (by decide) (hts (.fieldLink RX4 23 "BellRanksModel" "changes" "I") (by decide +kernel)) (fun _ h9 => h9) rfl dX4_mean_11 ?_
  refine xn_icmp_ge (tgt := 32) hx hb dX4_mean_14 (by decide) (by omega) (by omega) (fun c14 => ?_) (fun c14 => ?_)
  · refine lv_aload_n hx hb dX4_mean_32 rfl (lv_at hl 0 rfl) ?_
    refine x_get (v := .int (nI ch)) (C := RX4) (T := TX4) (N := 7) hx hb hts (by decide +kernel) hown hK hM.1 rfl 2 (by decide) (hts (.fieldLink RX4 23 "BellRanksModel" "changes" "I") (by decide +kernel)) (fun _ h9 => h9) rfl dX4_mean_33 ?_
    refine xn_if_ne (tgt := 43) hx hb dX4_mean_36 (by decide) (by omega) (fun c36 => ?_) (fun c36 => ?_)
    · refine lv_iload_n hx hb dX4_mean_43 rfl (lv_at hl 1 rfl) ?_
      refine lv_i2d hx hb dX4_mean_44 ?_
      refine lv_aload_n hx hb dX4_mean_45 rfl (lv_at hl 0 rfl) ?_
      refine x_get (v := .int (nI ch)) (C := RX4) (T := TX4) (N := 7) hx hb hts (by decide +kernel) hown hK hM.1 rfl 2 (by decide) (hts (.fieldLink RX4 23 "BellRanksModel" "changes" "I") (by decide +kernel)) (fun _ h9 => h9) rfl dX4_mean_46 ?_
      refine lv_i2d hx hb dX4_mean_49 ?_
      refine lv_ddiv_any hd0 lw_bits hx hb dX4_mean_50 (fun r9 d9 hal hd0 => ?_)
      refine W.endD hd0 ?_
      have hmn : mnP (n, ch, pm, st, kf, rg) r9 := by
        unfold mnP
        rw [if_neg (show ¬ (n, ch, pm, st, kf, rg).2.1 = 0 from (show ¬ ch = 0 by omega))]
        rw [h3, show k = ch by omega] at hal
        exact hal
      refine W.widen (k := 900) (n := 7200) (by omega) (by omega) ?_
      exact x_mdret hx hb hr hlocks () hmn (xMW_mk (S := (n, ch, pm, st, kf, rg)) hM hbr hbb) hS (fun _ h => h) dX4_mean_51
    · refine lv_dconst0 hx hb dX4_mean_39 ?_
      refine lv_goto (tgt := 51) hx hb dX4_mean_40 (by decide) ?_
      refine W.endD hd0 ?_
      have hmn : mnP (n, ch, pm, st, kf, rg) FP.dconst0 := by unfold mnP; rw [if_pos (show (n, ch, pm, st, kf, rg).2.1 = 0 from (show ch = 0 by omega))]
      refine W.widen (k := 900) (n := 7200) (by omega) (by omega) ?_
      exact x_mdret hx hb hr hlocks () hmn (xMW_mk (S := (n, ch, pm, st, kf, rg)) hM hbr hbb) hS (fun _ h => h) dX4_mean_51
  · refine lv_iload_n hx hb dX4_mean_17 rfl (lv_at hl 1 rfl) ?_
    refine lv_aload_n hx hb dX4_mean_18 rfl (lv_at hl 0 rfl) ?_
    refine x_get (v := .ref bk) (C := RX4) (T := TX4) (N := 7) hx hb hts (by decide +kernel) hown hK hM.1 rfl 3 (by decide) (hts (.fieldLink RX4 13 "BellRanksModel" "book" "[I") (by decide +kernel)) (fun _ h9 => h9) rfl dX4_mean_19 ?_
    refine lv_iload_n hx hb dX4_mean_22 rfl (lv_at hl 2 rfl) ?_
    refine x_iald hx hb hK hM.2.1 (by omega) (by decide) dX4_mean_23 ?_
    refine xn_iadd hx hb dX4_mean_24 ?_
    refine lv_istore_n (lv' := [(1, .int (nI (L + (bf k)))), (0, .ref o), (2, .int (nI k))]) hx hb dX4_mean_25 rfl hl (by decide) rfl (fun ls hl => ?_)
    refine xn_iinc (v := k + 1) (lv' := [(2, .int (nI (k + 1))), (1, .int (nI (L + (bf k)))), (0, .ref o)]) hx hb dX4_mean_26 hl (k := 2) rfl (xinc1 _) (by decide) rfl (fun ls hl => ?_)
    refine lv_goto (tgt := 9) hx hb dX4_mean_29 (by decide) ?_
    exact ih9 (L + (bf k), k + 1) ls ⟨(by dsimp only; omega), (by dsimp only; rw [h3, hbr k (by omega)]; rfl), lv_sub hl [2, 1, 0] rfl⟩ (by dsimp only; omega)

