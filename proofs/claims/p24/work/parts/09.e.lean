/-! BELLRANKS: what cannot throw, and the checksum -/
section XZ
variable {p : Program} {l : Launch} {e : Env} {R : Room} {s : State} {m : MethodId} {args : Array Value} {below : List Frame} {meth : Method} {c : Code} {H : Heap} {locs : List Loc} {cells slots : Nat} {Q : State → Prop}
variable {mc ms : Nat} {free : Addr → Prop} {A0 A1 : Nat → Prop} {H0 : Heap} {pc : Nat} {ls : Array Slot} {st0 rest : List Value}
variable {D : va_G} {cI cC : ClassId} {P : Heap → Prop} {A2 : Nat → Prop} {y : MethodName} {bytes cc : ByteArray} {maxL nL n index : Nat} {ret : Option FieldType} {ws : List Cond} {rm : Room} {Ts : List Cond} {own C : String} {b : Addr} {As : List Value}
theorem xzI {S0 : Type} {post : Int32 → S0 → Prop} {F : S0 → Heap → Prop} (S : CallFix p m c cc nL s args Ts own) (hM : Met l y ws rm (va_Pc (.ref b :: As) (xBZ D cI cC P A2)) (xI post F A1) mc ms free) (cw : CallW R s args own C index y bytes maxL ret ws rm mc ms n) (hK : xK D cI cC s) (hZ : xZ A2 s H) (hP : P H) (hr : ∃ cellB : Cell, H[b]? = some cellB ∧ cellB.vm.isStatics = false ∧ s.vm.findClass C = some cellB.cls)
    (hn : As.length = n) (hl : ls.size = nL) (hst : st0 = As.reverse ++ .ref b :: rest) (hcat : (rest.map fun v => v.category).sum ≤ 8) (hdg : decode cc pc = .ok (.invokevirtual index, 3)) (hf : cells + mc ≤ R.cells ∧ slots + ms ≤ R.slots)
    (hS : va_S A0 H0 H locs) (hA : ∀ q, A1 q → A0 q) (hfr : ∀ q, free q → A0 q)
    (kk : ∀ (r : Int32) (u : S0) (H1 : Heap) (locs1 : List Loc), post r u → F u H1 → H.size ≤ H1.size → (∀ q : Nat, q < H.size → ¬ A1 q → H1[q]? = H[q]?) → va_S A0 H0 H1 locs1 → W p l e R s m args below meth c H1 locs1 (cells + mc) (slots + ms) Q (F0 m (pc + 3) ls (.int r :: rest))) : W p l e R s m args below meth c H locs cells slots Q (F0 m pc ls st0) :=
  va_calli (va_runV S hM cw (xZPV hK hZ hP hr) rfl hn hl hst (lv_room hcat) hdg hf) hS (fun q _ h => hA q h) hfr (fun r u t H1 locs1 ht _ hp hF hz hk hS1 => kk r u H1 locs1 hp (ht ▸ hF) hz hk hS1)
end XZ
set_option maxRecDepth 100000 in
set_option maxHeartbeats 4000000 in
theorem okBell_ (l : Launch) (hst9 : l.stackTraces = false) (D : va_G) (cI cC : ClassId) (ad : Nat → Nat) (hj : xInj ad) (S : AS) (hI : AI S) (x : Int32) (y : Int32) (hT : tBell S x y = 0) : Met l yX3_bell wsX3_bell (xRm 14 2 12) (va_Pc [.ref (ad 0), .int x, .int y] (xBZ D cI cC (xXW D cI cC ad S) (xAD ad))) (xI (fun r (_ : Unit) => r = rBell S x y) (fun _ H => xXW D cI cC ad (S) H) (xAD ad)) 2 12 (xAD ad) := by
  obtain ⟨n, ch, pm, st, kf, rg⟩ := S
  obtain ⟨⟨hn2, hn8⟩, hch, hst, hpm8, hpm, hkv, hkb⟩ := id hI
  dsimp only at hn2 hn8 hch hst hpm8 hpm hkv hkb
  refine Met.ofW (cc := cX3_bell) (maxL := 4) (ret := (some .int)) (by decide) rfl ?_
  intro p e s m args below meth c s₁ B hml hv
  obtain ⟨rfl, hP, hK, hZ⟩ := hv
  have hx := B.exec
  have hb := B.bytes
  have hr := B.returns
  have hts := atoms_spec (ws := wsX3_bell) B.pre
  have hown : s.vm.findClass RX3 = some m.cls := findClass_of_methodNamed B.named
  have hlocks := B.notSynchronized
  have hW := hP
  have hl := lv_entry ([.ref (ad 0), .int x, .int y]) (n := 4) (Nat.le_of_ble_eq_true rfl)
  rw [lg_entry_eq]
  generalize (lg_sl ([.ref (ad 0), .int x, .int y]) ++ List.replicate (4 - (lg_sl ([.ref (ad 0), .int x, .int y])).length) Slot.unset).toArray = ls at hl ⊢
  have hl : lv_has ls 4 [(0, .ref (ad 0)), (1, .int x), (2, .int y)] := hl
  obtain ⟨zr, zm, zs, fr, fm, fs, zf, hO, hBk, hMe, hRu, hfr, hMa, hfm, hRs, hCs, hz⟩ := id hW
  have hO : xXO D ad n ch rg s.heap := hO
  have hMe : xMe D cI (ad 2) (ad 3) st kf s.heap := hMe
  have hCs : xXC D cI ad zf pm s.heap := hCs
  have hz : ∀ k, k < ch → zf k = n := hz
  have hS : va_S (xAD ad) s.heap s.heap [] := va_S.rf
  refine lv_aload_n hx hb dX3_bell_0 rfl (lv_at hl 0 rfl) ?_
  refine lv_iload_n hx hb dX3_bell_1 rfl (lv_at hl 1 rfl) ?_
  refine xtR (As := [.int x]) (rest := []) ⟨hx, hb, hml, hown, hts⟩ (cX3_find_ l hst9 D cI cC ad _ n ch rg (by omega) x) (cwV 1 hts gX3_bell_X3_find rfl rfl rfl (by decide +kernel) ⟨Nat.le_of_ble_eq_true rfl, Nat.le_of_ble_eq_true rfl⟩) hK ((hZ.kept hS.2.1).narrow (fun q h => h.elim)) ⟨rfl, hO, hBk⟩ (xRecv hK rfl hO) rfl hl.1 rfl (Nat.le_of_ble_eq_true rfl) dX3_bell_2 ⟨(by show 0 + 1 ≤ 2; omega), (by show 0 + 6 ≤ 12; omega)⟩ hS (fun q h => h.elim) (fun q h => h.elim) (fun E ce q9 H1 locs1 hB hz9 hk9 hS h1 h2 h3 => ?_) (fun u ra H1 locs1 hp hF hz9 hk2 hS => ?_)
  · obtain ⟨rfl, hn⟩ := hB
    exact absurd (hT.symm.trans (show tBell (n, ch, pm, st, kf, rg) x y = 1 from if_neg (fun z => hn z.1))) (by decide)
  obtain ⟨rfl, hra⟩ := hF
  have hi2 := hp
  obtain ⟨j1, hj1, hj1b, rfl⟩ := inR_of hp
  rw [xN_nI hj1b] at hra
  subst hra
  have hl : lv_has ls 4 [(0, .ref (ad 0)), (1, .int (nI j1)), (2, .int y)] := hl
  have hC1 : xCh D cI (ad (10 + j1)) (ad (26 + j1)) n (pm j1) s.heap := xXC_at hCs (show j1 < 16 by omega) (hz j1 hj1)
  refine lv_astore_n (lv' := [(3, .ref (ad (10 + j1))), (0, .ref (ad 0)), (1, .int (nI j1)), (2, .int y)]) hx hb dX3_bell_5 rfl hl (by decide) rfl (fun ls hl => ?_)
  refine lv_aload_n hx hb dX3_bell_6 rfl (lv_at hl 1 rfl) ?_
  refine lv_iload_n hx hb dX3_bell_7 rfl (lv_at hl 3 rfl) ?_
  refine xtV (As := [.int y]) (rest := []) ⟨hx, hb, hml, hown, hts⟩ (cX3_checkPlace_ l hst9 D cI cC ad _ n ch rg hn8 y) (cwV 1 hts gX3_bell_X3_checkPlace rfl rfl rfl (by decide +kernel) ⟨Nat.le_of_ble_eq_true rfl, Nat.le_of_ble_eq_true rfl⟩) hK ((hZ.kept hS.2.1).narrow (fun q h => h.elim)) ⟨rfl, hO⟩ (xRecv hK rfl hO) rfl hl.1 rfl (Nat.le_of_ble_eq_true rfl) dX3_bell_8 ⟨(by show 0 + 1 + 1 ≤ 2; omega), (by show 0 + 6 + 6 ≤ 12; omega)⟩ hS (fun q h => h.elim) (fun q h => h.elim) (fun E ce q9 H1 locs1 hB hz9 hk9 hS h1 h2 h3 => ?_) (fun u H1 locs1 hp hF hz9 hk8 hS => ?_)
  · obtain ⟨rfl, hn⟩ := hB
    exact absurd (hT.symm.trans (show tBell (n, ch, pm, st, kf, rg) (nI j1) y = 1 from if_neg (fun z => hn z.2))) (by decide)
  obtain rfl := hF
  have hi8 := hp
  obtain ⟨j2, hj2, hj2b, rfl⟩ := inR_of hi8
  have hl : lv_has ls 4 [(3, .ref (ad (10 + j1))), (0, .ref (ad 0)), (1, .int (nI j1)), (2, .int (nI j2))] := hl
  refine lv_aload_n hx hb dX3_bell_11 rfl (lv_at hl 0 rfl) ?_
  refine lv_iload_n hx hb dX3_bell_12 rfl (lv_at hl 3 rfl) ?_
  refine xcV (As := [.int (nI j2)]) (rest := []) ⟨hx, hb, hml, hown, hts⟩ (cX0_bellAt_ l D cI cC (ad (10 + j1)) (ad (26 + j1)) n (pm j1) j2 (by omega)) (cwV 1 hts gX3_bell_X0_bellAt rfl rfl rfl (by decide +kernel) ⟨Nat.le_of_ble_eq_true rfl, Nat.le_of_ble_eq_true rfl⟩) hK hC1 (xRecv hK rfl hC1.1) rfl hl.1 rfl (Nat.le_of_ble_eq_true rfl) dX3_bell_13 ⟨(by show 0 + 1 + 1 ≤ 2; omega), (by show 0 + 6 + 6 ≤ 12; omega)⟩ (fun x13 e13 => ?_)
  subst e13
  refine W.widen (k := 2) (n := 12) (by omega) (by omega) ?_
  exact x_miret hx hb hr hlocks () (by show nI _ = rBell _ _ _; unfold rBell; simp only [xN_nI hj1b, xN_nI hj2b]) (xXW_mk (S := (n, ch, pm, st, kf, rg)) hO hBk hMe hRu hfr hMa hfm hRs hCs hz) hS (fun _ h => h) dX3_bell_16

set_option maxRecDepth 100000 in
set_option maxHeartbeats 4000000 in
theorem okTold_ (l : Launch) (hst9 : l.stackTraces = false) (D : va_G) (cI cC : ClassId) (ad : Nat → Nat) (hj : xInj ad) (S : AS) (hI : AI S) (x : Int32) (y : Int32) (hT : tTold S x y = 0) : Met l yX3_told wsX3_told (xRm 14 1 6) (va_Pc [.ref (ad 0), .int x, .int y] (xBZ D cI cC (xXW D cI cC ad S) (xAD ad))) (xI (fun r (_ : Unit) => r = rTold S x y) (fun _ H => xXW D cI cC ad (S) H) (xAD ad)) 1 6 (xAD ad) := by
  obtain ⟨n, ch, pm, st, kf, rg⟩ := S
  obtain ⟨⟨hn2, hn8⟩, hch, hst, hpm8, hpm, hkv, hkb⟩ := id hI
  dsimp only at hn2 hn8 hch hst hpm8 hpm hkv hkb
  refine Met.ofW (cc := cX3_told) (maxL := 4) (ret := (some .int)) (by decide) rfl ?_
  intro p e s m args below meth c s₁ B hml hv
  obtain ⟨rfl, hP, hK, hZ⟩ := hv
  have hx := B.exec
  have hb := B.bytes
  have hr := B.returns
  have hts := atoms_spec (ws := wsX3_told) B.pre
  have hown : s.vm.findClass RX3 = some m.cls := findClass_of_methodNamed B.named
  have hlocks := B.notSynchronized
  have hW := hP
  have hl := lv_entry ([.ref (ad 0), .int x, .int y]) (n := 4) (Nat.le_of_ble_eq_true rfl)
  rw [lg_entry_eq]
  generalize (lg_sl ([.ref (ad 0), .int x, .int y]) ++ List.replicate (4 - (lg_sl ([.ref (ad 0), .int x, .int y])).length) Slot.unset).toArray = ls at hl ⊢
  have hl : lv_has ls 4 [(0, .ref (ad 0)), (1, .int x), (2, .int y)] := hl
  obtain ⟨zr, zm, zs, fr, fm, fs, zf, hO, hBk, hMe, hRu, hfr, hMa, hfm, hRs, hCs, hz⟩ := id hW
  have hO : xXO D ad n ch rg s.heap := hO
  have hMe : xMe D cI (ad 2) (ad 3) st kf s.heap := hMe
  have hCs : xXC D cI ad zf pm s.heap := hCs
  have hz : ∀ k, k < ch → zf k = n := hz
  have hS : va_S (xAD ad) s.heap s.heap [] := va_S.rf
  refine lv_aload_n hx hb dX3_told_0 rfl (lv_at hl 0 rfl) ?_
  refine lv_iload_n hx hb dX3_told_1 rfl (lv_at hl 1 rfl) ?_
  refine xtR (As := [.int x]) (rest := []) ⟨hx, hb, hml, hown, hts⟩ (cX3_find_ l hst9 D cI cC ad _ n ch rg (by omega) x) (cwV 1 hts gX3_told_X3_find rfl rfl rfl (by decide +kernel) ⟨Nat.le_of_ble_eq_true rfl, Nat.le_of_ble_eq_true rfl⟩) hK ((hZ.kept hS.2.1).narrow (fun q h => h.elim)) ⟨rfl, hO, hBk⟩ (xRecv hK rfl hO) rfl hl.1 rfl (Nat.le_of_ble_eq_true rfl) dX3_told_2 ⟨(by show 0 + 1 ≤ 1; omega), (by show 0 + 6 ≤ 6; omega)⟩ hS (fun q h => h.elim) (fun q h => h.elim) (fun E ce q9 H1 locs1 hB hz9 hk9 hS h1 h2 h3 => ?_) (fun u ra H1 locs1 hp hF hz9 hk2 hS => ?_)
  · obtain ⟨rfl, hn⟩ := hB
    exact absurd (hT.symm.trans (show tTold (n, ch, pm, st, kf, rg) x y = 1 from if_neg (fun z => hn z.1))) (by decide)
  obtain ⟨rfl, hra⟩ := hF
  have hi2 := hp
  obtain ⟨j1, hj1, hj1b, rfl⟩ := inR_of hp
  rw [xN_nI hj1b] at hra
  subst hra
  have hl : lv_has ls 4 [(0, .ref (ad 0)), (1, .int (nI j1)), (2, .int y)] := hl
  have hC1 : xCh D cI (ad (10 + j1)) (ad (26 + j1)) n (pm j1) s.heap := xXC_at hCs (show j1 < 16 by omega) (hz j1 hj1)
  refine lv_astore_n (lv' := [(3, .ref (ad (10 + j1))), (0, .ref (ad 0)), (1, .int (nI j1)), (2, .int y)]) hx hb dX3_told_5 rfl hl (by decide) rfl (fun ls hl => ?_)
  refine lv_iload_n hx hb dX3_told_6 rfl (lv_at hl 3 rfl) ?_
  by_cases hy : inR y 8
  · obtain ⟨w, hw, hwb, rfl⟩ := inR_of hy
    have hl : lv_has ls 4 [(3, .ref (ad (10 + j1))), (0, .ref (ad 0)), (1, .int (nI j1)), (2, .int (nI w))] := hl
    rcases (show w = 0 ∨ w = 1 ∨ w = 2 ∨ w = 3 ∨ w = 4 ∨ w = 5 ∨ w = 6 ∨ w = 7 by omega) with rfl | rfl | rfl | rfl | rfl | rfl | rfl | rfl
    · refine lv_tableIn (off := 45) (tgt := 52) hx hb dX3_told_7 (by decide) (by decide) rfl (by decide) ?_
      have hl : lv_has ls 4 [(3, .ref (ad (10 + j1))), (0, .ref (ad 0)), (1, .int (nI j1)), (2, .int (nI 0))] := hl
      refine lv_aload_n hx hb dX3_told_52 rfl (lv_at hl 0 rfl) ?_
      refine xcV (As := []) (rest := []) ⟨hx, hb, hml, hown, hts⟩ (cX0_rank_ l D cI cC (ad (10 + j1)) (ad (26 + j1)) n (pm j1) hn8 (fun i9 => Nat.lt_trans ((hpm8 j1) i9) (by decide))) (cwV 0 hts gX3_told_X0_rank rfl rfl rfl (by decide +kernel) ⟨Nat.le_of_ble_eq_true rfl, Nat.le_of_ble_eq_true rfl⟩) hK hC1 (xRecv hK rfl hC1.1) rfl hl.1 rfl (Nat.le_of_ble_eq_true rfl) dX3_told_53 ⟨(by show 0 + 1 ≤ 1; omega), (by show 0 + 6 ≤ 6; omega)⟩ (fun x53 e53 => ?_)
      subst e53
      refine W.widen (k := 1) (n := 6) (by omega) (by omega) ?_
      exact x_miret hx hb hr hlocks () (by show nI _ = rTold _ _ _; unfold rTold; simp only [xN_nI hj1b, xN_nI (show 0 < 2 ^ 31 by decide)]; rfl) (xXW_mk (S := (n, ch, pm, st, kf, rg)) hO hBk hMe hRu hfr hMa hfm hRs hCs hz) hS (fun _ h => h) dX3_told_56
    · refine lv_tableIn (off := 50) (tgt := 57) hx hb dX3_told_7 (by decide) (by decide) rfl (by decide) ?_
      have hl : lv_has ls 4 [(3, .ref (ad (10 + j1))), (0, .ref (ad 0)), (1, .int (nI j1)), (2, .int (nI 1))] := hl
      refine lv_aload_n hx hb dX3_told_57 rfl (lv_at hl 0 rfl) ?_
      refine xcV (As := []) (rest := []) ⟨hx, hb, hml, hown, hts⟩ (cX0_inversions_ l D cI cC (ad (10 + j1)) (ad (26 + j1)) n (pm j1) hn8 (fun i9 => Nat.lt_trans ((hpm8 j1) i9) (by decide))) (cwV 0 hts gX3_told_X0_inversions rfl rfl rfl (by decide +kernel) ⟨Nat.le_of_ble_eq_true rfl, Nat.le_of_ble_eq_true rfl⟩) hK hC1 (xRecv hK rfl hC1.1) rfl hl.1 rfl (Nat.le_of_ble_eq_true rfl) dX3_told_58 ⟨(by show 0 + 1 ≤ 1; omega), (by show 0 + 6 ≤ 6; omega)⟩ (fun x58 e58 => ?_)
      subst e58
      refine W.widen (k := 1) (n := 6) (by omega) (by omega) ?_
      exact x_miret hx hb hr hlocks () (by show nI _ = rTold _ _ _; unfold rTold; simp only [xN_nI hj1b, xN_nI (show 1 < 2 ^ 31 by decide)]; rfl) (xXW_mk (S := (n, ch, pm, st, kf, rg)) hO hBk hMe hRu hfr hMa hfm hRs hCs hz) hS (fun _ h => h) dX3_told_61
    · refine lv_tableIn (off := 55) (tgt := 62) hx hb dX3_told_7 (by decide) (by decide) rfl (by decide) ?_
      have hl : lv_has ls 4 [(3, .ref (ad (10 + j1))), (0, .ref (ad 0)), (1, .int (nI j1)), (2, .int (nI 2))] := hl
      refine lv_aload_n hx hb dX3_told_62 rfl (lv_at hl 0 rfl) ?_
      refine xcV (As := []) (rest := []) ⟨hx, hb, hml, hown, hts⟩ (cX0_inversions_ l D cI cC (ad (10 + j1)) (ad (26 + j1)) n (pm j1) hn8 (fun i9 => Nat.lt_trans ((hpm8 j1) i9) (by decide))) (cwV 0 hts gX3_told_X0_inversions rfl rfl rfl (by decide +kernel) ⟨Nat.le_of_ble_eq_true rfl, Nat.le_of_ble_eq_true rfl⟩) hK hC1 (xRecv hK rfl hC1.1) rfl hl.1 rfl (Nat.le_of_ble_eq_true rfl) dX3_told_63 ⟨(by show 0 + 1 ≤ 1; omega), (by show 0 + 6 ≤ 6; omega)⟩ (fun x63 e63 => ?_)
      subst e63
      refine xn_iconst (v := 1) hx hb dX3_told_66 (by decide) ?_
      refine lv_iand hx hb dX3_told_67 ?_
      refine xz_i (xand1 (Nat.lt_of_le_of_lt (ivs_le _ _) (by have h9 : n * n ≤ 8 * 8 := Nat.mul_le_mul hn8 hn8; omega))) ?_
      refine W.widen (k := 1) (n := 6) (by omega) (by omega) ?_
      exact x_miret hx hb hr hlocks () (by show nI _ = rTold _ _ _; unfold rTold; simp only [xN_nI hj1b, xN_nI (show 2 < 2 ^ 31 by decide)]; rfl) (xXW_mk (S := (n, ch, pm, st, kf, rg)) hO hBk hMe hRu hfr hMa hfm hRs hCs hz) hS (fun _ h => h) dX3_told_68
    · refine lv_tableIn (off := 62) (tgt := 69) hx hb dX3_told_7 (by decide) (by decide) rfl (by decide) ?_
      have hl : lv_has ls 4 [(3, .ref (ad (10 + j1))), (0, .ref (ad 0)), (1, .int (nI j1)), (2, .int (nI 3))] := hl
      refine lv_aload_n hx hb dX3_told_69 rfl (lv_at hl 0 rfl) ?_
      refine xcV (As := []) (rest := []) ⟨hx, hb, hml, hown, hts⟩ (cX0_ringCount_ l D cI cC (ad (10 + j1)) (ad (26 + j1)) n (pm j1) hn8 (hpm8 j1)) (cwV 0 hts gX3_told_X0_ringCount rfl rfl rfl (by decide +kernel) ⟨Nat.le_of_ble_eq_true rfl, Nat.le_of_ble_eq_true rfl⟩) hK hC1 (xRecv hK rfl hC1.1) rfl hl.1 rfl (Nat.le_of_ble_eq_true rfl) dX3_told_70 ⟨(by show 0 + 1 ≤ 1; omega), (by show 0 + 6 ≤ 6; omega)⟩ (fun x70 e70 => ?_)
      subst e70
      refine W.widen (k := 1) (n := 6) (by omega) (by omega) ?_
      exact x_miret hx hb hr hlocks () (by show nI _ = rTold _ _ _; unfold rTold; simp only [xN_nI hj1b, xN_nI (show 3 < 2 ^ 31 by decide)]; rfl) (xXW_mk (S := (n, ch, pm, st, kf, rg)) hO hBk hMe hRu hfr hMa hfm hRs hCs hz) hS (fun _ h => h) dX3_told_73
    · refine lv_tableIn (off := 67) (tgt := 74) hx hb dX3_told_7 (by decide) (by decide) rfl (by decide) ?_
      have hl : lv_has ls 4 [(3, .ref (ad (10 + j1))), (0, .ref (ad 0)), (1, .int (nI j1)), (2, .int (nI 4))] := hl
      refine lv_aload_n hx hb dX3_told_74 rfl (lv_at hl 0 rfl) ?_
      refine xcV (As := []) (rest := []) ⟨hx, hb, hml, hown, hts⟩ (cX0_longestRing_ l D cI cC (ad (10 + j1)) (ad (26 + j1)) n (pm j1) hn8 (hpm8 j1)) (cwV 0 hts gX3_told_X0_longestRing rfl rfl rfl (by decide +kernel) ⟨Nat.le_of_ble_eq_true rfl, Nat.le_of_ble_eq_true rfl⟩) hK hC1 (xRecv hK rfl hC1.1) rfl hl.1 rfl (Nat.le_of_ble_eq_true rfl) dX3_told_75 ⟨(by show 0 + 1 ≤ 1; omega), (by show 0 + 6 ≤ 6; omega)⟩ (fun x75 e75 => ?_)
      subst e75
      refine W.widen (k := 1) (n := 6) (by omega) (by omega) ?_
      exact x_miret hx hb hr hlocks () (by show nI _ = rTold _ _ _; unfold rTold; simp only [xN_nI hj1b, xN_nI (show 4 < 2 ^ 31 by decide)]; rfl) (xXW_mk (S := (n, ch, pm, st, kf, rg)) hO hBk hMe hRu hfr hMa hfm hRs hCs hz) hS (fun _ h => h) dX3_told_78
    · refine lv_tableIn (off := 72) (tgt := 79) hx hb dX3_told_7 (by decide) (by decide) rfl (by decide) ?_
      have hl : lv_has ls 4 [(3, .ref (ad (10 + j1))), (0, .ref (ad 0)), (1, .int (nI j1)), (2, .int (nI 5))] := hl
      refine lv_aload_n hx hb dX3_told_79 rfl (lv_at hl 0 rfl) ?_
      refine xcV (As := []) (rest := []) ⟨hx, hb, hml, hown, hts⟩ (cX0_order_ l D cI cC (ad (10 + j1)) (ad (26 + j1)) n (pm j1) hn8 (hpm8 j1) (fun i9 h9 => Nat.lt_trans (ord_ok hn8 i9 h9).2.1 (by decide))) (cwV 0 hts gX3_told_X0_order rfl rfl rfl (by decide +kernel) ⟨Nat.le_of_ble_eq_true rfl, Nat.le_of_ble_eq_true rfl⟩) hK hC1 (xRecv hK rfl hC1.1) rfl hl.1 rfl (Nat.le_of_ble_eq_true rfl) dX3_told_80 ⟨(by show 0 + 1 ≤ 1; omega), (by show 0 + 6 ≤ 6; omega)⟩ (fun x80 e80 => ?_)
      subst e80
      refine W.widen (k := 1) (n := 6) (by omega) (by omega) ?_
      exact x_miret hx hb hr hlocks () (by show nI _ = rTold _ _ _; unfold rTold; simp only [xN_nI hj1b, xN_nI (show 5 < 2 ^ 31 by decide)]; rfl) (xXW_mk (S := (n, ch, pm, st, kf, rg)) hO hBk hMe hRu hfr hMa hfm hRs hCs hz) hS (fun _ h => h) dX3_told_83
    · refine lv_tableIn (off := 77) (tgt := 84) hx hb dX3_told_7 (by decide) (by decide) rfl (by decide) ?_
      have hl : lv_has ls 4 [(3, .ref (ad (10 + j1))), (0, .ref (ad 0)), (1, .int (nI j1)), (2, .int (nI 6))] := hl
      refine lv_aload_n hx hb dX3_told_84 rfl (lv_at hl 0 rfl) ?_
      refine xcV (As := []) (rest := []) ⟨hx, hb, hml, hown, hts⟩ (cX0_ownPlaces_ l D cI cC (ad (10 + j1)) (ad (26 + j1)) n (pm j1) hn8 (fun i9 => Nat.lt_trans ((hpm8 j1) i9) (by decide))) (cwV 0 hts gX3_told_X0_ownPlaces rfl rfl rfl (by decide +kernel) ⟨Nat.le_of_ble_eq_true rfl, Nat.le_of_ble_eq_true rfl⟩) hK hC1 (xRecv hK rfl hC1.1) rfl hl.1 rfl (Nat.le_of_ble_eq_true rfl) dX3_told_85 ⟨(by show 0 + 1 ≤ 1; omega), (by show 0 + 6 ≤ 6; omega)⟩ (fun x85 e85 => ?_)
      subst e85
      refine W.widen (k := 1) (n := 6) (by omega) (by omega) ?_
      exact x_miret hx hb hr hlocks () (by show nI _ = rTold _ _ _; unfold rTold; simp only [xN_nI hj1b, xN_nI (show 6 < 2 ^ 31 by decide)]; rfl) (xXW_mk (S := (n, ch, pm, st, kf, rg)) hO hBk hMe hRu hfr hMa hfm hRs hCs hz) hS (fun _ h => h) dX3_told_88
    · refine lv_tableIn (off := 82) (tgt := 89) hx hb dX3_told_7 (by decide) (by decide) rfl (by decide) ?_
      have hl : lv_has ls 4 [(3, .ref (ad (10 + j1))), (0, .ref (ad 0)), (1, .int (nI j1)), (2, .int (nI 7))] := hl
      refine lv_aload_n hx hb dX3_told_89 rfl (lv_at hl 0 rfl) ?_
      refine xn_iconst (v := 0) hx hb dX3_told_90 (by decide) ?_
      refine xcV (As := [.int (nI 0)]) (rest := []) ⟨hx, hb, hml, hown, hts⟩ (cX0_placeOf_ l D cI cC (ad (10 + j1)) (ad (26 + j1)) n (pm j1) hn8 (fun i9 => Nat.lt_trans ((hpm8 j1) i9) (by decide)) 0 (by decide)) (cwV 1 hts gX3_told_X0_placeOf rfl rfl rfl (by decide +kernel) ⟨Nat.le_of_ble_eq_true rfl, Nat.le_of_ble_eq_true rfl⟩) hK hC1 (xRecv hK rfl hC1.1) rfl hl.1 rfl (Nat.le_of_ble_eq_true rfl) dX3_told_91 ⟨(by show 0 + 1 ≤ 1; omega), (by show 0 + 6 ≤ 6; omega)⟩ (fun x91 e91 => ?_)
      subst e91
      refine W.widen (k := 1) (n := 6) (by omega) (by omega) ?_
      exact x_miret hx hb hr hlocks () (by show nI _ = rTold _ _ _; unfold rTold; simp only [xN_nI hj1b, xN_nI (show 7 < 2 ^ 31 by decide)]; rfl) (xXW_mk (S := (n, ch, pm, st, kf, rg)) hO hBk hMe hRu hfr hMa hfm hRs hCs hz) hS (fun _ h => h) dX3_told_94
  have hn := hy
  exact absurd (hT.symm.trans (show tTold (n, ch, pm, st, kf, rg) (nI j1) y = 1 from if_neg (fun z => hn z.2))) (by decide)

set_option maxRecDepth 100000 in
set_option maxHeartbeats 4000000 in
theorem okCount_ (l : Launch) (hst9 : l.stackTraces = false) (D : va_G) (cI cC : ClassId) (ad : Nat → Nat) (hj : xInj ad) (S : AS) (hI : AI S) (x : Int32) (hT : tCount S x = 0) : Met l yX3_count wsX3_count (xRm 14 0 0) (va_Pc [.ref (ad 0), .int x] (xBZ D cI cC (xXW D cI cC ad S) (xAD ad))) (xI (fun r (_ : Unit) => r = rCount S x) (fun _ H => xXW D cI cC ad (S) H) (xAD ad)) 0 0 (xAD ad) := by
  obtain ⟨n, ch, pm, st, kf, rg⟩ := S
  obtain ⟨⟨hn2, hn8⟩, hch, hst, hpm8, hpm, hkv, hkb⟩ := id hI
  dsimp only at hn2 hn8 hch hst hpm8 hpm hkv hkb
  refine Met.ofW (cc := cX3_count) (maxL := 2) (ret := (some .int)) (by decide) rfl ?_
  intro p e s m args below meth c s₁ B hml hv
  obtain ⟨rfl, hP, hK, hZ⟩ := hv
  have hx := B.exec
  have hb := B.bytes
  have hr := B.returns
  have hts := atoms_spec (ws := wsX3_count) B.pre
  have hown : s.vm.findClass RX3 = some m.cls := findClass_of_methodNamed B.named
  have hlocks := B.notSynchronized
  have hW := hP
  have hl := lv_entry ([.ref (ad 0), .int x]) (n := 2) (Nat.le_of_ble_eq_true rfl)
  rw [lg_entry_eq]
  generalize (lg_sl ([.ref (ad 0), .int x]) ++ List.replicate (2 - (lg_sl ([.ref (ad 0), .int x])).length) Slot.unset).toArray = ls at hl ⊢
  have hl : lv_has ls 2 [(0, .ref (ad 0)), (1, .int x)] := hl
  obtain ⟨zr, zm, zs, fr, fm, fs, zf, hO, hBk, hMe, hRu, hfr, hMa, hfm, hRs, hCs, hz⟩ := id hW
  have hO : xXO D ad n ch rg s.heap := hO
  have hMe : xMe D cI (ad 2) (ad 3) st kf s.heap := hMe
  have hCs : xXC D cI ad zf pm s.heap := hCs
  have hz : ∀ k, k < ch → zf k = n := hz
  have hS : va_S (xAD ad) s.heap s.heap [] := va_S.rf
  refine lv_iload_n hx hb dX3_count_0 rfl (lv_at hl 1 rfl) ?_
  by_cases hy : inR x 6
  · obtain ⟨w, hw, hwb, rfl⟩ := inR_of hy
    have hl : lv_has ls 2 [(0, .ref (ad 0)), (1, .int (nI w))] := hl
    rcases (show w = 0 ∨ w = 1 ∨ w = 2 ∨ w = 3 ∨ w = 4 ∨ w = 5 by omega) with rfl | rfl | rfl | rfl | rfl | rfl
    · refine lv_tableIn (off := 39) (tgt := 40) hx hb dX3_count_1 (by decide) (by decide) rfl (by decide) ?_
      have hl : lv_has ls 2 [(0, .ref (ad 0)), (1, .int (nI 0))] := hl
      refine lv_aload_n hx hb dX3_count_40 rfl (lv_at hl 0 rfl) ?_
      refine x_get (v := .int (nI n)) (C := RX3) (T := TX3) (N := 8) hx hb hts (by decide +kernel) hown hK hO rfl 5 (by decide) (hts (.fieldLink RX3 37 "BellRanks" "bells" "I") (by decide +kernel)) (fun _ h9 => h9) rfl dX3_count_41 ?_
      refine W.widen (k := 0) (n := 0) (by omega) (by omega) ?_
      exact x_miret hx hb hr hlocks () (by show nI _ = rCount _ _; unfold rCount; simp only [xN_nI (show 0 < 2 ^ 31 by decide)]; rfl) (xXW_mk (S := (n, ch, pm, st, kf, rg)) hO hBk hMe hRu hfr hMa hfm hRs hCs hz) hS (fun _ h => h) dX3_count_44
    · refine lv_tableIn (off := 44) (tgt := 45) hx hb dX3_count_1 (by decide) (by decide) rfl (by decide) ?_
      have hl : lv_has ls 2 [(0, .ref (ad 0)), (1, .int (nI 1))] := hl
      refine lv_aload_n hx hb dX3_count_45 rfl (lv_at hl 0 rfl) ?_
      refine x_get (v := .int (nI n)) (C := RX3) (T := TX3) (N := 8) hx hb hts (by decide +kernel) hown hK hO rfl 5 (by decide) (hts (.fieldLink RX3 37 "BellRanks" "bells" "I") (by decide +kernel)) (fun _ h9 => h9) rfl dX3_count_46 ?_
      refine xcS (As := [.int (nI n)]) (rest := []) ⟨hx, hb, hml, hown, hts⟩ (cX3_changesOf_ l D cI cC n (by omega) (by omega)) (va_cwS 1 hts gX3_count_X3_changesOf rfl rfl rfl (by decide +kernel) ⟨Nat.le_of_ble_eq_true rfl, Nat.le_of_ble_eq_true rfl⟩) hK trivial rfl hl.1 rfl (Nat.le_of_ble_eq_true rfl) dX3_count_49 ⟨(by show 0 ≤ 0; omega), (by show 0 ≤ 0; omega)⟩ (fun x49 e49 => ?_)
      subst e49
      refine W.widen (k := 0) (n := 0) (by omega) (by omega) ?_
      exact x_miret hx hb hr hlocks () (by show nI _ = rCount _ _; unfold rCount; simp only [xN_nI (show 1 < 2 ^ 31 by decide)]; rfl) (xXW_mk (S := (n, ch, pm, st, kf, rg)) hO hBk hMe hRu hfr hMa hfm hRs hCs hz) hS (fun _ h => h) dX3_count_52
    · refine lv_tableIn (off := 52) (tgt := 53) hx hb dX3_count_1 (by decide) (by decide) rfl (by decide) ?_
      have hl : lv_has ls 2 [(0, .ref (ad 0)), (1, .int (nI 2))] := hl
      refine lv_aload_n hx hb dX3_count_53 rfl (lv_at hl 0 rfl) ?_
      refine x_get (v := .int (nI ch)) (C := RX3) (T := TX3) (N := 8) hx hb hts (by decide +kernel) hown hK hO rfl 6 (by decide) (hts (.fieldLink RX3 41 "BellRanks" "written" "I") (by decide +kernel)) (fun _ h9 => h9) rfl dX3_count_54 ?_
      refine W.widen (k := 0) (n := 0) (by omega) (by omega) ?_
      exact x_miret hx hb hr hlocks () (by show nI _ = rCount _ _; unfold rCount; simp only [xN_nI (show 2 < 2 ^ 31 by decide)]; rfl) (xXW_mk (S := (n, ch, pm, st, kf, rg)) hO hBk hMe hRu hfr hMa hfm hRs hCs hz) hS (fun _ h => h) dX3_count_57
    · refine lv_tableIn (off := 57) (tgt := 58) hx hb dX3_count_1 (by decide) (by decide) rfl (by decide) ?_
      have hl : lv_has ls 2 [(0, .ref (ad 0)), (1, .int (nI 3))] := hl
      refine lv_aload_n hx hb dX3_count_58 rfl (lv_at hl 0 rfl) ?_
      refine xmI (As := []) (rest := []) ⟨hx, hb, hml, hown, hts⟩ (cX3_differentInBook_ l D cI cC ad hj n ch rg zs fs zf pm hn8 (by omega) hpm8 hz) (cwV 0 hts gX3_count_X3_differentInBook rfl rfl rfl (by decide +kernel) ⟨Nat.le_of_ble_eq_true rfl, Nat.le_of_ble_eq_true rfl⟩) hK ⟨hO, hBk, hRs, hCs⟩ (xRecv hK rfl hO) rfl hl.1 rfl (Nat.le_of_ble_eq_true rfl) dX3_count_59 ⟨(by show 0 + 0 ≤ 0; omega), (by show 0 + 0 ≤ 0; omega)⟩ hS (fun q h => h.elim (fun h => ⟨8, by omega, h⟩) (fun h => ⟨9, by omega, h⟩)) (fun q h => h.elim (fun h => ⟨8, by omega, h⟩) (fun h => ⟨9, by omega, h⟩)) (fun x59 u59 H1 locs1 hp59 hF59 hz59 hk59 hS => ?_)
      have hO : xXO D ad n ch rg H1 := xat_keep hO hk59 (fun z => z.elim (xne hj (by omega) (by omega) (by omega)) (xne hj (by omega) (by omega) (by omega)))
      have hBk : xXB D cC ad H1 := xat_keep hBk hk59 (fun z => z.elim (xne hj (by omega) (by omega) (by omega)) (xne hj (by omega) (by omega) (by omega)))
      have hMe : xMe D cI (ad 2) (ad 3) st kf H1 := xMe_keep hMe hk59 (fun z => z.elim (xne hj (by omega) (by omega) (by omega)) (xne hj (by omega) (by omega) (by omega))) (fun z => z.elim (xne hj (by omega) (by omega) (by omega)) (xne hj (by omega) (by omega) (by omega)))
      have hRu : xCh D cI (ad 4) (ad 5) zr fr H1 := xCh_keep hRu hk59 (fun z => z.elim (xne hj (by omega) (by omega) (by omega)) (xne hj (by omega) (by omega) (by omega))) (fun z => z.elim (xne hj (by omega) (by omega) (by omega)) (xne hj (by omega) (by omega) (by omega)))
      have hMa : xCh D cI (ad 6) (ad 7) zm fm H1 := xCh_keep hMa hk59 (fun z => z.elim (xne hj (by omega) (by omega) (by omega)) (xne hj (by omega) (by omega) (by omega))) (fun z => z.elim (xne hj (by omega) (by omega) (by omega)) (xne hj (by omega) (by omega) (by omega)))
      have hCs : xXC D cI ad zf pm H1 := xXC_keep hCs hk59 (fun i hi1 hi2 => (fun z => z.elim (xne hj (by omega) (by omega) (by omega)) (xne hj (by omega) (by omega) (by omega))))
      have hRs : xRs D cI (ad 8) (ad 9) u59.1 u59.2 H1 := hF59
      subst hp59
      refine W.widen (k := 0) (n := 0) (by omega) (by omega) ?_
      exact x_miret hx hb hr hlocks () (by show nI _ = rCount _ _; unfold rCount; simp only [xN_nI (show 3 < 2 ^ 31 by decide)]; rfl) (xXW_mk (S := (n, ch, pm, st, kf, rg)) hO hBk hMe hRu hfr hMa hfm hRs hCs hz) hS (fun _ h => h) dX3_count_62
    · refine lv_tableIn (off := 62) (tgt := 63) hx hb dX3_count_1 (by decide) (by decide) rfl (by decide) ?_
      have hl : lv_has ls 2 [(0, .ref (ad 0)), (1, .int (nI 4))] := hl
      refine lv_aload_n hx hb dX3_count_63 rfl (lv_at hl 0 rfl) ?_
      refine x_get (v := .ref (ad 2)) (C := RX3) (T := TX3) (N := 8) hx hb hts (by decide +kernel) hown hK hO rfl 1 (by decide) (hts (.fieldLink RX3 19 "BellRanks" "method" "LBellRanks$Method;") (by decide +kernel)) (fun _ h9 => h9) rfl dX3_count_64 ?_
      refine xcV (As := []) (rest := []) ⟨hx, hb, hml, hown, hts⟩ (cX1_length_ l D cI cC (ad 2) (ad 3) st kf) (cwV 0 hts gX3_count_X1_length rfl rfl rfl (by decide +kernel) ⟨Nat.le_of_ble_eq_true rfl, Nat.le_of_ble_eq_true rfl⟩) hK hMe (xRecv hK rfl hMe.1) rfl hl.1 rfl (Nat.le_of_ble_eq_true rfl) dX3_count_67 ⟨(by show 0 ≤ 0; omega), (by show 0 ≤ 0; omega)⟩ (fun x67 e67 => ?_)
      subst e67
      refine W.widen (k := 0) (n := 0) (by omega) (by omega) ?_
      exact x_miret hx hb hr hlocks () (by show nI _ = rCount _ _; unfold rCount; simp only [xN_nI (show 4 < 2 ^ 31 by decide)]; rfl) (xXW_mk (S := (n, ch, pm, st, kf, rg)) hO hBk hMe hRu hfr hMa hfm hRs hCs hz) hS (fun _ h => h) dX3_count_70
    · refine lv_tableIn (off := 70) (tgt := 71) hx hb dX3_count_1 (by decide) (by decide) rfl (by decide) ?_
      have hl : lv_has ls 2 [(0, .ref (ad 0)), (1, .int (nI 5))] := hl
      refine lv_aload_n hx hb dX3_count_71 rfl (lv_at hl 0 rfl) ?_
      refine x_get (v := .int (nI rg)) (C := RX3) (T := TX3) (N := 8) hx hb hts (by decide +kernel) hown hK hO rfl 7 (by decide) (hts (.fieldLink RX3 44 "BellRanks" "rungInAll" "I") (by decide +kernel)) (fun _ h9 => h9) rfl dX3_count_72 ?_
      refine W.widen (k := 0) (n := 0) (by omega) (by omega) ?_
      exact x_miret hx hb hr hlocks () (by show nI _ = rCount _ _; unfold rCount; simp only [xN_nI (show 5 < 2 ^ 31 by decide)]; rfl) (xXW_mk (S := (n, ch, pm, st, kf, rg)) hO hBk hMe hRu hfr hMa hfm hRs hCs hz) hS (fun _ h => h) dX3_count_75
  have hn := hy
  exact absurd (hT.symm.trans (show tCount (n, ch, pm, st, kf, rg) x = 1 from if_neg hn)) (by decide)

set_option maxRecDepth 100000 in
set_option maxHeartbeats 4000000 in
theorem okKept_ (l : Launch) (hst9 : l.stackTraces = false) (D : va_G) (cI cC : ClassId) (ad : Nat → Nat) (hj : xInj ad) (S : AS) (hI : AI S) (x : Int32) (hT : tKept S x = 0) : Met l yX3_kept wsX3_kept (xRm 14 0 0) (va_Pc [.ref (ad 0), .int x] (xBZ D cI cC (xXW D cI cC ad S) (xAD ad))) (xI (fun r (_ : Unit) => r = rKept S x) (fun _ H => xXW D cI cC ad (S) H) (xAD ad)) 0 0 (xAD ad) := by
  obtain ⟨n, ch, pm, st, kf, rg⟩ := S
  obtain ⟨⟨hn2, hn8⟩, hch, hst, hpm8, hpm, hkv, hkb⟩ := id hI
  dsimp only at hn2 hn8 hch hst hpm8 hpm hkv hkb
  refine Met.ofW (cc := cX3_kept) (maxL := 2) (ret := (some .int)) (by decide) rfl ?_
  intro p e s m args below meth c s₁ B hml hv
  obtain ⟨rfl, hP, hK, hZ⟩ := hv
  have hx := B.exec
  have hb := B.bytes
  have hr := B.returns
  have hts := atoms_spec (ws := wsX3_kept) B.pre
  have hown : s.vm.findClass RX3 = some m.cls := findClass_of_methodNamed B.named
  have hlocks := B.notSynchronized
  have hW := hP
  have hl := lv_entry ([.ref (ad 0), .int x]) (n := 2) (Nat.le_of_ble_eq_true rfl)
  rw [lg_entry_eq]
  generalize (lg_sl ([.ref (ad 0), .int x]) ++ List.replicate (2 - (lg_sl ([.ref (ad 0), .int x])).length) Slot.unset).toArray = ls at hl ⊢
  have hl : lv_has ls 2 [(0, .ref (ad 0)), (1, .int x)] := hl
  obtain ⟨zr, zm, zs, fr, fm, fs, zf, hO, hBk, hMe, hRu, hfr, hMa, hfm, hRs, hCs, hz⟩ := id hW
  have hO : xXO D ad n ch rg s.heap := hO
  have hMe : xMe D cI (ad 2) (ad 3) st kf s.heap := hMe
  have hCs : xXC D cI ad zf pm s.heap := hCs
  have hz : ∀ k, k < ch → zf k = n := hz
  have hS : va_S (xAD ad) s.heap s.heap [] := va_S.rf
  refine lv_iload_n hx hb dX3_kept_0 rfl (lv_at hl 1 rfl) ?_
  refine lv_if_lt (tgt := 15) hx hb dX3_kept_1 (by decide) (fun c1 => ?_) (fun c1 => ?_)
  · exact absurd (hT.symm.trans (show tKept (n, ch, pm, st, kf, rg) x = 1 from if_neg (fun z => z.1 c1))) (by decide)
  · refine lv_iload_n hx hb dX3_kept_4 rfl (lv_at hl 1 rfl) ?_
    refine lv_aload_n hx hb dX3_kept_5 rfl (lv_at hl 0 rfl) ?_
    refine x_get (v := .ref (ad 2)) (C := RX3) (T := TX3) (N := 8) hx hb hts (by decide +kernel) hown hK hO rfl 1 (by decide) (hts (.fieldLink RX3 19 "BellRanks" "method" "LBellRanks$Method;") (by decide +kernel)) (fun _ h9 => h9) rfl dX3_kept_6 ?_
    refine xcV (As := []) (rest := [.int x]) ⟨hx, hb, hml, hown, hts⟩ (cX1_length_ l D cI cC (ad 2) (ad 3) st kf) (cwV 0 hts gX3_kept_X1_length rfl rfl rfl (by decide +kernel) ⟨Nat.le_of_ble_eq_true rfl, Nat.le_of_ble_eq_true rfl⟩) hK hMe (xRecv hK rfl hMe.1) rfl hl.1 rfl (Nat.le_of_ble_eq_true rfl) dX3_kept_9 ⟨(by show 0 ≤ 0; omega), (by show 0 ≤ 0; omega)⟩ (fun x9 e9 => ?_)
    subst e9
    refine lv_icmp_lt (tgt := 25) hx hb dX3_kept_12 (by decide) (fun c12 => ?_) (fun c12 => ?_)
    · have hi : inR x st := (inR_ltI c1 (by omega)).mp c12
      obtain ⟨j1, hj1, hj1b, rfl⟩ := inR_of hi
      have hl : lv_has ls 2 [(0, .ref (ad 0)), (1, .int (nI j1))] := hl
      refine lv_aload_n hx hb dX3_kept_25 rfl (lv_at hl 0 rfl) ?_
      refine x_get (v := .ref (ad 2)) (C := RX3) (T := TX3) (N := 8) hx hb hts (by decide +kernel) hown hK hO rfl 1 (by decide) (hts (.fieldLink RX3 19 "BellRanks" "method" "LBellRanks$Method;") (by decide +kernel)) (fun _ h9 => h9) rfl dX3_kept_26 ?_
      refine lv_iload_n hx hb dX3_kept_29 rfl (lv_at hl 1 rfl) ?_
      refine xcV (As := [.int (nI j1)]) (rest := []) ⟨hx, hb, hml, hown, hts⟩ (cX1_keptAt_ l D cI cC (ad 2) (ad 3) st kf j1 (by omega)) (cwV 1 hts gX3_kept_X1_keptAt rfl rfl rfl (by decide +kernel) ⟨Nat.le_of_ble_eq_true rfl, Nat.le_of_ble_eq_true rfl⟩) hK hMe (xRecv hK rfl hMe.1) rfl hl.1 rfl (Nat.le_of_ble_eq_true rfl) dX3_kept_30 ⟨(by show 0 ≤ 0; omega), (by show 0 ≤ 0; omega)⟩ (fun x30 e30 => ?_)
      subst e30
      refine W.widen (k := 0) (n := 0) (by omega) (by omega) ?_
      exact x_miret hx hb hr hlocks () (by show nI _ = rKept _ _; unfold rKept; simp only [xN_nI hj1b]) (xXW_mk (S := (n, ch, pm, st, kf, rg)) hO hBk hMe hRu hfr hMa hfm hRs hCs hz) hS (fun _ h => h) dX3_kept_33
    · exact absurd (hT.symm.trans (show tKept (n, ch, pm, st, kf, rg) x = 1 from if_neg (fun z => c12 ((inR_ltI c1 (by omega)).mpr z)))) (by decide)

set_option maxRecDepth 100000 in
set_option maxHeartbeats 4000000 in
theorem kDigest_ (l : Launch) (hst9 : l.stackTraces = false) (D : va_G) (cI cC : ClassId) (ad : Nat → Nat) (hj : xInj ad) (S : AS) (hI : AI S) : Met l yX3_digest wsX3_digest (xRm 20 384 2304) (va_Pc [.ref (ad 0)] (xBZ D cI cC (xXW D cI cC ad S) (xAD ad))) (xL (fun r (_ : Unit) => r = dgS S) (fun _ H => xXW D cI cC ad (S) H) (xAD ad)) 384 2304 (xAD ad) := by
  obtain ⟨n, ch, pm, st, kf, rg⟩ := S
  obtain ⟨⟨hn2, hn8⟩, hch, hst, hpm8, hpm, hkv, hkb⟩ := id hI
  dsimp only at hn2 hn8 hch hst hpm8 hpm hkv hkb
  refine Met.ofW (cc := cX3_digest) (maxL := 5) (ret := (some .long)) (by decide) rfl ?_
  intro p e s m args below meth c s₁ B hml hv
  obtain ⟨rfl, hP, hK, hZ⟩ := hv
  have hx := B.exec
  have hb := B.bytes
  have hr := B.returns
  have hts := atoms_spec (ws := wsX3_digest) B.pre
  have hown : s.vm.findClass RX3 = some m.cls := findClass_of_methodNamed B.named
  have hlocks := B.notSynchronized
  have hW := hP
  have hl := lv_entry ([.ref (ad 0)]) (n := 5) (Nat.le_of_ble_eq_true rfl)
  rw [lg_entry_eq]
  generalize (lg_sl ([.ref (ad 0)]) ++ List.replicate (5 - (lg_sl ([.ref (ad 0)])).length) Slot.unset).toArray = ls at hl ⊢
  have hl : lv_has ls 5 [(0, .ref (ad 0))] := hl
  obtain ⟨zr, zm, zs, fr, fm, fs, zf, hO, hBk, hMe, hRu, hfr, hMa, hfm, hRs, hCs, hz⟩ := id hW
  have hO : xXO D ad n ch rg s.heap := hO
  have hMe : xMe D cI (ad 2) (ad 3) st kf s.heap := hMe
  have hCs : xXC D cI ad zf pm s.heap := hCs
  have hz : ∀ k, k < ch → zf k = n := hz
  have hS : va_S (xAD ad) s.heap s.heap [] := va_S.rf
  refine lv_ldc2 (v := 1579) hx hb hown (hts (.constantLong RX3 176 1579) (by decide +kernel)) dX3_digest_0 ?_
  refine lv_lstore_n (lv' := [(1, .long 1579), (0, .ref (ad 0))]) hx hb dX3_digest_3 rfl hl (by decide) rfl (fun ls hl => ?_)
  refine xn_iconst (v := 0) hx hb dX3_digest_4 (by decide) ?_
  refine lv_istore_n (lv' := [(3, .int (nI 0)), (1, .long 1579), (0, .ref (ad 0))]) hx hb dX3_digest_5 rfl hl (by decide) rfl (fun ls hl => ?_)
  refine x_loopH (σ := Int64 × Nat) (fun a => 6 - a.2) (fun a H locs cells slots ls => (a.2 ≤ 6) ∧ (a.1 = dgR (cvS (n, ch, pm, st, kf, rg)) 1579 a.2) ∧ (xXW D cI cC ad (n, ch, pm, st, kf, rg) H) ∧ (va_S (xAD ad) s.heap H locs) ∧ (cells ≤ 0) ∧ (slots ≤ 0) ∧ lv_has ls 5 [(0, .ref (ad 0)), (1, .long a.1), (3, .int (nI a.2))]) ?_ (1579, 0) _ _ _ _ ls ⟨(Nat.zero_le _), rfl, hW, hS, (by first | omega | (dsimp only; omega)), (by first | omega | (dsimp only; omega)), lv_sub hl [2, 1, 0] rfl⟩
  rintro ⟨d9, i⟩ H locs cells slots ls ⟨h2, h3, hW, hS, hce, hse, hl⟩ ih6
  dsimp only at h2 h3 hW hS hce hse hl
  have hW : xXW D cI cC ad (n, ch, pm, st, kf, rg) _ := hW
  obtain ⟨zr, zm, zs, fr, fm, fs, zf, hO, hBk, hMe, hRu, hfr, hMa, hfm, hRs, hCs, hz⟩ := id hW
  refine lv_iload_n hx hb dX3_digest_6 rfl (lv_at hl 2 rfl) ?_
  refine xn_bipush (v := 6) hx hb dX3_digest_7 (by decide) ?_
  refine xn_icmp_ge (tgt := 31) hx hb dX3_digest_9 (by decide) (by omega) (by decide) (fun c9 => ?_) (fun c9 => ?_)
  · refine xn_iconst (v := 0) hx hb dX3_digest_31 (by decide) ?_
    refine lv_istore_n (lv' := [(3, .int (nI 0)), (0, .ref (ad 0)), (1, .long d9)]) hx hb dX3_digest_32 rfl hl (by decide) rfl (fun ls hl => ?_)
    refine x_loopH (σ := Int64 × Nat) (fun a => ch - a.2) (fun a H locs cells slots ls => (a.2 ≤ ch) ∧ (a.1 = dgB (n, ch, pm, st, kf, rg) (dgR (cvS (n, ch, pm, st, kf, rg)) 1579 6) a.2) ∧ (xXW D cI cC ad (n, ch, pm, st, kf, rg) H) ∧ (va_S (xAD ad) s.heap H locs) ∧ (cells ≤ 24 * a.2) ∧ (slots ≤ 144 * a.2) ∧ lv_has ls 5 [(0, .ref (ad 0)), (1, .long a.1), (3, .int (nI a.2))]) ?_ (d9, 0) _ _ _ _ ls ⟨(Nat.zero_le _), (by dsimp only; rw [h3, show i = 6 by omega]; rfl), hW, hS, (by first | omega | (dsimp only; omega)), (by first | omega | (dsimp only; omega)), lv_sub hl [1, 2, 0] rfl⟩
    rintro ⟨d9, k⟩ H locs cells slots ls ⟨h2, h3, hW, hS, hce, hse, hl⟩ ih33
    dsimp only at h2 h3 hW hS hce hse hl
    have hW : xXW D cI cC ad (n, ch, pm, st, kf, rg) _ := hW
    obtain ⟨zr, zm, zs, fr, fm, fs, zf, hO, hBk, hMe, hRu, hfr, hMa, hfm, hRs, hCs, hz⟩ := id hW
    refine lv_iload_n hx hb dX3_digest_33 rfl (lv_at hl 2 rfl) ?_
    refine lv_aload_n hx hb dX3_digest_34 rfl (lv_at hl 0 rfl) ?_
    refine x_get (v := .int (nI ch)) (C := RX3) (T := TX3) (N := 8) hx hb hts (by decide +kernel) hown hK hO rfl 6 (by decide) (hts (.fieldLink RX3 41 "BellRanks" "written" "I") (by decide +kernel)) (fun _ h9 => h9) rfl dX3_digest_35 ?_
    refine xn_icmp_ge (tgt := 111) hx hb dX3_digest_38 (by decide) (by omega) (by omega) (fun c38 => ?_) (fun c38 => ?_)
    · refine xn_iconst (v := 0) hx hb dX3_digest_111 (by decide) ?_
      refine lv_istore_n (lv' := [(3, .int (nI 0)), (0, .ref (ad 0)), (1, .long d9)]) hx hb dX3_digest_112 rfl hl (by decide) rfl (fun ls hl => ?_)
      refine x_loopH (σ := Int64 × Nat) (fun a => st - a.2) (fun a H locs cells slots ls => (a.2 ≤ st) ∧ (a.1 = dgR kf (dgB (n, ch, pm, st, kf, rg) (dgR (cvS (n, ch, pm, st, kf, rg)) 1579 6) ch) a.2) ∧ (xXW D cI cC ad (n, ch, pm, st, kf, rg) H) ∧ (va_S (xAD ad) s.heap H locs) ∧ (cells ≤ 384) ∧ (slots ≤ 2304) ∧ lv_has ls 5 [(0, .ref (ad 0)), (1, .long a.1), (3, .int (nI a.2))]) ?_ (d9, 0) _ _ _ _ ls ⟨(Nat.zero_le _), (by dsimp only; rw [h3, show k = ch by omega]; rfl), hW, hS, (by first | omega | (dsimp only; omega)), (by first | omega | (dsimp only; omega)), lv_sub hl [1, 2, 0] rfl⟩
      rintro ⟨d9, j⟩ H locs cells slots ls ⟨h2, h6, hW, hS, hce, hse, hl⟩ ih113
      dsimp only at h2 h6 hW hS hce hse hl
      have hW : xXW D cI cC ad (n, ch, pm, st, kf, rg) _ := hW
      obtain ⟨zr, zm, zs, fr, fm, fs, zf, hO, hBk, hMe, hRu, hfr, hMa, hfm, hRs, hCs, hz⟩ := id hW
      refine lv_iload_n hx hb dX3_digest_113 rfl (lv_at hl 2 rfl) ?_
      refine lv_aload_n hx hb dX3_digest_114 rfl (lv_at hl 0 rfl) ?_
      refine x_get (v := .ref (ad 2)) (C := RX3) (T := TX3) (N := 8) hx hb hts (by decide +kernel) hown hK hO rfl 1 (by decide) (hts (.fieldLink RX3 19 "BellRanks" "method" "LBellRanks$Method;") (by decide +kernel)) (fun _ h9 => h9) rfl dX3_digest_115 ?_
      refine xcV (As := []) (rest := [.int (nI j)]) ⟨hx, hb, hml, hown, hts⟩ (cX1_length_ l D cI cC (ad 2) (ad 3) st kf) (cwV 0 hts gX3_digest_X1_length rfl rfl rfl (by decide +kernel) ⟨Nat.le_of_ble_eq_true rfl, Nat.le_of_ble_eq_true rfl⟩) hK hMe (xRecv hK rfl hMe.1) rfl hl.1 rfl (Nat.le_of_ble_eq_true rfl) dX3_digest_118 ⟨(by show cells ≤ 384; omega), (by show slots ≤ 2304; omega)⟩ (fun x118 e118 => ?_)
      subst e118
      refine xn_icmp_ge (tgt := 143) hx hb dX3_digest_121 (by decide) (by omega) (by omega) (fun c121 => ?_) (fun c121 => ?_)
      · refine lv_lload_n hx hb dX3_digest_143 rfl (lv_at hl 1 rfl) ?_
        refine W.widen (k := 384) (n := 2304) (by omega) (by omega) ?_
        exact x_mlret hx hb hr hlocks () (by rw [h6, show j = st by omega]; rfl) hW hS (fun _ h => h) dX3_digest_144
      · refine lv_lload_n hx hb dX3_digest_124 rfl (lv_at hl 1 rfl) ?_
        refine lv_ldc2 (v := 31) hx hb hown (hts (.constantLong RX3 178 31) (by decide +kernel)) dX3_digest_125 ?_
        refine lv_lmul hx hb dX3_digest_128 ?_
        refine lv_aload_n hx hb dX3_digest_129 rfl (lv_at hl 0 rfl) ?_
        refine lv_iload_n hx hb dX3_digest_130 rfl (lv_at hl 2 rfl) ?_
        refine xzI (As := [.int (nI j)]) (rest := [.long (d9 * 31)]) ⟨hx, hb, hml, hown, hts⟩ (okKept_ l hst9 D cI cC ad hj (n, ch, pm, st, kf, rg) hI (nI j) (show tKept (n, ch, pm, st, kf, rg) (nI j) = 0 from if_pos ((inR_nI (by omega)).mpr (by omega)))) (cwV 1 hts gX3_digest_X3_kept rfl rfl rfl (by decide +kernel) ⟨Nat.le_of_ble_eq_true rfl, Nat.le_of_ble_eq_true rfl⟩) hK (hZ.kept hS.2.1) hW (xRecv hK rfl hO) rfl hl.1 rfl (Nat.le_of_ble_eq_true rfl) dX3_digest_131 ⟨(by show cells + 0 ≤ 384; omega), (by show slots + 0 ≤ 2304; omega)⟩ hS (fun _ h => h) (fun _ h => h) (fun x131 u131 H1 locs1 hp131 hF hz9 hk9 hS => ?_)
        have e131 : x131 = nI (kf j) := hp131.trans (by show nI _ = nI _; simp only [xN_nI (show j < 2 ^ 31 by omega)])
        subst e131
        have hW : xXW D cI cC ad (n, ch, pm, st, kf, rg) _ := hF
        obtain ⟨zr, zm, zs, fr, fm, fs, zf, hO, hBk, hMe, hRu, hfr, hMa, hfm, hRs, hCs, hz⟩ := id hW
        refine lv_i2l hx hb dX3_digest_134 rfl ?_
        refine lv_ladd hx hb dX3_digest_135 ?_
        refine lv_lstore_n (lv' := [(1, .long ((d9 * 31) + (((nI (kf j))).toInt64))), (0, .ref (ad 0)), (3, .int (nI j))]) hx hb dX3_digest_136 rfl hl (by decide) rfl (fun ls hl => ?_)
        refine xn_iinc (v := j + 1) (lv' := [(3, .int (nI (j + 1))), (1, .long ((d9 * 31) + (((nI (kf j))).toInt64))), (0, .ref (ad 0))]) hx hb dX3_digest_137 hl (k := 2) rfl (xinc1 _) (by decide) rfl (fun ls hl => ?_)
        refine lv_goto (tgt := 113) hx hb dX3_digest_140 (by decide) ?_
        exact ih113 ((d9 * 31) + (((nI (kf j))).toInt64), j + 1) _ _ _ _ ls ⟨(by first | omega | (dsimp only; omega)), (by dsimp only; rw [h6]; rfl), hW, hS, (by first | omega | (dsimp only; omega)), (by first | omega | (dsimp only; omega)), lv_sub hl [2, 1, 0] rfl⟩ (by dsimp only; omega)
    · refine xn_iconst (v := 0) hx hb dX3_digest_41 (by decide) ?_
      refine lv_istore (lv' := [(4, .int (nI 0)), (0, .ref (ad 0)), (1, .long d9), (3, .int (nI k))]) hx hb dX3_digest_42 hl (by decide) rfl (fun ls hl => ?_)
      refine x_loopH (σ := Int64 × Nat) (fun a => 8 - a.2) (fun a H locs cells slots ls => (a.2 ≤ 8) ∧ (a.1 = dgR (tld (pm k) n) (dgB (n, ch, pm, st, kf, rg) (dgR (cvS (n, ch, pm, st, kf, rg)) 1579 6) k) a.2) ∧ (xXW D cI cC ad (n, ch, pm, st, kf, rg) H) ∧ (va_S (xAD ad) s.heap H locs) ∧ (cells ≤ 24 * k + a.2) ∧ (slots ≤ 144 * k + 6 * a.2) ∧ lv_has ls 5 [(0, .ref (ad 0)), (1, .long a.1), (3, .int (nI k)), (4, .int (nI a.2))]) ?_ (d9, 0) _ _ _ _ ls ⟨(Nat.zero_le _), h3, hW, hS, (by first | omega | (dsimp only; omega)), (by first | omega | (dsimp only; omega)), lv_sub hl [1, 2, 3, 0] rfl⟩
      rintro ⟨d9, w⟩ H locs cells slots ls ⟨h4, h5, hW, hS, hce, hse, hl⟩ ih44
      dsimp only at h4 h5 hW hS hce hse hl
      have hW : xXW D cI cC ad (n, ch, pm, st, kf, rg) _ := hW
      obtain ⟨zr, zm, zs, fr, fm, fs, zf, hO, hBk, hMe, hRu, hfr, hMa, hfm, hRs, hCs, hz⟩ := id hW
      refine lv_iload hx hb dX3_digest_44 (lv_at hl 3 rfl) ?_
      refine xn_bipush (v := 8) hx hb dX3_digest_46 (by decide) ?_
      refine xn_icmp_ge (tgt := 72) hx hb dX3_digest_48 (by decide) (by omega) (by decide) (fun c48 => ?_) (fun c48 => ?_)
      · refine xn_iconst (v := 0) hx hb dX3_digest_72 (by decide) ?_
        refine lv_istore (lv' := [(4, .int (nI 0)), (0, .ref (ad 0)), (1, .long d9), (3, .int (nI k))]) hx hb dX3_digest_73 hl (by decide) rfl (fun ls hl => ?_)
        refine x_loopH (σ := Int64 × Nat) (fun a => n - a.2) (fun a H locs cells slots ls => (a.2 ≤ n) ∧ (a.1 = dgR (pm k) (dgR (tld (pm k) n) (dgB (n, ch, pm, st, kf, rg) (dgR (cvS (n, ch, pm, st, kf, rg)) 1579 6) k) 8) a.2) ∧ (xXW D cI cC ad (n, ch, pm, st, kf, rg) H) ∧ (va_S (xAD ad) s.heap H locs) ∧ (cells ≤ 24 * k + 8 + 2 * a.2) ∧ (slots ≤ 144 * k + 48 + 12 * a.2) ∧ lv_has ls 5 [(0, .ref (ad 0)), (1, .long a.1), (3, .int (nI k)), (4, .int (nI a.2))]) ?_ (d9, 0) _ _ _ _ ls ⟨(Nat.zero_le _), (by dsimp only; rw [h5, show w = 8 by omega]; rfl), hW, hS, (by first | omega | (dsimp only; omega)), (by first | omega | (dsimp only; omega)), lv_sub hl [1, 2, 3, 0] rfl⟩
        rintro ⟨d9, i⟩ H locs cells slots ls ⟨h4, h5, hW, hS, hce, hse, hl⟩ ih75
        dsimp only at h4 h5 hW hS hce hse hl
        have hW : xXW D cI cC ad (n, ch, pm, st, kf, rg) _ := hW
        obtain ⟨zr, zm, zs, fr, fm, fs, zf, hO, hBk, hMe, hRu, hfr, hMa, hfm, hRs, hCs, hz⟩ := id hW
        refine lv_iload hx hb dX3_digest_75 (lv_at hl 3 rfl) ?_
        refine lv_aload_n hx hb dX3_digest_77 rfl (lv_at hl 0 rfl) ?_
        refine x_get (v := .int (nI n)) (C := RX3) (T := TX3) (N := 8) hx hb hts (by decide +kernel) hown hK hO rfl 5 (by decide) (hts (.fieldLink RX3 37 "BellRanks" "bells" "I") (by decide +kernel)) (fun _ h9 => h9) rfl dX3_digest_78 ?_
        refine xn_icmp_ge (tgt := 105) hx hb dX3_digest_81 (by decide) (by omega) (by omega) (fun c81 => ?_) (fun c81 => ?_)
        · refine xn_iinc (v := k + 1) (lv' := [(3, .int (nI (k + 1))), (0, .ref (ad 0)), (1, .long d9), (4, .int (nI i))]) hx hb dX3_digest_105 hl (k := 2) rfl (xinc1 _) (by decide) rfl (fun ls hl => ?_)
          refine lv_goto (tgt := 33) hx hb dX3_digest_108 (by decide) ?_
          exact ih33 (d9, k + 1) _ _ _ _ ls ⟨(by first | omega | (dsimp only; omega)), (by dsimp only; rw [h5, show i = n by omega]; rfl), hW, hS, (by first | omega | (dsimp only; omega)), (by first | omega | (dsimp only; omega)), lv_sub hl [1, 2, 0] rfl⟩ (by dsimp only; omega)
        · refine lv_lload_n hx hb dX3_digest_84 rfl (lv_at hl 1 rfl) ?_
          refine lv_ldc2 (v := 31) hx hb hown (hts (.constantLong RX3 178 31) (by decide +kernel)) dX3_digest_85 ?_
          refine lv_lmul hx hb dX3_digest_88 ?_
          refine lv_aload_n hx hb dX3_digest_89 rfl (lv_at hl 0 rfl) ?_
          refine lv_iload_n hx hb dX3_digest_90 rfl (lv_at hl 2 rfl) ?_
          refine lv_iload hx hb dX3_digest_91 (lv_at hl 3 rfl) ?_
          refine xzI (As := [.int (nI k), .int (nI i)]) (rest := [.long (d9 * 31)]) ⟨hx, hb, hml, hown, hts⟩ (okBell_ l hst9 D cI cC ad hj (n, ch, pm, st, kf, rg) hI (nI k) (nI i) (show tBell (n, ch, pm, st, kf, rg) (nI k) (nI i) = 0 from if_pos ⟨(inR_nI (by omega)).mpr (by omega), (inR_nI (by omega)).mpr (by omega)⟩)) (cwV 2 hts gX3_digest_X3_bell rfl rfl rfl (by decide +kernel) ⟨Nat.le_of_ble_eq_true rfl, Nat.le_of_ble_eq_true rfl⟩) hK (hZ.kept hS.2.1) hW (xRecv hK rfl hO) rfl hl.1 rfl (Nat.le_of_ble_eq_true rfl) dX3_digest_93 ⟨(by show cells + 2 ≤ 384; omega), (by show slots + 12 ≤ 2304; omega)⟩ hS (fun _ h => h) (fun _ h => h) (fun x93 u93 H1 locs1 hp93 hF hz9 hk9 hS => ?_)
          have e93 : x93 = nI (pm k i) := hp93.trans (by show nI _ = nI _; simp only [xN_nI (show k < 2 ^ 31 by omega), xN_nI (show i < 2 ^ 31 by omega)])
          subst e93
          have hW : xXW D cI cC ad (n, ch, pm, st, kf, rg) _ := hF
          obtain ⟨zr, zm, zs, fr, fm, fs, zf, hO, hBk, hMe, hRu, hfr, hMa, hfm, hRs, hCs, hz⟩ := id hW
          refine lv_i2l hx hb dX3_digest_96 rfl ?_
          refine lv_ladd hx hb dX3_digest_97 ?_
          refine lv_lstore_n (lv' := [(1, .long ((d9 * 31) + (((nI (pm k i))).toInt64))), (0, .ref (ad 0)), (3, .int (nI k)), (4, .int (nI i))]) hx hb dX3_digest_98 rfl hl (by decide) rfl (fun ls hl => ?_)
          refine xn_iinc (v := i + 1) (lv' := [(4, .int (nI (i + 1))), (1, .long ((d9 * 31) + (((nI (pm k i))).toInt64))), (0, .ref (ad 0)), (3, .int (nI k))]) hx hb dX3_digest_99 hl (k := 3) rfl (xinc1 _) (by decide) rfl (fun ls hl => ?_)
          refine lv_goto (tgt := 75) hx hb dX3_digest_102 (by decide) ?_
          exact ih75 ((d9 * 31) + (((nI (pm k i))).toInt64), i + 1) _ _ _ _ ls ⟨(by first | omega | (dsimp only; omega)), (by dsimp only; rw [h5]; rfl), hW, hS, (by first | omega | (dsimp only; omega)), (by first | omega | (dsimp only; omega)), lv_sub hl [2, 1, 3, 0] rfl⟩ (by dsimp only; omega)
      · refine lv_lload_n hx hb dX3_digest_51 rfl (lv_at hl 1 rfl) ?_
        refine lv_ldc2 (v := 31) hx hb hown (hts (.constantLong RX3 178 31) (by decide +kernel)) dX3_digest_52 ?_
        refine lv_lmul hx hb dX3_digest_55 ?_
        refine lv_aload_n hx hb dX3_digest_56 rfl (lv_at hl 0 rfl) ?_
        refine lv_iload_n hx hb dX3_digest_57 rfl (lv_at hl 2 rfl) ?_
        refine lv_iload hx hb dX3_digest_58 (lv_at hl 3 rfl) ?_
        refine xzI (As := [.int (nI k), .int (nI w)]) (rest := [.long (d9 * 31)]) ⟨hx, hb, hml, hown, hts⟩ (okTold_ l hst9 D cI cC ad hj (n, ch, pm, st, kf, rg) hI (nI k) (nI w) (show tTold (n, ch, pm, st, kf, rg) (nI k) (nI w) = 0 from if_pos ⟨(inR_nI (by omega)).mpr (by omega), (inR_nI (by omega)).mpr (by omega)⟩)) (cwV 2 hts gX3_digest_X3_told rfl rfl rfl (by decide +kernel) ⟨Nat.le_of_ble_eq_true rfl, Nat.le_of_ble_eq_true rfl⟩) hK (hZ.kept hS.2.1) hW (xRecv hK rfl hO) rfl hl.1 rfl (Nat.le_of_ble_eq_true rfl) dX3_digest_60 ⟨(by show cells + 1 ≤ 384; omega), (by show slots + 6 ≤ 2304; omega)⟩ hS (fun _ h => h) (fun _ h => h) (fun x60 u60 H1 locs1 hp60 hF hz9 hk9 hS => ?_)
        have e60 : x60 = nI (tld (pm k) n w) := hp60.trans (by show nI _ = nI _; simp only [xN_nI (show k < 2 ^ 31 by omega), xN_nI (show w < 2 ^ 31 by omega)])
        subst e60
        have hW : xXW D cI cC ad (n, ch, pm, st, kf, rg) _ := hF
        obtain ⟨zr, zm, zs, fr, fm, fs, zf, hO, hBk, hMe, hRu, hfr, hMa, hfm, hRs, hCs, hz⟩ := id hW
        refine lv_i2l hx hb dX3_digest_63 rfl ?_
        refine lv_ladd hx hb dX3_digest_64 ?_
        refine lv_lstore_n (lv' := [(1, .long ((d9 * 31) + (((nI (tld (pm k) n w))).toInt64))), (0, .ref (ad 0)), (3, .int (nI k)), (4, .int (nI w))]) hx hb dX3_digest_65 rfl hl (by decide) rfl (fun ls hl => ?_)
        refine xn_iinc (v := w + 1) (lv' := [(4, .int (nI (w + 1))), (1, .long ((d9 * 31) + (((nI (tld (pm k) n w))).toInt64))), (0, .ref (ad 0)), (3, .int (nI k))]) hx hb dX3_digest_66 hl (k := 3) rfl (xinc1 _) (by decide) rfl (fun ls hl => ?_)
        refine lv_goto (tgt := 44) hx hb dX3_digest_69 (by decide) ?_
        exact ih44 ((d9 * 31) + (((nI (tld (pm k) n w))).toInt64), w + 1) _ _ _ _ ls ⟨(by first | omega | (dsimp only; omega)), (by dsimp only; rw [h5]; rfl), hW, hS, (by first | omega | (dsimp only; omega)), (by first | omega | (dsimp only; omega)), lv_sub hl [2, 1, 3, 0] rfl⟩ (by dsimp only; omega)
  · refine lv_lload_n hx hb dX3_digest_12 rfl (lv_at hl 1 rfl) ?_
    refine lv_ldc2 (v := 31) hx hb hown (hts (.constantLong RX3 178 31) (by decide +kernel)) dX3_digest_13 ?_
    refine lv_lmul hx hb dX3_digest_16 ?_
    refine lv_aload_n hx hb dX3_digest_17 rfl (lv_at hl 0 rfl) ?_
    refine lv_iload_n hx hb dX3_digest_18 rfl (lv_at hl 2 rfl) ?_
    refine xzI (As := [.int (nI i)]) (rest := [.long (d9 * 31)]) ⟨hx, hb, hml, hown, hts⟩ (okCount_ l hst9 D cI cC ad hj (n, ch, pm, st, kf, rg) hI (nI i) (show tCount (n, ch, pm, st, kf, rg) (nI i) = 0 from if_pos ((inR_nI (by omega)).mpr (by omega)))) (cwV 1 hts gX3_digest_X3_count rfl rfl rfl (by decide +kernel) ⟨Nat.le_of_ble_eq_true rfl, Nat.le_of_ble_eq_true rfl⟩) hK (hZ.kept hS.2.1) hW (xRecv hK rfl hO) rfl hl.1 rfl (Nat.le_of_ble_eq_true rfl) dX3_digest_19 ⟨(by show cells + 0 ≤ 384; omega), (by show slots + 0 ≤ 2304; omega)⟩ hS (fun _ h => h) (fun _ h => h) (fun x19 u19 H1 locs1 hp19 hF hz9 hk9 hS => ?_)
    have e19 : x19 = nI (cvS (n, ch, pm, st, kf, rg) i) := hp19.trans (by show nI _ = nI _; simp only [xN_nI (show i < 2 ^ 31 by omega)])
    subst e19
    have hW : xXW D cI cC ad (n, ch, pm, st, kf, rg) _ := hF
    obtain ⟨zr, zm, zs, fr, fm, fs, zf, hO, hBk, hMe, hRu, hfr, hMa, hfm, hRs, hCs, hz⟩ := id hW
    refine lv_i2l hx hb dX3_digest_22 rfl ?_
    refine lv_ladd hx hb dX3_digest_23 ?_
    refine lv_lstore_n (lv' := [(1, .long ((d9 * 31) + (((nI (cvS (n, ch, pm, st, kf, rg) i))).toInt64))), (0, .ref (ad 0)), (3, .int (nI i))]) hx hb dX3_digest_24 rfl hl (by decide) rfl (fun ls hl => ?_)
    refine xn_iinc (v := i + 1) (lv' := [(3, .int (nI (i + 1))), (1, .long ((d9 * 31) + (((nI (cvS (n, ch, pm, st, kf, rg) i))).toInt64))), (0, .ref (ad 0))]) hx hb dX3_digest_25 hl (k := 2) rfl (xinc1 _) (by decide) rfl (fun ls hl => ?_)
    refine lv_goto (tgt := 6) hx hb dX3_digest_28 (by decide) ?_
    exact ih6 ((d9 * 31) + (((nI (cvS (n, ch, pm, st, kf, rg) i))).toInt64), i + 1) _ _ _ _ ls ⟨(by first | omega | (dsimp only; omega)), (by dsimp only; rw [h3]; rfl), hW, hS, (by first | omega | (dsimp only; omega)), (by first | omega | (dsimp only; omega)), lv_sub hl [2, 1, 0] rfl⟩ (by dsimp only; omega)
