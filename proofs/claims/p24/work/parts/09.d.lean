/-! BELLRANKS' CALLS, second part -/
set_option maxRecDepth 100000 in
set_option maxHeartbeats 4000000 in
theorem kComes_ (l : Launch) (hst9 : l.stackTraces = false) (D : va_G) (cI cC : ClassId) (ad : Nat → Nat) (hj : xInj ad) (S : AS) (hI : AI S) (x : Int32) : vx_Met l yX3_comes wsX3_comes (xRm 14 10 60) (va_Pc [.ref (ad 0), .int x] (xBZ D cI cC (xXW D cI cC ad S) (xAD ad))) (xI (fun r (_ : Unit) => tIn S x = 0 ∧ r = rComes S x) (fun _ H => xXW D cI cC ad (S) H) (xAD ad)) (xX (xAD ad) (fun E H => (tIn S x = 1 ∧ E = xEI) ∧ xXW D cI cC ad S H)) 10 60 (xAD ad) := by
  obtain ⟨n, ch, pm, st, kf, rg⟩ := S
  obtain ⟨⟨hn2, hn8⟩, hch, hst, hpm8, hpm, hkv, hkb⟩ := id hI
  dsimp only at hn2 hn8 hch hst hpm8 hpm hkv hkb
  refine vx_ofW (cc := cX3_comes) (maxL := 4) (ret := (some .int)) (by decide) rfl ?_
  intro p e s m args below meth c s₁ B hml htb hv
  obtain ⟨rfl, hP, hK, hZ⟩ := hv
  have hx := B.exec
  have hb := B.bytes
  have hr := B.returns
  have hts := atoms_spec (ws := wsX3_comes) B.pre
  have hown : s.vm.findClass RX3 = some m.cls := findClass_of_methodNamed B.named
  have hlocks := B.notSynchronized
  have hW := hP
  have hl := lv_entry ([.ref (ad 0), .int x]) (n := 4) (Nat.le_of_ble_eq_true rfl)
  rw [lg_entry_eq]
  generalize (lg_sl ([.ref (ad 0), .int x]) ++ List.replicate (4 - (lg_sl ([.ref (ad 0), .int x])).length) Slot.unset).toArray = ls at hl ⊢
  have hl : lv_has ls 4 [(0, .ref (ad 0)), (1, .int x)] := hl
  obtain ⟨zr, zm, zs, fr, fm, fs, zf, hO, hBk, hMe, hRu, hfr, hMa, hfm, hRs, hCs, hz⟩ := id hW
  have hO : xXO D ad n ch rg s.heap := hO
  have hMe : xMe D cI (ad 2) (ad 3) st kf s.heap := hMe
  have hCs : xXC D cI ad zf pm s.heap := hCs
  have hz : ∀ k, k < ch → zf k = n := hz
  have hS : va_S (xAD ad) s.heap s.heap [] := va_S.rf
  refine lv_aload_n hx hb dX3_comes_0 rfl (lv_at hl 0 rfl) ?_
  refine lv_iload_n hx hb dX3_comes_1 rfl (lv_at hl 1 rfl) ?_
  refine xtR (As := [.int x]) (rest := []) ⟨hx, hb, hml, hown, hts⟩ (cX3_find_ l hst9 D cI cC ad _ n ch rg (by omega) x) (cwV 1 hts gX3_comes_X3_find rfl rfl rfl (by decide +kernel) ⟨Nat.le_of_ble_eq_true rfl, Nat.le_of_ble_eq_true rfl⟩) hK ((hZ.kept hS.2.1).narrow (fun q h => h.elim)) ⟨rfl, hO, hBk⟩ (xRecv hK rfl hO) rfl hl.1 rfl (Nat.le_of_ble_eq_true rfl) dX3_comes_2 ⟨(by show 0 + 1 ≤ 10; omega), (by show 0 + 6 ≤ 60; omega)⟩ hS (fun q h => h.elim) (fun q h => h.elim) (fun E ce q9 H1 locs1 hB hz9 hk9 hS h1 h2 h3 => ?_) (fun u ra H1 locs1 hp hF hz9 hk2 hS => ?_)
  · obtain ⟨rfl, hn⟩ := hB
    exact x_pass htb hlocks h1 h2 h3 ⟨⟨if_neg hn, rfl⟩, (xXW_old hW (fun x9 hx9 => hk9 x9 hx9 id))⟩ hS (fun _ h => h) (by omega) (by omega)
  obtain ⟨rfl, hra⟩ := hF
  have hi2 := hp
  obtain ⟨j1, hj1, hj1b, rfl⟩ := inR_of hp
  rw [xN_nI hj1b] at hra
  subst hra
  have hl : lv_has ls 4 [(0, .ref (ad 0)), (1, .int (nI j1))] := hl
  have hC1 : xCh D cI (ad (10 + j1)) (ad (26 + j1)) n (pm j1) s.heap := xXC_at hCs (show j1 < 16 by omega) (hz j1 hj1)
  refine lv_astore_n (lv' := [(2, .ref (ad (10 + j1))), (0, .ref (ad 0)), (1, .int (nI j1))]) hx hb dX3_comes_5 rfl hl (by decide) rfl (fun ls hl => ?_)
  refine lv_aload_n hx hb dX3_comes_6 rfl (lv_at hl 1 rfl) ?_
  refine x_get (v := .ref (ad 2)) (C := RX3) (T := TX3) (N := 8) hx hb hts (by decide +kernel) hown hK hO rfl 1 (by decide) (hts (.fieldLink RX3 19 "BellRanks" "method" "LBellRanks$Method;") (by decide +kernel)) (fun _ h9 => h9) rfl dX3_comes_7 ?_
  refine xcV (As := []) (rest := []) ⟨hx, hb, hml, hown, hts⟩ (cX1_length_ l D cI cC (ad 2) (ad 3) st kf) (cwV 0 hts gX3_comes_X1_length rfl rfl rfl (by decide +kernel) ⟨Nat.le_of_ble_eq_true rfl, Nat.le_of_ble_eq_true rfl⟩) hK hMe (xRecv hK rfl hMe.1) rfl hl.1 rfl (Nat.le_of_ble_eq_true rfl) dX3_comes_10 ⟨(by show 0 + 1 ≤ 10; omega), (by show 0 + 6 ≤ 60; omega)⟩ (fun x10 e10 => ?_)
  subst e10
  refine xn_if_ne (tgt := 18) hx hb dX3_comes_13 (by decide) (by omega) (fun c13 => ?_) (fun c13 => ?_)
  · have hst0 : 0 < st := by omega
    refine lv_aload_n hx hb dX3_comes_18 rfl (lv_at hl 1 rfl) ?_
    refine x_get (v := .ref (ad 4)) (C := RX3) (T := TX3) (N := 8) hx hb hts (by decide +kernel) hown hK hO rfl 2 (by decide) (hts (.fieldLink RX3 23 "BellRanks" "rung" "LBellRanks$Change;") (by decide +kernel)) (fun _ h9 => h9) rfl dX3_comes_19 ?_
    refine lv_aload_n hx hb dX3_comes_22 rfl (lv_at hl 0 rfl) ?_
    refine xmV (As := [.ref (ad (10 + j1))]) (rest := []) ⟨hx, hb, hml, hown, hts⟩ (cX0_setCopy_ l D cI cC (ad 4) (ad 5) zr fr (ad (10 + j1)) (ad (26 + j1)) n (pm j1) (xne hj (by omega) (by omega) (by omega)) (xne hj (by omega) (by omega) (by omega)) (xne hj (by omega) (by omega) (by omega)) (xne hj (by omega) (by omega) (by omega)) (xne hj (by omega) (by omega) (by omega)) hn8) (cwV 1 hts gX3_comes_X0_setCopy rfl rfl rfl (by decide +kernel) ⟨Nat.le_of_ble_eq_true rfl, Nat.le_of_ble_eq_true rfl⟩) hK ⟨hRu, hC1⟩ (xRecv hK rfl hRu.1) rfl hl.1 rfl (Nat.le_of_ble_eq_true rfl) dX3_comes_23 ⟨(by show 0 + 1 + 0 ≤ 10; omega), (by show 0 + 6 + 0 ≤ 60; omega)⟩ hS (fun q h => h.elim (fun h => ⟨4, by omega, h⟩) (fun h => ⟨5, by omega, h⟩)) (fun q h => h.elim (fun h => ⟨4, by omega, h⟩) (fun h => ⟨5, by omega, h⟩)) (fun u23 H1 locs1 hp23 hF23 hz23 hk23 hS => ?_)
    have hO : xXO D ad n ch rg H1 := xat_keep hO hk23 (fun z => z.elim (xne hj (by omega) (by omega) (by omega)) (xne hj (by omega) (by omega) (by omega)))
    have hBk : xXB D cC ad H1 := xat_keep hBk hk23 (fun z => z.elim (xne hj (by omega) (by omega) (by omega)) (xne hj (by omega) (by omega) (by omega)))
    have hMe : xMe D cI (ad 2) (ad 3) st kf H1 := xMe_keep hMe hk23 (fun z => z.elim (xne hj (by omega) (by omega) (by omega)) (xne hj (by omega) (by omega) (by omega))) (fun z => z.elim (xne hj (by omega) (by omega) (by omega)) (xne hj (by omega) (by omega) (by omega)))
    have hMa : xCh D cI (ad 6) (ad 7) zm fm H1 := xCh_keep hMa hk23 (fun z => z.elim (xne hj (by omega) (by omega) (by omega)) (xne hj (by omega) (by omega) (by omega))) (fun z => z.elim (xne hj (by omega) (by omega) (by omega)) (xne hj (by omega) (by omega) (by omega)))
    have hRs : xRs D cI (ad 8) (ad 9) zs fs H1 := xRs_keep hRs hk23 (fun z => z.elim (xne hj (by omega) (by omega) (by omega)) (xne hj (by omega) (by omega) (by omega))) (fun z => z.elim (xne hj (by omega) (by omega) (by omega)) (xne hj (by omega) (by omega) (by omega)))
    have hC1 : xCh D cI (ad (10 + j1)) (ad (26 + j1)) n (pm j1) H1 := xCh_keep hC1 hk23 (fun z => z.elim (xne hj (by omega) (by omega) (by omega)) (xne hj (by omega) (by omega) (by omega))) (fun z => z.elim (xne hj (by omega) (by omega) (by omega)) (xne hj (by omega) (by omega) (by omega)))
    have hCs : xXC D cI ad zf pm H1 := xXC_keep hCs hk23 (fun i hi1 hi2 => (fun z => z.elim (xne hj (by omega) (by omega) (by omega)) (xne hj (by omega) (by omega) (by omega))))
    have hRu : xCh D cI (ad 4) (ad 5) n (cpy fr (pm j1) n) H1 := hF23
    have hfr0 := hfr
    have hfr : ∀ i, cpy fr (pm j1) n i < 8 := cpy_bd hfr (fun i _ => hpm8 j1 i)
    refine xn_iconst (v := 1) hx hb dX3_comes_26 (by decide) ?_
    refine lv_istore_n (lv' := [(3, .int (nI 1)), (2, .ref (ad (10 + j1))), (0, .ref (ad 0)), (1, .int (nI j1))]) hx hb dX3_comes_27 rfl hl (by decide) rfl (fun ls hl => ?_)
    refine x_loopH (σ := Nat) (fun a => 400 - a) (fun a H locs cells slots ls => (a ≤ 400) ∧ (∀ q8, q8 < a → cmP (n, ch, pm, st, kf, rg) j1 q8 = false) ∧ (xXO D ad n ch rg H) ∧ (xXB D cC ad H) ∧ (xMe D cI (ad 2) (ad 3) st kf H) ∧ (xCh D cI (ad 4) (ad 5) n (rgs kf st n (cpy fr (pm j1) n) a) H) ∧ (xCh D cI (ad 6) (ad 7) zm fm H) ∧ (xRs D cI (ad 8) (ad 9) zs fs H) ∧ (xXC D cI ad zf pm H) ∧ (xCh D cI (ad (10 + j1)) (ad (26 + j1)) n (pm j1) H) ∧ (va_S (xAD ad) s.heap H locs) ∧ (cells ≤ 2) ∧ (slots ≤ 12) ∧ lv_has ls 4 [(0, .ref (ad 0)), (1, .int (nI j1)), (2, .ref (ad (10 + j1))), (3, .int (nI (a + 1)))]) ?_ 0 _ _ _ _ ls ⟨(Nat.zero_le _), (fun q8 h => absurd h (Nat.not_lt_zero _)), hO, hBk, hMe, hRu, hMa, hRs, hCs, hC1, hS, (by omega), (by omega), lv_sub hl [2, 3, 1, 0] rfl⟩
    rintro k H locs cells slots ls ⟨h2, h3, hO, hBk, hMe, hRu, hMa, hRs, hCs, hC1, hS, hce, hse, hl⟩ ih28
    
    refine lv_iload_n hx hb dX3_comes_28 rfl (lv_at hl 3 rfl) ?_
    refine xn_sipush (v := 400) hx hb dX3_comes_29 (by decide) ?_
    refine xn_icmp_gt (tgt := 68) hx hb dX3_comes_32 (by decide) (by omega) (by decide) (fun c32 => ?_) (fun c32 => ?_)
    · refine lv_iconst (v := -1) hx hb dX3_comes_68 (by decide) ?_
      have hfr : ∀ i, rgs kf st n (cpy fr (pm j1) n) k i < 8 := rgs_bd hfr k
      have ht : tIn (n, ch, pm, st, kf, rg) (nI j1) = 0 := if_pos hi2
      refine W.widen (k := 10) (n := 60) (by omega) (by omega) ?_
      refine vx_ret ?_
      exact x_miret hx hb hr hlocks () ⟨ht, (by show _ = rComes _ (nI j1); unfold rComes cmF; simp only [xN_nI hj1b]; rw [if_neg (show ¬ st = 0 by omega), fnd_eq (k := 400) (Nat.le_refl _) (fun q8 hq => h3 q8 (by omega)) (fun z => absurd z (Nat.lt_irrefl _)), if_neg (Nat.lt_irrefl _)])⟩ (xXW_mk (S := (n, ch, pm, st, kf, rg)) hO hBk hMe hRu hfr hMa hfm hRs hCs hz) hS (fun _ h => h) dX3_comes_69
    · refine lv_aload_n hx hb dX3_comes_35 rfl (lv_at hl 0 rfl) ?_
      refine x_get (v := .ref (ad 2)) (C := RX3) (T := TX3) (N := 8) hx hb hts (by decide +kernel) hown hK hO rfl 1 (by decide) (hts (.fieldLink RX3 19 "BellRanks" "method" "LBellRanks$Method;") (by decide +kernel)) (fun _ h9 => h9) rfl dX3_comes_36 ?_
      refine lv_aload_n hx hb dX3_comes_39 rfl (lv_at hl 0 rfl) ?_
      refine x_get (v := .ref (ad 4)) (C := RX3) (T := TX3) (N := 8) hx hb hts (by decide +kernel) hown hK hO rfl 2 (by decide) (hts (.fieldLink RX3 23 "BellRanks" "rung" "LBellRanks$Change;") (by decide +kernel)) (fun _ h9 => h9) rfl dX3_comes_40 ?_
      refine lv_iload_n hx hb dX3_comes_43 rfl (lv_at hl 3 rfl) ?_
      refine xn_iconst (v := 1) hx hb dX3_comes_44 (by decide) ?_
      refine xn_isub hx hb (by omega) dX3_comes_45 ?_
      refine xz_i (congrArg nI (Nat.add_sub_cancel k 1)) ?_
      refine xmV (As := [.ref (ad 4), .int (nI k)]) (rest := []) ⟨hx, hb, hml, hown, hts⟩ (cX1_ringOn_ l D cI cC (ad 2) (ad 3) st kf (ad 4) (ad 5) n (rgs kf st n (cpy fr (pm j1) n) k) (xne hj (by omega) (by omega) (by omega)) hn8 hst0 (by omega) hkb k (by omega)) (cwV 2 hts gX3_comes_X1_ringOn rfl rfl rfl (by decide +kernel) ⟨Nat.le_of_ble_eq_true rfl, Nat.le_of_ble_eq_true rfl⟩) hK ⟨hMe, hRu⟩ (xRecv hK rfl hMe.1) rfl hl.1 rfl (Nat.le_of_ble_eq_true rfl) dX3_comes_46 ⟨(by show cells + 0 ≤ 10; omega), (by show slots + 0 ≤ 60; omega)⟩ hS (fun q h => ⟨5, by omega, h⟩) (fun q h => ⟨5, by omega, h⟩) (fun u46 H1 locs1 hp46 hF46 hz46 hk46 hS => ?_)
      have hO : xXO D ad n ch rg H1 := xat_keep hO hk46 (xne hj (by omega) (by omega) (by omega))
      have hBk : xXB D cC ad H1 := xat_keep hBk hk46 (xne hj (by omega) (by omega) (by omega))
      have hMe : xMe D cI (ad 2) (ad 3) st kf H1 := xMe_keep hMe hk46 (xne hj (by omega) (by omega) (by omega)) (xne hj (by omega) (by omega) (by omega))
      have hMa : xCh D cI (ad 6) (ad 7) zm fm H1 := xCh_keep hMa hk46 (xne hj (by omega) (by omega) (by omega)) (xne hj (by omega) (by omega) (by omega))
      have hRs : xRs D cI (ad 8) (ad 9) zs fs H1 := xRs_keep hRs hk46 (xne hj (by omega) (by omega) (by omega)) (xne hj (by omega) (by omega) (by omega))
      have hC1 : xCh D cI (ad (10 + j1)) (ad (26 + j1)) n (pm j1) H1 := xCh_keep hC1 hk46 (xne hj (by omega) (by omega) (by omega)) (xne hj (by omega) (by omega) (by omega))
      have hCs : xXC D cI ad zf pm H1 := xXC_keep hCs hk46 (fun i hi1 hi2 => (xne hj (by omega) (by omega) (by omega)))
      have hRu : xCh D cI (ad 4) (ad 5) n (rst (kf (k % st)) n n 0 (rgs kf st n (cpy fr (pm j1) n) k)) H1 := hF46
      refine lv_aload_n hx hb dX3_comes_49 rfl (lv_at hl 0 rfl) ?_
      refine x_get (v := .ref (ad 4)) (C := RX3) (T := TX3) (N := 8) hx hb hts (by decide +kernel) hown hK hO rfl 2 (by decide) (hts (.fieldLink RX3 23 "BellRanks" "rung" "LBellRanks$Change;") (by decide +kernel)) (fun _ h9 => h9) rfl dX3_comes_50 ?_
      refine lv_aload_n hx hb dX3_comes_53 rfl (lv_at hl 2 rfl) ?_
      refine xcV (As := [.ref (ad (10 + j1))]) (rest := []) ⟨hx, hb, hml, hown, hts⟩ (cX0_isSame_ l D cI cC (ad 4) (ad 5) n (rst (kf (k % st)) n n 0 (rgs kf st n (cpy fr (pm j1) n) k)) (ad (10 + j1)) (ad (26 + j1)) n (pm j1) hn8 (fun i9 => Nat.lt_trans ((rgs_bd hfr (k + 1)) i9) (by decide)) (fun i9 => Nat.lt_trans ((hpm8 j1) i9) (by decide))) (cwV 1 hts gX3_comes_X0_isSame rfl rfl rfl (by decide +kernel) ⟨Nat.le_of_ble_eq_true rfl, Nat.le_of_ble_eq_true rfl⟩) hK ⟨hRu, hC1⟩ (xRecv hK rfl hRu.1) rfl hl.1 rfl (Nat.le_of_ble_eq_true rfl) dX3_comes_54 ⟨(by show cells ≤ 10; omega), (by show slots ≤ 60; omega)⟩ (fun x54 e54 => ?_)
      rcases e54 with ⟨rfl, hsm⟩ | ⟨rfl, hsm⟩
      · skip
        refine xn_if_eq (tgt := 62) hx hb dX3_comes_57 (by decide) (by decide) (fun c => absurd c (by decide)) (fun _ => ?_)
        refine lv_iload_n hx hb dX3_comes_60 rfl (lv_at hl 3 rfl) ?_
        have hm : hrk (rgs kf st n (pm j1) (k + 1)) n n = hrk (pm j1) n n := hrk_congr (fun i hi => (rgs_congr (fun x hx => (cpy_lt hx).symm) (k + 1) i hi).trans (hsm i hi)) n (Nat.le_refl _)
        have hfr : ∀ i, rst (kf (k % st)) n n 0 (rgs kf st n (cpy fr (pm j1) n) k) i < 8 := rgs_bd hfr (k + 1)
        have ht : tIn (n, ch, pm, st, kf, rg) (nI j1) = 0 := if_pos hi2
        refine W.widen (k := 10) (n := 60) (by omega) (by omega) ?_
        refine vx_ret ?_
        exact x_miret hx hb hr hlocks () ⟨ht, (by show _ = rComes _ (nI j1); unfold rComes cmF; simp only [xN_nI hj1b]; rw [if_neg (show ¬ st = 0 by omega), fnd_eq (k := k) h2 h3 (fun _ => beq_iff_eq.mpr hm), if_pos (show k < 400 by omega)])⟩ (xXW_mk (S := (n, ch, pm, st, kf, rg)) hO hBk hMe hRu hfr hMa hfm hRs hCs hz) hS (fun _ h => h) dX3_comes_61
      · skip
        refine xn_if_eq (tgt := 62) hx hb dX3_comes_57 (by decide) (by decide) (fun _ => ?_) (fun c => absurd c (by decide))
        have hnm : cmP (n, ch, pm, st, kf, rg) j1 k = false := by
          cases hc : cmP (n, ch, pm, st, kf, rg) j1 k
          · rfl
          · exfalso
            obtain ⟨q9, hq9, hne⟩ := hsm
            have hc : (hrk (rgs kf st n (pm j1) (k + 1)) n n == hrk (pm j1) n n) = true := hc
            exact hne ((rgs_congr (fun x hx => cpy_lt hx) (k + 1) q9 hq9).trans (hrk_inj (Prm.rgs (hpm j1 hj1) (k + 1)) (hpm j1 hj1) (eq_of_beq hc) q9 hq9))
        refine xn_iinc (v := k + 1 + 1) (lv' := [(3, .int (nI (k + 1 + 1))), (0, .ref (ad 0)), (1, .int (nI j1)), (2, .ref (ad (10 + j1)))]) hx hb dX3_comes_62 hl (k := 3) rfl (xinc1 _) (by decide) rfl (fun ls hl => ?_)
        refine lv_goto (tgt := 28) hx hb dX3_comes_65 (by decide) ?_
        exact ih28 (k + 1) _ _ _ _ ls ⟨(by omega), (fun q8 hq => by
              by_cases h9 : q8 = k
              · rw [h9]; exact hnm
              · exact h3 q8 (by omega)), hO, hBk, hMe, hRu, hMa, hRs, hCs, hC1, hS, hce, hse, lv_sub hl [1, 2, 3, 0] rfl⟩ (by omega)
  · refine lv_iconst (v := -1) hx hb dX3_comes_16 (by decide) ?_
    have ht : tIn (n, ch, pm, st, kf, rg) (nI j1) = 0 := if_pos hi2
    refine W.widen (k := 10) (n := 60) (by omega) (by omega) ?_
    refine vx_ret ?_
    exact x_miret hx hb hr hlocks () ⟨ht, (by show _ = rComes _ (nI j1); unfold rComes cmF; simp only [xN_nI hj1b]; rw [if_pos (show st = 0 by omega)])⟩ (xXW_mk (S := (n, ch, pm, st, kf, rg)) hO hBk hMe hRu hfr hMa hfm hRs hCs hz) hS (fun _ h => h) dX3_comes_17

set_option maxRecDepth 100000 in
set_option maxHeartbeats 4000000 in
theorem kDiffer_ (l : Launch) (hst9 : l.stackTraces = false) (D : va_G) (cI cC : ClassId) (ad : Nat → Nat) (hj : xInj ad) (S : AS) (hI : AI S) (x : Int32) : vx_Met l yX3_differ wsX3_differ (xRm 14 10 60) (va_Pc [.ref (ad 0), .int x] (xBZ D cI cC (xXW D cI cC ad S) (xAD ad))) (xI (fun r (_ : Unit) => tDiffer S x = 0 ∧ r = rDiffer S x) (fun _ H => xXW D cI cC ad (S) H) (xAD ad)) (xX (xAD ad) (fun E H => (tDiffer S x = 1 ∧ E = xEA) ∧ xXW D cI cC ad S H)) 10 60 (xAD ad) := by
  obtain ⟨n, ch, pm, st, kf, rg⟩ := S
  obtain ⟨⟨hn2, hn8⟩, hch, hst, hpm8, hpm, hkv, hkb⟩ := id hI
  dsimp only at hn2 hn8 hch hst hpm8 hpm hkv hkb
  refine vx_ofW (cc := cX3_differ) (maxL := 3) (ret := (some .int)) (by decide) rfl ?_
  intro p e s m args below meth c s₁ B hml htb hv
  obtain ⟨rfl, hP, hK, hZ⟩ := hv
  have hx := B.exec
  have hb := B.bytes
  have hr := B.returns
  have hts := atoms_spec (ws := wsX3_differ) B.pre
  have hown : s.vm.findClass RX3 = some m.cls := findClass_of_methodNamed B.named
  have hlocks := B.notSynchronized
  have hW := hP
  have hl := lv_entry ([.ref (ad 0), .int x]) (n := 3) (Nat.le_of_ble_eq_true rfl)
  rw [lg_entry_eq]
  generalize (lg_sl ([.ref (ad 0), .int x]) ++ List.replicate (3 - (lg_sl ([.ref (ad 0), .int x])).length) Slot.unset).toArray = ls at hl ⊢
  have hl : lv_has ls 3 [(0, .ref (ad 0)), (1, .int x)] := hl
  obtain ⟨zr, zm, zs, fr, fm, fs, zf, hO, hBk, hMe, hRu, hfr, hMa, hfm, hRs, hCs, hz⟩ := id hW
  have hO : xXO D ad n ch rg s.heap := hO
  have hMe : xMe D cI (ad 2) (ad 3) st kf s.heap := hMe
  have hCs : xXC D cI ad zf pm s.heap := hCs
  have hz : ∀ k, k < ch → zf k = n := hz
  have hS : va_S (xAD ad) s.heap s.heap [] := va_S.rf
  refine lv_iload_n hx hb dX3_differ_0 rfl (lv_at hl 1 rfl) ?_
  refine xtVS (As := [.int x]) (rest := []) ⟨hx, hb, hml, hown, hts⟩ (cX3_checkSteps_ l hst9 D cI cC ad _ x) (va_cwS 1 hts gX3_differ_X3_checkSteps rfl rfl rfl (by decide +kernel) ⟨Nat.le_of_ble_eq_true rfl, Nat.le_of_ble_eq_true rfl⟩) hK ((hZ.kept hS.2.1).narrow (fun q h => h.elim)) rfl rfl hl.1 rfl (Nat.le_of_ble_eq_true rfl) dX3_differ_1 ⟨(by show 0 + 1 ≤ 10; omega), (by show 0 + 6 ≤ 60; omega)⟩ hS (fun q h => h.elim) (fun q h => h.elim) (fun E ce q9 H1 locs1 hB hz9 hk9 hS h1 h2 h3 => ?_) (fun u H1 locs1 hp hF hz9 hk1 hS => ?_)
  · obtain ⟨rfl, hn⟩ := hB
    exact x_pass htb hlocks h1 h2 h3 ⟨⟨if_neg hn, rfl⟩, (xXW_old hW (fun x9 hx9 => hk9 x9 hx9 id))⟩ hS (fun _ h => h) (by omega) (by omega)
  obtain rfl := hF
  have hi1 := hp
  obtain ⟨j1, hj1, hj1b, rfl⟩ := inR_of hi1.1
  have hl : lv_has ls 3 [(0, .ref (ad 0)), (1, .int (nI j1))] := hl
  refine lv_aload_n hx hb dX3_differ_4 rfl (lv_at hl 0 rfl) ?_
  refine x_get (v := .ref (ad 4)) (C := RX3) (T := TX3) (N := 8) hx hb hts (by decide +kernel) hown hK hO rfl 2 (by decide) (hts (.fieldLink RX3 23 "BellRanks" "rung" "LBellRanks$Change;") (by decide +kernel)) (fun _ h9 => h9) rfl dX3_differ_5 ?_
  refine lv_aload_n hx hb dX3_differ_8 rfl (lv_at hl 0 rfl) ?_
  refine x_get (v := .int (nI n)) (C := RX3) (T := TX3) (N := 8) hx hb hts (by decide +kernel) hown hK hO rfl 5 (by decide) (hts (.fieldLink RX3 37 "BellRanks" "bells" "I") (by decide +kernel)) (fun _ h9 => h9) rfl dX3_differ_9 ?_
  refine xn_iconst (v := 0) hx hb dX3_differ_12 (by decide) ?_
  refine xmV (As := [.int (nI n), .int (nI 0)]) (rest := []) ⟨hx, hb, hml, hown, hts⟩ (cX0_setRank_ l D cI cC (ad 4) (ad 5) zr fr (xne hj (by omega) (by omega) (by omega)) hfr n 0 hn8 (by decide)) (cwV 2 hts gX3_differ_X0_setRank rfl rfl rfl (by decide +kernel) ⟨Nat.le_of_ble_eq_true rfl, Nat.le_of_ble_eq_true rfl⟩) hK hRu (xRecv hK rfl hRu.1) rfl hl.1 rfl (Nat.le_of_ble_eq_true rfl) dX3_differ_13 ⟨(by show 0 + 1 + 0 ≤ 10; omega), (by show 0 + 6 + 0 ≤ 60; omega)⟩ hS (fun q h => h.elim (fun h => ⟨4, by omega, h⟩) (fun h => ⟨5, by omega, h⟩)) (fun q h => h.elim (fun h => ⟨4, by omega, h⟩) (fun h => ⟨5, by omega, h⟩)) (fun u13 H1 locs1 hp13 hF13 hz13 hk13 hS => ?_)
  have hO : xXO D ad n ch rg H1 := xat_keep hO hk13 (fun z => z.elim (xne hj (by omega) (by omega) (by omega)) (xne hj (by omega) (by omega) (by omega)))
  have hBk : xXB D cC ad H1 := xat_keep hBk hk13 (fun z => z.elim (xne hj (by omega) (by omega) (by omega)) (xne hj (by omega) (by omega) (by omega)))
  have hMe : xMe D cI (ad 2) (ad 3) st kf H1 := xMe_keep hMe hk13 (fun z => z.elim (xne hj (by omega) (by omega) (by omega)) (xne hj (by omega) (by omega) (by omega))) (fun z => z.elim (xne hj (by omega) (by omega) (by omega)) (xne hj (by omega) (by omega) (by omega)))
  have hMa : xCh D cI (ad 6) (ad 7) zm fm H1 := xCh_keep hMa hk13 (fun z => z.elim (xne hj (by omega) (by omega) (by omega)) (xne hj (by omega) (by omega) (by omega))) (fun z => z.elim (xne hj (by omega) (by omega) (by omega)) (xne hj (by omega) (by omega) (by omega)))
  have hRs : xRs D cI (ad 8) (ad 9) zs fs H1 := xRs_keep hRs hk13 (fun z => z.elim (xne hj (by omega) (by omega) (by omega)) (xne hj (by omega) (by omega) (by omega))) (fun z => z.elim (xne hj (by omega) (by omega) (by omega)) (xne hj (by omega) (by omega) (by omega)))
  have hCs : xXC D cI ad zf pm H1 := xXC_keep hCs hk13 (fun i hi1 hi2 => (fun z => z.elim (xne hj (by omega) (by omega) (by omega)) (xne hj (by omega) (by omega) (by omega))))
  have hRu : xCh D cI (ad 4) (ad 5) n (srG fr n 0 n) H1 := hF13
  have hfr0 := hfr
  have hfr : ∀ i, srG fr n 0 n i < 8 := srG_bd8 hn8 hfr (fac_pos n)
  have hsid : ∀ x9, x9 < n → srG fr n 0 n x9 = x9 := hrk_inj (srG_hrk (fac_pos n)).1 (Prm.id n) ((srG_hrk (fac_pos n)).2.trans hrk_id.symm)
  refine lv_aload_n hx hb dX3_differ_16 rfl (lv_at hl 0 rfl) ?_
  refine x_get (v := .ref (ad 8)) (C := RX3) (T := TX3) (N := 8) hx hb hts (by decide +kernel) hown hK hO rfl 4 (by decide) (hts (.fieldLink RX3 33 "BellRanks" "ranks" "LBellRanks$RankSet;") (by decide +kernel)) (fun _ h9 => h9) rfl dX3_differ_17 ?_
  refine xmV (As := []) (rest := []) ⟨hx, hb, hml, hown, hts⟩ (cX2_removeAll_ l D cI cC (ad 8) (ad 9) zs fs (xne hj (by omega) (by omega) (by omega))) (cwV 0 hts gX3_differ_X2_removeAll rfl rfl rfl (by decide +kernel) ⟨Nat.le_of_ble_eq_true rfl, Nat.le_of_ble_eq_true rfl⟩) hK hRs (xRecv hK rfl hRs.1) rfl hl.1 rfl (Nat.le_of_ble_eq_true rfl) dX3_differ_20 ⟨(by show 0 + 1 + 0 ≤ 10; omega), (by show 0 + 6 + 0 ≤ 60; omega)⟩ hS (fun q h => h.elim (fun h => ⟨8, by omega, h⟩) (fun h => ⟨9, by omega, h⟩)) (fun q h => h.elim (fun h => ⟨8, by omega, h⟩) (fun h => ⟨9, by omega, h⟩)) (fun u20 H1 locs1 hp20 hF20 hz20 hk20 hS => ?_)
  have hO : xXO D ad n ch rg H1 := xat_keep hO hk20 (fun z => z.elim (xne hj (by omega) (by omega) (by omega)) (xne hj (by omega) (by omega) (by omega)))
  have hBk : xXB D cC ad H1 := xat_keep hBk hk20 (fun z => z.elim (xne hj (by omega) (by omega) (by omega)) (xne hj (by omega) (by omega) (by omega)))
  have hMe : xMe D cI (ad 2) (ad 3) st kf H1 := xMe_keep hMe hk20 (fun z => z.elim (xne hj (by omega) (by omega) (by omega)) (xne hj (by omega) (by omega) (by omega))) (fun z => z.elim (xne hj (by omega) (by omega) (by omega)) (xne hj (by omega) (by omega) (by omega)))
  have hRu : xCh D cI (ad 4) (ad 5) n (srG fr n 0 n) H1 := xCh_keep hRu hk20 (fun z => z.elim (xne hj (by omega) (by omega) (by omega)) (xne hj (by omega) (by omega) (by omega))) (fun z => z.elim (xne hj (by omega) (by omega) (by omega)) (xne hj (by omega) (by omega) (by omega)))
  have hMa : xCh D cI (ad 6) (ad 7) zm fm H1 := xCh_keep hMa hk20 (fun z => z.elim (xne hj (by omega) (by omega) (by omega)) (xne hj (by omega) (by omega) (by omega))) (fun z => z.elim (xne hj (by omega) (by omega) (by omega)) (xne hj (by omega) (by omega) (by omega)))
  have hCs : xXC D cI ad zf pm H1 := xXC_keep hCs hk20 (fun i hi1 hi2 => (fun z => z.elim (xne hj (by omega) (by omega) (by omega)) (xne hj (by omega) (by omega) (by omega))))
  have hRs : xRs D cI (ad 8) (ad 9) 0 fs H1 := hF20
  refine lv_aload_n hx hb dX3_differ_23 rfl (lv_at hl 0 rfl) ?_
  refine x_get (v := .ref (ad 8)) (C := RX3) (T := TX3) (N := 8) hx hb hts (by decide +kernel) hown hK hO rfl 4 (by decide) (hts (.fieldLink RX3 33 "BellRanks" "ranks" "LBellRanks$RankSet;") (by decide +kernel)) (fun _ h9 => h9) rfl dX3_differ_24 ?_
  refine lv_aload_n hx hb dX3_differ_27 rfl (lv_at hl 0 rfl) ?_
  refine x_get (v := .ref (ad 4)) (C := RX3) (T := TX3) (N := 8) hx hb hts (by decide +kernel) hown hK hO rfl 2 (by decide) (hts (.fieldLink RX3 23 "BellRanks" "rung" "LBellRanks$Change;") (by decide +kernel)) (fun _ h9 => h9) rfl dX3_differ_28 ?_
  refine xcV (As := []) (rest := [.ref (ad 8)]) ⟨hx, hb, hml, hown, hts⟩ (cX0_rank_ l D cI cC (ad 4) (ad 5) n (srG fr n 0 n) hn8 (fun i9 => Nat.lt_trans (hfr i9) (by decide))) (cwV 0 hts gX3_differ_X0_rank rfl rfl rfl (by decide +kernel) ⟨Nat.le_of_ble_eq_true rfl, Nat.le_of_ble_eq_true rfl⟩) hK hRu (xRecv hK rfl hRu.1) rfl hl.1 rfl (Nat.le_of_ble_eq_true rfl) dX3_differ_31 ⟨(by show 0 + 1 ≤ 10; omega), (by show 0 + 6 ≤ 60; omega)⟩ (fun x31 e31 => ?_)
  subst e31
  refine xmV (As := [.int (nI (hrk (srG fr n 0 n) n n))]) (rest := []) ⟨hx, hb, hml, hown, hts⟩ (cX2_add_ l D cI cC (ad 8) (ad 9) 0 fs (xne hj (by omega) (by omega) (by omega)) (by decide) (hrk (srG fr n 0 n) n n) (Nat.lt_trans (hrk_bd hn8) (by decide)) (fun i9 hi9 => absurd hi9 (Nat.not_lt_zero _))) (cwV 1 hts gX3_differ_X2_add rfl rfl rfl (by decide +kernel) ⟨Nat.le_of_ble_eq_true rfl, Nat.le_of_ble_eq_true rfl⟩) hK hRs (xRecv hK rfl hRs.1) rfl hl.1 rfl (Nat.le_of_ble_eq_true rfl) dX3_differ_34 ⟨(by show 0 + 1 + 0 ≤ 10; omega), (by show 0 + 6 + 0 ≤ 60; omega)⟩ hS (fun q h => h.elim (fun h => ⟨8, by omega, h⟩) (fun h => ⟨9, by omega, h⟩)) (fun q h => h.elim (fun h => ⟨8, by omega, h⟩) (fun h => ⟨9, by omega, h⟩)) (fun u34 H1 locs1 hp34 hF34 hz34 hk34 hS => ?_)
  have hO : xXO D ad n ch rg H1 := xat_keep hO hk34 (fun z => z.elim (xne hj (by omega) (by omega) (by omega)) (xne hj (by omega) (by omega) (by omega)))
  have hBk : xXB D cC ad H1 := xat_keep hBk hk34 (fun z => z.elim (xne hj (by omega) (by omega) (by omega)) (xne hj (by omega) (by omega) (by omega)))
  have hMe : xMe D cI (ad 2) (ad 3) st kf H1 := xMe_keep hMe hk34 (fun z => z.elim (xne hj (by omega) (by omega) (by omega)) (xne hj (by omega) (by omega) (by omega))) (fun z => z.elim (xne hj (by omega) (by omega) (by omega)) (xne hj (by omega) (by omega) (by omega)))
  have hRu : xCh D cI (ad 4) (ad 5) n (srG fr n 0 n) H1 := xCh_keep hRu hk34 (fun z => z.elim (xne hj (by omega) (by omega) (by omega)) (xne hj (by omega) (by omega) (by omega))) (fun z => z.elim (xne hj (by omega) (by omega) (by omega)) (xne hj (by omega) (by omega) (by omega)))
  have hMa : xCh D cI (ad 6) (ad 7) zm fm H1 := xCh_keep hMa hk34 (fun z => z.elim (xne hj (by omega) (by omega) (by omega)) (xne hj (by omega) (by omega) (by omega))) (fun z => z.elim (xne hj (by omega) (by omega) (by omega)) (xne hj (by omega) (by omega) (by omega)))
  have hCs : xXC D cI ad zf pm H1 := xXC_keep hCs hk34 (fun i hi1 hi2 => (fun z => z.elim (xne hj (by omega) (by omega) (by omega)) (xne hj (by omega) (by omega) (by omega))))
  have hRs : xRs D cI (ad 8) (ad 9) u34.1 u34.2 H1 := hF34
  have hdg0 := dg_step (g := dfG (n, ch, pm, st, kf, rg)) (L := 0) (k := 0) (fun v9 => ⟨fun ⟨i9, z, _⟩ => absurd z (Nat.not_lt_zero _), fun ⟨i9, z, _⟩ => absurd z (Nat.not_lt_zero _)⟩) rfl hp34 ((srG_hrk (fac_pos n)).2.trans hrk_id.symm)
  refine lv_aload_n hx hb dX3_differ_37 rfl (lv_at hl 0 rfl) ?_
  refine x_get (v := .ref (ad 2)) (C := RX3) (T := TX3) (N := 8) hx hb hts (by decide +kernel) hown hK hO rfl 1 (by decide) (hts (.fieldLink RX3 19 "BellRanks" "method" "LBellRanks$Method;") (by decide +kernel)) (fun _ h9 => h9) rfl dX3_differ_38 ?_
  refine xcV (As := []) (rest := []) ⟨hx, hb, hml, hown, hts⟩ (cX1_length_ l D cI cC (ad 2) (ad 3) st kf) (cwV 0 hts gX3_differ_X1_length rfl rfl rfl (by decide +kernel) ⟨Nat.le_of_ble_eq_true rfl, Nat.le_of_ble_eq_true rfl⟩) hK hMe (xRecv hK rfl hMe.1) rfl hl.1 rfl (Nat.le_of_ble_eq_true rfl) dX3_differ_41 ⟨(by show 0 + 1 ≤ 10; omega), (by show 0 + 6 ≤ 60; omega)⟩ (fun x41 e41 => ?_)
  subst e41
  refine xn_if_le (tgt := 86) hx hb dX3_differ_44 (by decide) (by omega) (fun c44 => ?_) (fun c44 => ?_)
  · refine lv_aload_n hx hb dX3_differ_86 rfl (lv_at hl 0 rfl) ?_
    refine x_get (v := .ref (ad 8)) (C := RX3) (T := TX3) (N := 8) hx hb hts (by decide +kernel) hown hK hO rfl 4 (by decide) (hts (.fieldLink RX3 33 "BellRanks" "ranks" "LBellRanks$RankSet;") (by decide +kernel)) (fun _ h9 => h9) rfl dX3_differ_87 ?_
    refine xcV (As := []) (rest := []) ⟨hx, hb, hml, hown, hts⟩ (cX2_size_ l D cI cC (ad 8) (ad 9) u34.1 u34.2) (cwV 0 hts gX3_differ_X2_size rfl rfl rfl (by decide +kernel) ⟨Nat.le_of_ble_eq_true rfl, Nat.le_of_ble_eq_true rfl⟩) hK hRs (xRecv hK rfl hRs.1) rfl hl.1 rfl (Nat.le_of_ble_eq_true rfl) dX3_differ_90 ⟨(by show 0 + 1 ≤ 10; omega), (by show 0 + 6 ≤ 60; omega)⟩ (fun x90 e90 => ?_)
    subst e90
    have ht : tDiffer (n, ch, pm, st, kf, rg) (nI j1) = 0 := if_pos hi1
    refine W.widen (k := 10) (n := 60) (by omega) (by omega) ?_
    refine vx_ret ?_
    exact x_miret hx hb hr hlocks () ⟨ht, (by show _ = rDiffer _ (nI j1); unfold rDiffer; simp only [xN_nI hj1b]; rw [if_pos (show st = 0 by omega), hdg0.1]; rfl)⟩ (xXW_mk (S := (n, ch, pm, st, kf, rg)) hO hBk hMe hRu hfr hMa hfm hRs hCs hz) hS (fun _ h => h) dX3_differ_93
  · have hst0 : 0 < st := by omega
    refine xn_iconst (v := 0) hx hb dX3_differ_47 (by decide) ?_
    refine lv_istore_n (lv' := [(2, .int (nI 0)), (0, .ref (ad 0)), (1, .int (nI j1))]) hx hb dX3_differ_48 rfl hl (by decide) rfl (fun ls hl => ?_)
    refine x_loopH (σ := Nat × Nat × (Nat → Nat)) (fun a => j1 - a.1) (fun a H locs cells slots ls => (a.1 ≤ j1) ∧ (a.2.1 = sm (nwf (dfG (n, ch, pm, st, kf, rg))) (a.1 + 1)) ∧ (∀ v9, (∃ i9, i9 < a.2.1 ∧ a.2.2 i9 = v9) ↔ (∃ q8, q8 < a.1 + 1 ∧ dfG (n, ch, pm, st, kf, rg) q8 = v9)) ∧ (xXO D ad n ch rg H) ∧ (xXB D cC ad H) ∧ (xMe D cI (ad 2) (ad 3) st kf H) ∧ (xCh D cI (ad 4) (ad 5) n (rgs kf st n (srG fr n 0 n) a.1) H) ∧ (xCh D cI (ad 6) (ad 7) zm fm H) ∧ (xRs D cI (ad 8) (ad 9) a.2.1 a.2.2 H) ∧ (xXC D cI ad zf pm H) ∧ (va_S (xAD ad) s.heap H locs) ∧ (cells ≤ 2) ∧ (slots ≤ 12) ∧ lv_has ls 3 [(0, .ref (ad 0)), (1, .int (nI j1)), (2, .int (nI a.1))]) ?_ (0, u34.1, u34.2) _ _ _ _ ls ⟨(Nat.zero_le _), hdg0.1, hdg0.2, hO, hBk, hMe, hRu, hMa, hRs, hCs, hS, (by omega), (by omega), lv_sub hl [1, 2, 0] rfl⟩
    rintro ⟨i, z9, g9⟩ H locs cells slots ls ⟨h2, h3, hset, hO, hBk, hMe, hRu, hMa, hRs, hCs, hS, hce, hse, hl⟩ ih49
    dsimp only at h2 h3 hset hO hBk hMe hRu hMa hRs hCs hS hce hse hl
    have hzl := sm_nwf_le (dfG (n, ch, pm, st, kf, rg)) (i + 1)
    rw [← h3] at hzl
    have hsb : ∀ i9, i9 < z9 → g9 i9 < 2 ^ 31 := fun i9 hi9 => by
      obtain ⟨q8, -, e9⟩ := (hset (g9 i9)).mp ⟨i9, hi9, rfl⟩
      rw [← e9]
      exact Nat.lt_trans (hrk_bd hn8) (by decide)
    refine lv_iload_n hx hb dX3_differ_49 rfl (lv_at hl 2 rfl) ?_
    refine lv_iload_n hx hb dX3_differ_50 rfl (lv_at hl 1 rfl) ?_
    refine xn_icmp_ge (tgt := 86) hx hb dX3_differ_51 (by decide) (by omega) (by omega) (fun c51 => ?_) (fun c51 => ?_)
    · refine lv_aload_n hx hb dX3_differ_86 rfl (lv_at hl 0 rfl) ?_
      refine x_get (v := .ref (ad 8)) (C := RX3) (T := TX3) (N := 8) hx hb hts (by decide +kernel) hown hK hO rfl 4 (by decide) (hts (.fieldLink RX3 33 "BellRanks" "ranks" "LBellRanks$RankSet;") (by decide +kernel)) (fun _ h9 => h9) rfl dX3_differ_87 ?_
      refine xcV (As := []) (rest := []) ⟨hx, hb, hml, hown, hts⟩ (cX2_size_ l D cI cC (ad 8) (ad 9) z9 g9) (cwV 0 hts gX3_differ_X2_size rfl rfl rfl (by decide +kernel) ⟨Nat.le_of_ble_eq_true rfl, Nat.le_of_ble_eq_true rfl⟩) hK hRs (xRecv hK rfl hRs.1) rfl hl.1 rfl (Nat.le_of_ble_eq_true rfl) dX3_differ_90 ⟨(by show cells ≤ 10; omega), (by show slots ≤ 60; omega)⟩ (fun x90 e90 => ?_)
      subst e90
      have hfr : ∀ i9, rgs kf st n (srG fr n 0 n) i i9 < 8 := rgs_bd hfr i
      have ht : tDiffer (n, ch, pm, st, kf, rg) (nI j1) = 0 := if_pos hi1
      refine W.widen (k := 10) (n := 60) (by omega) (by omega) ?_
      refine vx_ret ?_
      exact x_miret hx hb hr hlocks () ⟨ht, (by show _ = rDiffer _ (nI j1); unfold rDiffer; simp only [xN_nI hj1b]; rw [if_neg (show ¬ st = 0 by omega), h3, show i = j1 by omega])⟩ (xXW_mk (S := (n, ch, pm, st, kf, rg)) hO hBk hMe hRu hfr hMa hfm hRs hCs hz) hS (fun _ h => h) dX3_differ_93
    · refine lv_aload_n hx hb dX3_differ_54 rfl (lv_at hl 0 rfl) ?_
      refine x_get (v := .ref (ad 2)) (C := RX3) (T := TX3) (N := 8) hx hb hts (by decide +kernel) hown hK hO rfl 1 (by decide) (hts (.fieldLink RX3 19 "BellRanks" "method" "LBellRanks$Method;") (by decide +kernel)) (fun _ h9 => h9) rfl dX3_differ_55 ?_
      refine lv_aload_n hx hb dX3_differ_58 rfl (lv_at hl 0 rfl) ?_
      refine x_get (v := .ref (ad 4)) (C := RX3) (T := TX3) (N := 8) hx hb hts (by decide +kernel) hown hK hO rfl 2 (by decide) (hts (.fieldLink RX3 23 "BellRanks" "rung" "LBellRanks$Change;") (by decide +kernel)) (fun _ h9 => h9) rfl dX3_differ_59 ?_
      refine lv_iload_n hx hb dX3_differ_62 rfl (lv_at hl 2 rfl) ?_
      refine xmV (As := [.ref (ad 4), .int (nI i)]) (rest := []) ⟨hx, hb, hml, hown, hts⟩ (cX1_ringOn_ l D cI cC (ad 2) (ad 3) st kf (ad 4) (ad 5) n (rgs kf st n (srG fr n 0 n) i) (xne hj (by omega) (by omega) (by omega)) hn8 hst0 (by omega) hkb i (by omega)) (cwV 2 hts gX3_differ_X1_ringOn rfl rfl rfl (by decide +kernel) ⟨Nat.le_of_ble_eq_true rfl, Nat.le_of_ble_eq_true rfl⟩) hK ⟨hMe, hRu⟩ (xRecv hK rfl hMe.1) rfl hl.1 rfl (Nat.le_of_ble_eq_true rfl) dX3_differ_63 ⟨(by show cells + 0 ≤ 10; omega), (by show slots + 0 ≤ 60; omega)⟩ hS (fun q h => ⟨5, by omega, h⟩) (fun q h => ⟨5, by omega, h⟩) (fun u63 H1 locs1 hp63 hF63 hz63 hk63 hS => ?_)
      have hO : xXO D ad n ch rg H1 := xat_keep hO hk63 (xne hj (by omega) (by omega) (by omega))
      have hBk : xXB D cC ad H1 := xat_keep hBk hk63 (xne hj (by omega) (by omega) (by omega))
      have hMe : xMe D cI (ad 2) (ad 3) st kf H1 := xMe_keep hMe hk63 (xne hj (by omega) (by omega) (by omega)) (xne hj (by omega) (by omega) (by omega))
      have hMa : xCh D cI (ad 6) (ad 7) zm fm H1 := xCh_keep hMa hk63 (xne hj (by omega) (by omega) (by omega)) (xne hj (by omega) (by omega) (by omega))
      have hRs : xRs D cI (ad 8) (ad 9) z9 g9 H1 := xRs_keep hRs hk63 (xne hj (by omega) (by omega) (by omega)) (xne hj (by omega) (by omega) (by omega))
      have hCs : xXC D cI ad zf pm H1 := xXC_keep hCs hk63 (fun i hi1 hi2 => (xne hj (by omega) (by omega) (by omega)))
      have hRu : xCh D cI (ad 4) (ad 5) n (rst (kf (i % st)) n n 0 (rgs kf st n (srG fr n 0 n) i)) H1 := hF63
      refine lv_aload_n hx hb dX3_differ_66 rfl (lv_at hl 0 rfl) ?_
      refine x_get (v := .ref (ad 8)) (C := RX3) (T := TX3) (N := 8) hx hb hts (by decide +kernel) hown hK hO rfl 4 (by decide) (hts (.fieldLink RX3 33 "BellRanks" "ranks" "LBellRanks$RankSet;") (by decide +kernel)) (fun _ h9 => h9) rfl dX3_differ_67 ?_
      refine lv_aload_n hx hb dX3_differ_70 rfl (lv_at hl 0 rfl) ?_
      refine x_get (v := .ref (ad 4)) (C := RX3) (T := TX3) (N := 8) hx hb hts (by decide +kernel) hown hK hO rfl 2 (by decide) (hts (.fieldLink RX3 23 "BellRanks" "rung" "LBellRanks$Change;") (by decide +kernel)) (fun _ h9 => h9) rfl dX3_differ_71 ?_
      refine xcV (As := []) (rest := [.ref (ad 8)]) ⟨hx, hb, hml, hown, hts⟩ (cX0_rank_ l D cI cC (ad 4) (ad 5) n (rst (kf (i % st)) n n 0 (rgs kf st n (srG fr n 0 n) i)) hn8 (fun i9 => Nat.lt_trans ((rgs_bd hfr (i + 1)) i9) (by decide))) (cwV 0 hts gX3_differ_X0_rank rfl rfl rfl (by decide +kernel) ⟨Nat.le_of_ble_eq_true rfl, Nat.le_of_ble_eq_true rfl⟩) hK hRu (xRecv hK rfl hRu.1) rfl hl.1 rfl (Nat.le_of_ble_eq_true rfl) dX3_differ_74 ⟨(by show cells ≤ 10; omega), (by show slots ≤ 60; omega)⟩ (fun x74 e74 => ?_)
      subst e74
      refine xmV (As := [.int (nI (hrk (rst (kf (i % st)) n n 0 (rgs kf st n (srG fr n 0 n) i)) n n))]) (rest := []) ⟨hx, hb, hml, hown, hts⟩ (cX2_add_ l D cI cC (ad 8) (ad 9) z9 g9 (xne hj (by omega) (by omega) (by omega)) (by omega) (hrk (rst (kf (i % st)) n n 0 (rgs kf st n (srG fr n 0 n) i)) n n) (Nat.lt_trans (hrk_bd hn8) (by decide)) hsb) (cwV 1 hts gX3_differ_X2_add rfl rfl rfl (by decide +kernel) ⟨Nat.le_of_ble_eq_true rfl, Nat.le_of_ble_eq_true rfl⟩) hK hRs (xRecv hK rfl hRs.1) rfl hl.1 rfl (Nat.le_of_ble_eq_true rfl) dX3_differ_77 ⟨(by show cells + 0 ≤ 10; omega), (by show slots + 0 ≤ 60; omega)⟩ hS (fun q h => h.elim (fun h => ⟨8, by omega, h⟩) (fun h => ⟨9, by omega, h⟩)) (fun q h => h.elim (fun h => ⟨8, by omega, h⟩) (fun h => ⟨9, by omega, h⟩)) (fun u77 H1 locs1 hp77 hF77 hz77 hk77 hS => ?_)
      have hO : xXO D ad n ch rg H1 := xat_keep hO hk77 (fun z => z.elim (xne hj (by omega) (by omega) (by omega)) (xne hj (by omega) (by omega) (by omega)))
      have hBk : xXB D cC ad H1 := xat_keep hBk hk77 (fun z => z.elim (xne hj (by omega) (by omega) (by omega)) (xne hj (by omega) (by omega) (by omega)))
      have hMe : xMe D cI (ad 2) (ad 3) st kf H1 := xMe_keep hMe hk77 (fun z => z.elim (xne hj (by omega) (by omega) (by omega)) (xne hj (by omega) (by omega) (by omega))) (fun z => z.elim (xne hj (by omega) (by omega) (by omega)) (xne hj (by omega) (by omega) (by omega)))
      have hRu : xCh D cI (ad 4) (ad 5) n (rst (kf (i % st)) n n 0 (rgs kf st n (srG fr n 0 n) i)) H1 := xCh_keep hRu hk77 (fun z => z.elim (xne hj (by omega) (by omega) (by omega)) (xne hj (by omega) (by omega) (by omega))) (fun z => z.elim (xne hj (by omega) (by omega) (by omega)) (xne hj (by omega) (by omega) (by omega)))
      have hMa : xCh D cI (ad 6) (ad 7) zm fm H1 := xCh_keep hMa hk77 (fun z => z.elim (xne hj (by omega) (by omega) (by omega)) (xne hj (by omega) (by omega) (by omega))) (fun z => z.elim (xne hj (by omega) (by omega) (by omega)) (xne hj (by omega) (by omega) (by omega)))
      have hCs : xXC D cI ad zf pm H1 := xXC_keep hCs hk77 (fun i hi1 hi2 => (fun z => z.elim (xne hj (by omega) (by omega) (by omega)) (xne hj (by omega) (by omega) (by omega))))
      have hRs : xRs D cI (ad 8) (ad 9) u77.1 u77.2 H1 := hF77
      have hdg := dg_step (g := dfG (n, ch, pm, st, kf, rg)) hset h3 hp77 (hrk_congr (rgs_congr hsid (i + 1)) n (Nat.le_refl _))
      refine xn_iinc (v := i + 1) (lv' := [(2, .int (nI (i + 1))), (0, .ref (ad 0)), (1, .int (nI j1))]) hx hb dX3_differ_80 hl (k := 2) rfl (xinc1 _) (by decide) rfl (fun ls hl => ?_)
      refine lv_goto (tgt := 49) hx hb dX3_differ_83 (by decide) ?_
      exact ih49 (i + 1, u77.1, u77.2) _ _ _ _ ls ⟨(by dsimp only; omega), hdg.1, hdg.2, hO, hBk, hMe, hRu, hMa, hRs, hCs, hS, hce, hse, lv_sub hl [1, 2, 0] rfl⟩ (by dsimp only; omega)

set_option maxRecDepth 100000 in
set_option maxHeartbeats 4000000 in
theorem kAdvise_ (l : Launch) (hst9 : l.stackTraces = false) (D : va_G) (cI cC : ClassId) (ad : Nat → Nat) (hj : xInj ad) (S : AS) (hI : AI S) (x : Int32) : vx_Met l yX3_advise wsX3_advise (xRm 14 10 60) (va_Pc [.ref (ad 0), .int x] (xBZ D cI cC (xXW D cI cC ad S) (xAD ad))) (xI (fun r (_ : Unit) => tIn S x = 0 ∧ r = rAdvise S x) (fun _ H => xXW D cI cC ad (S) H) (xAD ad)) (xX (xAD ad) (fun E H => (tIn S x = 1 ∧ E = xEI) ∧ xXW D cI cC ad S H)) 10 60 (xAD ad) := by
  obtain ⟨n, ch, pm, st, kf, rg⟩ := S
  obtain ⟨⟨hn2, hn8⟩, hch, hst, hpm8, hpm, hkv, hkb⟩ := id hI
  dsimp only at hn2 hn8 hch hst hpm8 hpm hkv hkb
  refine vx_ofW (cc := cX3_advise) (maxL := 7) (ret := (some .int)) (by decide) rfl ?_
  intro p e s m args below meth c s₁ B hml htb hv
  obtain ⟨rfl, hP, hK, hZ⟩ := hv
  have hx := B.exec
  have hb := B.bytes
  have hr := B.returns
  have hts := atoms_spec (ws := wsX3_advise) B.pre
  have hown : s.vm.findClass RX3 = some m.cls := findClass_of_methodNamed B.named
  have hlocks := B.notSynchronized
  have hW := hP
  have hl := lv_entry ([.ref (ad 0), .int x]) (n := 7) (Nat.le_of_ble_eq_true rfl)
  rw [lg_entry_eq]
  generalize (lg_sl ([.ref (ad 0), .int x]) ++ List.replicate (7 - (lg_sl ([.ref (ad 0), .int x])).length) Slot.unset).toArray = ls at hl ⊢
  have hl : lv_has ls 7 [(0, .ref (ad 0)), (1, .int x)] := hl
  obtain ⟨zr, zm, zs, fr, fm, fs, zf, hO, hBk, hMe, hRu, hfr, hMa, hfm, hRs, hCs, hz⟩ := id hW
  have hO : xXO D ad n ch rg s.heap := hO
  have hMe : xMe D cI (ad 2) (ad 3) st kf s.heap := hMe
  have hCs : xXC D cI ad zf pm s.heap := hCs
  have hz : ∀ k, k < ch → zf k = n := hz
  have hS : va_S (xAD ad) s.heap s.heap [] := va_S.rf
  refine lv_aload_n hx hb dX3_advise_0 rfl (lv_at hl 0 rfl) ?_
  refine lv_iload_n hx hb dX3_advise_1 rfl (lv_at hl 1 rfl) ?_
  refine xtR (As := [.int x]) (rest := []) ⟨hx, hb, hml, hown, hts⟩ (cX3_find_ l hst9 D cI cC ad _ n ch rg (by omega) x) (cwV 1 hts gX3_advise_X3_find rfl rfl rfl (by decide +kernel) ⟨Nat.le_of_ble_eq_true rfl, Nat.le_of_ble_eq_true rfl⟩) hK ((hZ.kept hS.2.1).narrow (fun q h => h.elim)) ⟨rfl, hO, hBk⟩ (xRecv hK rfl hO) rfl hl.1 rfl (Nat.le_of_ble_eq_true rfl) dX3_advise_2 ⟨(by show 0 + 1 ≤ 10; omega), (by show 0 + 6 ≤ 60; omega)⟩ hS (fun q h => h.elim) (fun q h => h.elim) (fun E ce q9 H1 locs1 hB hz9 hk9 hS h1 h2 h3 => ?_) (fun u ra H1 locs1 hp hF hz9 hk2 hS => ?_)
  · obtain ⟨rfl, hn⟩ := hB
    exact x_pass htb hlocks h1 h2 h3 ⟨⟨if_neg hn, rfl⟩, (xXW_old hW (fun x9 hx9 => hk9 x9 hx9 id))⟩ hS (fun _ h => h) (by omega) (by omega)
  obtain ⟨rfl, hra⟩ := hF
  have hi2 := hp
  obtain ⟨j1, hj1, hj1b, rfl⟩ := inR_of hp
  rw [xN_nI hj1b] at hra
  subst hra
  have hl : lv_has ls 7 [(0, .ref (ad 0)), (1, .int (nI j1))] := hl
  have hC1 : xCh D cI (ad (10 + j1)) (ad (26 + j1)) n (pm j1) s.heap := xXC_at hCs (show j1 < 16 by omega) (hz j1 hj1)
  refine lv_astore_n (lv' := [(2, .ref (ad (10 + j1))), (0, .ref (ad 0)), (1, .int (nI j1))]) hx hb dX3_advise_5 rfl hl (by decide) rfl (fun ls hl => ?_)
  refine xn_iconst (v := 0) hx hb dX3_advise_6 (by decide) ?_
  refine lv_istore_n (lv' := [(3, .int (nI 0)), (2, .ref (ad (10 + j1))), (0, .ref (ad 0)), (1, .int (nI j1))]) hx hb dX3_advise_7 rfl hl (by decide) rfl (fun ls hl => ?_)
  refine xn_iconst (v := 0) hx hb dX3_advise_8 (by decide) ?_
  refine lv_istore (lv' := [(4, .int (nI 0)), (3, .int (nI 0)), (2, .ref (ad (10 + j1))), (0, .ref (ad 0)), (1, .int (nI j1))]) hx hb dX3_advise_9 hl (by decide) rfl (fun ls hl => ?_)
  refine xn_iconst (v := 0) hx hb dX3_advise_11 (by decide) ?_
  refine lv_istore (lv' := [(5, .int (nI 0)), (4, .int (nI 0)), (3, .int (nI 0)), (2, .ref (ad (10 + j1))), (0, .ref (ad 0)), (1, .int (nI j1))]) hx hb dX3_advise_12 hl (by decide) rfl (fun ls hl => ?_)
  refine x_loopH (σ := Nat × Nat × Nat × Nat × (Nat → Nat)) (fun a => ch - a.1) (fun a H locs cells slots ls => (a.1 ≤ ch) ∧ ((a.1 = 0 ∧ a.2.1 = 0) ∨ (0 < a.1 ∧ a.2.1 = adB (adG (n, ch, pm, st, kf, rg) j1) (a.1 - 1) ∧ a.2.2.1 = adG (n, ch, pm, st, kf, rg) j1 (adB (adG (n, ch, pm, st, kf, rg) j1) (a.1 - 1)))) ∧ (∀ x9, a.2.2.2.2 x9 < 8) ∧ (xXO D ad n ch rg H) ∧ (xXB D cC ad H) ∧ (xMe D cI (ad 2) (ad 3) st kf H) ∧ (xCh D cI (ad 4) (ad 5) zr fr H) ∧ (xCh D cI (ad 6) (ad 7) a.2.2.2.1 a.2.2.2.2 H) ∧ (xRs D cI (ad 8) (ad 9) zs fs H) ∧ (xXC D cI ad zf pm H) ∧ (xCh D cI (ad (10 + j1)) (ad (26 + j1)) n (pm j1) H) ∧ (va_S (xAD ad) s.heap H locs) ∧ (cells ≤ 2) ∧ (slots ≤ 12) ∧ lv_has ls 7 [(0, .ref (ad 0)), (1, .int (nI j1)), (2, .ref (ad (10 + j1))), (3, .int (nI a.2.1)), (4, .int (nI a.2.2.1)), (5, .int (nI a.1))]) ?_ (0, 0, 0, zm, fm) _ _ _ _ ls ⟨(Nat.zero_le _), (Or.inl ⟨rfl, rfl⟩), hfm, hO, hBk, hMe, hRu, hMa, hRs, hCs, hC1, hS, (by omega), (by omega), lv_sub hl [4, 5, 3, 2, 1, 0] rfl⟩
  rintro ⟨k, bst, lw, zm9, fm9⟩ H locs cells slots ls ⟨h2, h3, hfm, hO, hBk, hMe, hRu, hMa, hRs, hCs, hC1, hS, hce, hse, hl⟩ ih14
  dsimp only at h2 h3 hfm hO hBk hMe hRu hMa hRs hCs hC1 hS hce hse hl
  refine lv_iload hx hb dX3_advise_14 (lv_at hl 5 rfl) ?_
  refine lv_aload_n hx hb dX3_advise_16 rfl (lv_at hl 0 rfl) ?_
  refine x_get (v := .int (nI ch)) (C := RX3) (T := TX3) (N := 8) hx hb hts (by decide +kernel) hown hK hO rfl 6 (by decide) (hts (.fieldLink RX3 41 "BellRanks" "written" "I") (by decide +kernel)) (fun _ h9 => h9) rfl dX3_advise_17 ?_
  refine xn_icmp_ge (tgt := 72) hx hb dX3_advise_20 (by decide) (by omega) (by omega) (fun c20 => ?_) (fun c20 => ?_)
  · refine lv_iload_n hx hb dX3_advise_72 rfl (lv_at hl 3 rfl) ?_
    have ht : tIn (n, ch, pm, st, kf, rg) (nI j1) = 0 := if_pos hi2
    refine W.widen (k := 10) (n := 60) (by omega) (by omega) ?_
    refine vx_ret ?_
    exact x_miret hx hb hr hlocks () ⟨ht, (by show _ = rAdvise _ (nI j1); unfold rAdvise; simp only [xN_nI hj1b]; rcases h3 with z | z; exact absurd z.1 (by omega); rw [z.2.1, show k = ch by omega])⟩ (xXW_mk (S := (n, ch, pm, st, kf, rg)) hO hBk hMe hRu hfr hMa hfm hRs hCs hz) hS (fun _ h => h) dX3_advise_73
  · have hgk : ∀ z9, adG (n, ch, pm, st, kf, rg) j1 z9 < 2 ^ 31 := fun z9 => Nat.lt_of_le_of_lt (ivs_le _ _) (by have h9 : n * n ≤ 8 * 8 := Nat.mul_le_mul hn8 hn8; show n * n < 2 ^ 31; omega)
    refine lv_aload_n hx hb dX3_advise_23 rfl (lv_at hl 0 rfl) ?_
    refine x_get (v := .ref (ad 6)) (C := RX3) (T := TX3) (N := 8) hx hb hts (by decide +kernel) hown hK hO rfl 3 (by decide) (hts (.fieldLink RX3 27 "BellRanks" "made" "LBellRanks$Change;") (by decide +kernel)) (fun _ h9 => h9) rfl dX3_advise_24 ?_
    refine lv_aload_n hx hb dX3_advise_27 rfl (lv_at hl 2 rfl) ?_
    refine lv_aload_n hx hb dX3_advise_28 rfl (lv_at hl 0 rfl) ?_
    refine x_get (v := .ref (ad 1)) (C := RX3) (T := TX3) (N := 8) hx hb hts (by decide +kernel) hown hK hO rfl 0 (by decide) (hts (.fieldLink RX3 11 "BellRanks" "book" "[LBellRanks$Change;") (by decide +kernel)) (fun _ h9 => h9) rfl dX3_advise_29 ?_
    refine lv_iload hx hb dX3_advise_32 (lv_at hl 5 rfl) ?_
    refine x_aald hx hb hK hBk (show k < 16 by omega) (by decide) dX3_advise_34 ?_
    refine xmV (As := [.ref (ad (10 + j1)), .ref (ad (10 + k))]) (rest := []) ⟨hx, hb, hml, hown, hts⟩ (cX0_setBehind_ l D cI cC (ad 6) (ad 7) zm9 fm9 (ad (10 + k)) (ad (26 + k)) n (pm k) (ad (10 + j1)) (ad (26 + j1)) n (pm j1) (xne hj (by omega) (by omega) (by omega)) (xne hj (by omega) (by omega) (by omega)) (xne hj (by omega) (by omega) (by omega)) (xne hj (by omega) (by omega) (by omega)) (xne hj (by omega) (by omega) (by omega)) (xne hj (by omega) (by omega) (by omega)) (xne hj (by omega) (by omega) (by omega)) (xne hj (by omega) (by omega) (by omega)) (xne hj (by omega) (by omega) (by omega)) hn8 (hpm8 k)) (cwV 2 hts gX3_advise_X0_setBehind rfl rfl rfl (by decide +kernel) ⟨Nat.le_of_ble_eq_true rfl, Nat.le_of_ble_eq_true rfl⟩) hK ⟨hMa, hC1, (xXC_at hCs (show k < 16 by omega) (hz k (by omega)))⟩ (xRecv hK rfl hMa.1) rfl hl.1 rfl (Nat.le_of_ble_eq_true rfl) dX3_advise_35 ⟨(by show cells + 0 ≤ 10; omega), (by show slots + 0 ≤ 60; omega)⟩ hS (fun q h => h.elim (fun h => ⟨6, by omega, h⟩) (fun h => ⟨7, by omega, h⟩)) (fun q h => h.elim (fun h => ⟨6, by omega, h⟩) (fun h => ⟨7, by omega, h⟩)) (fun u35 H1 locs1 hp35 hF35 hz35 hk35 hS => ?_)
    have hO : xXO D ad n ch rg H1 := xat_keep hO hk35 (fun z => z.elim (xne hj (by omega) (by omega) (by omega)) (xne hj (by omega) (by omega) (by omega)))
    have hBk : xXB D cC ad H1 := xat_keep hBk hk35 (fun z => z.elim (xne hj (by omega) (by omega) (by omega)) (xne hj (by omega) (by omega) (by omega)))
    have hMe : xMe D cI (ad 2) (ad 3) st kf H1 := xMe_keep hMe hk35 (fun z => z.elim (xne hj (by omega) (by omega) (by omega)) (xne hj (by omega) (by omega) (by omega))) (fun z => z.elim (xne hj (by omega) (by omega) (by omega)) (xne hj (by omega) (by omega) (by omega)))
    have hRu : xCh D cI (ad 4) (ad 5) zr fr H1 := xCh_keep hRu hk35 (fun z => z.elim (xne hj (by omega) (by omega) (by omega)) (xne hj (by omega) (by omega) (by omega))) (fun z => z.elim (xne hj (by omega) (by omega) (by omega)) (xne hj (by omega) (by omega) (by omega)))
    have hRs : xRs D cI (ad 8) (ad 9) zs fs H1 := xRs_keep hRs hk35 (fun z => z.elim (xne hj (by omega) (by omega) (by omega)) (xne hj (by omega) (by omega) (by omega))) (fun z => z.elim (xne hj (by omega) (by omega) (by omega)) (xne hj (by omega) (by omega) (by omega)))
    have hC1 : xCh D cI (ad (10 + j1)) (ad (26 + j1)) n (pm j1) H1 := xCh_keep hC1 hk35 (fun z => z.elim (xne hj (by omega) (by omega) (by omega)) (xne hj (by omega) (by omega) (by omega))) (fun z => z.elim (xne hj (by omega) (by omega) (by omega)) (xne hj (by omega) (by omega) (by omega)))
    have hCs : xXC D cI ad zf pm H1 := xXC_keep hCs hk35 (fun i hi1 hi2 => (fun z => z.elim (xne hj (by omega) (by omega) (by omega)) (xne hj (by omega) (by omega) (by omega))))
    have hMa : xCh D cI (ad 6) (ad 7) n (cpy fm9 (fun q9 => (pm j1) ((pm k) q9)) n) H1 := hF35
    refine lv_aload_n hx hb dX3_advise_38 rfl (lv_at hl 0 rfl) ?_
    refine x_get (v := .ref (ad 6)) (C := RX3) (T := TX3) (N := 8) hx hb hts (by decide +kernel) hown hK hO rfl 3 (by decide) (hts (.fieldLink RX3 27 "BellRanks" "made" "LBellRanks$Change;") (by decide +kernel)) (fun _ h9 => h9) rfl dX3_advise_39 ?_
    refine xcV (As := []) (rest := []) ⟨hx, hb, hml, hown, hts⟩ (cX0_inversions_ l D cI cC (ad 6) (ad 7) n (cpy fm9 (fun q9 => (pm j1) ((pm k) q9)) n) hn8 (fun i9 => Nat.lt_trans ((cpy_bd hfm (fun _ _ => hpm8 j1 _)) i9) (by decide))) (cwV 0 hts gX3_advise_X0_inversions rfl rfl rfl (by decide +kernel) ⟨Nat.le_of_ble_eq_true rfl, Nat.le_of_ble_eq_true rfl⟩) hK hMa (xRecv hK rfl hMa.1) rfl hl.1 rfl (Nat.le_of_ble_eq_true rfl) dX3_advise_42 ⟨(by show cells ≤ 10; omega), (by show slots ≤ 60; omega)⟩ (fun x42 e42 => ?_)
    subst e42
    refine xz_i (congrArg nI (show ivs (cpy fm9 (fun q9 => (pm j1) ((pm k) q9)) n) n = adG (n, ch, pm, st, kf, rg) j1 k from ivs_congr (fun _ hi => cpy_lt hi))) ?_
    refine lv_istore (lv' := [(6, .int (nI (adG (n, ch, pm, st, kf, rg) j1 k))), (0, .ref (ad 0)), (1, .int (nI j1)), (2, .ref (ad (10 + j1))), (3, .int (nI bst)), (4, .int (nI lw)), (5, .int (nI k))]) hx hb dX3_advise_45 hl (by decide) rfl (fun ls hl => ?_)
    refine lv_iload hx hb dX3_advise_47 (lv_at hl 6 rfl) ?_
    refine xn_if_eq (tgt := 59) hx hb dX3_advise_49 (by decide) (by omega) (fun c49 => ?_) (fun c49 => ?_)
    · refine lv_iload hx hb dX3_advise_59 (lv_at hl 0 rfl) ?_
      refine lv_istore (lv' := [(4, .int (nI (adG (n, ch, pm, st, kf, rg) j1 k))), (6, .int (nI (adG (n, ch, pm, st, kf, rg) j1 k))), (0, .ref (ad 0)), (1, .int (nI j1)), (2, .ref (ad (10 + j1))), (3, .int (nI bst)), (5, .int (nI k))]) hx hb dX3_advise_61 hl (by decide) rfl (fun ls hl => ?_)
      refine lv_iload hx hb dX3_advise_63 (lv_at hl 6 rfl) ?_
      refine lv_istore_n (lv' := [(3, .int (nI k)), (4, .int (nI (adG (n, ch, pm, st, kf, rg) j1 k))), (6, .int (nI (adG (n, ch, pm, st, kf, rg) j1 k))), (0, .ref (ad 0)), (1, .int (nI j1)), (2, .ref (ad (10 + j1))), (5, .int (nI k))]) hx hb dX3_advise_65 rfl hl (by decide) rfl (fun ls hl => ?_)
      refine xn_iinc (v := k + 1) (lv' := [(5, .int (nI (k + 1))), (3, .int (nI k)), (4, .int (nI (adG (n, ch, pm, st, kf, rg) j1 k))), (6, .int (nI (adG (n, ch, pm, st, kf, rg) j1 k))), (0, .ref (ad 0)), (1, .int (nI j1)), (2, .ref (ad (10 + j1)))]) hx hb dX3_advise_66 hl (k := 6) rfl (xinc1 _) (by decide) rfl (fun ls hl => ?_)
      refine lv_goto (tgt := 14) hx hb dX3_advise_69 (by decide) ?_
      exact ih14 (k + 1, k, adG (n, ch, pm, st, kf, rg) j1 k, n, cpy fm9 (fun q9 => (pm j1) ((pm k) q9)) n) _ _ _ _ ls ⟨(by dsimp only; omega), (Or.inr ⟨Nat.succ_pos _, (by dsimp only; rw [c49]; rfl), (by dsimp only; rw [c49]; rfl)⟩), (cpy_bd hfm (fun _ _ => hpm8 j1 _)), hO, hBk, hMe, hRu, hMa, hRs, hCs, hC1, hS, hce, hse, lv_sub hl [4, 5, 6, 1, 2, 0] rfl⟩ (by dsimp only; omega)
    · obtain ⟨hk0, hb0, hl0⟩ : 0 < k ∧ bst = adB (adG (n, ch, pm, st, kf, rg) j1) (k - 1) ∧ lw = adG (n, ch, pm, st, kf, rg) j1 (adB (adG (n, ch, pm, st, kf, rg) j1) (k - 1)) := by
        rcases h3 with z | z
        · exact absurd z.1 (by omega)
        · exact z
      refine lv_iload hx hb dX3_advise_52 (lv_at hl 0 rfl) ?_
      refine lv_iload hx hb dX3_advise_54 (lv_at hl 5 rfl) ?_
      refine xn_icmp_ge (tgt := 66) hx hb dX3_advise_56 (by decide) (hgk k) (by rcases h3 with z | z; exact absurd z.1 (by omega); rw [z.2.2]; exact hgk _) (fun c56 => ?_) (fun c56 => ?_)
      · have had : adB (adG (n, ch, pm, st, kf, rg) j1) k = adB (adG (n, ch, pm, st, kf, rg) j1) (k - 1) := by
          obtain ⟨z, rfl⟩ : ∃ z, k = z + 1 := ⟨k - 1, by omega⟩
          show (if adG (n, ch, pm, st, kf, rg) j1 (z + 1) < adG (n, ch, pm, st, kf, rg) j1 (adB (adG (n, ch, pm, st, kf, rg) j1) z) then z + 1 else adB (adG (n, ch, pm, st, kf, rg) j1) z) = _
          rw [Nat.add_sub_cancel] at hl0 ⊢; rw [← hl0]; exact if_neg (by omega)
        refine xn_iinc (v := k + 1) (lv' := [(5, .int (nI (k + 1))), (6, .int (nI (adG (n, ch, pm, st, kf, rg) j1 k))), (0, .ref (ad 0)), (1, .int (nI j1)), (2, .ref (ad (10 + j1))), (3, .int (nI bst)), (4, .int (nI lw))]) hx hb dX3_advise_66 hl (k := 6) rfl (xinc1 _) (by decide) rfl (fun ls hl => ?_)
        refine lv_goto (tgt := 14) hx hb dX3_advise_69 (by decide) ?_
        exact ih14 (k + 1, bst, lw, n, cpy fm9 (fun q9 => (pm j1) ((pm k) q9)) n) _ _ _ _ ls ⟨(by dsimp only; omega), (Or.inr ⟨Nat.succ_pos _, (by dsimp only; rw [Nat.add_sub_cancel, had]; exact hb0), (by dsimp only; rw [Nat.add_sub_cancel, had]; exact hl0)⟩), (cpy_bd hfm (fun _ _ => hpm8 j1 _)), hO, hBk, hMe, hRu, hMa, hRs, hCs, hC1, hS, hce, hse, lv_sub hl [2, 3, 4, 5, 6, 0] rfl⟩ (by dsimp only; omega)
      · have had : adB (adG (n, ch, pm, st, kf, rg) j1) k = k := by
          obtain ⟨z, rfl⟩ : ∃ z, k = z + 1 := ⟨k - 1, by omega⟩
          show (if adG (n, ch, pm, st, kf, rg) j1 (z + 1) < adG (n, ch, pm, st, kf, rg) j1 (adB (adG (n, ch, pm, st, kf, rg) j1) z) then z + 1 else adB (adG (n, ch, pm, st, kf, rg) j1) z) = z + 1
          rw [Nat.add_sub_cancel] at hl0; rw [← hl0]; exact if_pos (by omega)
        refine lv_iload hx hb dX3_advise_59 (lv_at hl 0 rfl) ?_
        refine lv_istore (lv' := [(4, .int (nI (adG (n, ch, pm, st, kf, rg) j1 k))), (6, .int (nI (adG (n, ch, pm, st, kf, rg) j1 k))), (0, .ref (ad 0)), (1, .int (nI j1)), (2, .ref (ad (10 + j1))), (3, .int (nI bst)), (5, .int (nI k))]) hx hb dX3_advise_61 hl (by decide) rfl (fun ls hl => ?_)
        refine lv_iload hx hb dX3_advise_63 (lv_at hl 6 rfl) ?_
        refine lv_istore_n (lv' := [(3, .int (nI k)), (4, .int (nI (adG (n, ch, pm, st, kf, rg) j1 k))), (6, .int (nI (adG (n, ch, pm, st, kf, rg) j1 k))), (0, .ref (ad 0)), (1, .int (nI j1)), (2, .ref (ad (10 + j1))), (5, .int (nI k))]) hx hb dX3_advise_65 rfl hl (by decide) rfl (fun ls hl => ?_)
        refine xn_iinc (v := k + 1) (lv' := [(5, .int (nI (k + 1))), (3, .int (nI k)), (4, .int (nI (adG (n, ch, pm, st, kf, rg) j1 k))), (6, .int (nI (adG (n, ch, pm, st, kf, rg) j1 k))), (0, .ref (ad 0)), (1, .int (nI j1)), (2, .ref (ad (10 + j1)))]) hx hb dX3_advise_66 hl (k := 6) rfl (xinc1 _) (by decide) rfl (fun ls hl => ?_)
        refine lv_goto (tgt := 14) hx hb dX3_advise_69 (by decide) ?_
        exact ih14 (k + 1, k, adG (n, ch, pm, st, kf, rg) j1 k, n, cpy fm9 (fun q9 => (pm j1) ((pm k) q9)) n) _ _ _ _ ls ⟨(by dsimp only; omega), (Or.inr ⟨Nat.succ_pos _, (by dsimp only; rw [Nat.add_sub_cancel, had]), (by dsimp only; rw [Nat.add_sub_cancel, had])⟩), (cpy_bd hfm (fun _ _ => hpm8 j1 _)), hO, hBk, hMe, hRu, hMa, hRs, hCs, hC1, hS, hce, hse, lv_sub hl [4, 5, 6, 1, 2, 0] rfl⟩ (by dsimp only; omega)
