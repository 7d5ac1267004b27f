/-! THE LAW'S ROUNDS: what holds, what is answered -/
def qC (p : Program) (s : State) (m : MethodId) (c : Code) (b L : Nat) (xs : Nat → Int32) (D : va_G) (cI cC : ClassId) (ad : Nat → Nat) : Prop := p.tables.exec = Jvm.exec ∧ c.code = cL_law ∧ c.maxLocals = 18 ∧ s.vm.findClass RL = some m.cls ∧ (∀ w ∈ wsL_law, w.before #[Value.ref b] s = true) ∧ va_X b L xs s s.heap ∧ b < s.heap.size ∧ L < 2 ^ 31 ∧ xK D cI cC s ∧ xZ (fun q : Nat => s.heap.size ≤ q) s s.heap ∧ xInj ad ∧ ∀ q : Nat, xAD ad q → s.heap.size ≤ q
theorem t_told {S : AS} {k w : Nat} (hI : AI S) (hk : k < S.2.1) (hw : w < 8) : tTold S (nI k) (nI w) = 0 := if_pos ⟨(inR_nI (by have := hI.2.1; omega)).mpr hk, (inR_nI (by omega)).mpr hw⟩
theorem t_bell {S : AS} {k w : Nat} (hI : AI S) (hk : k < S.2.1) (hw : w < S.1) : tBell S (nI k) (nI w) = 0 := if_pos ⟨(inR_nI (by have := hI.2.1; omega)).mpr hk, (inR_nI (by have := hI.1.2; omega)).mpr hw⟩
theorem t_two {S : AS} {k w : Nat} (hI : AI S) (hk : k < S.2.1) (hw : w < S.2.1) : tTwo S (nI k) (nI w) = 0 := if_pos ⟨(inR_nI (by have := hI.2.1; omega)).mpr hk, (inR_nI (by have := hI.2.1; omega)).mpr hw⟩
theorem t_count {S : AS} {w : Nat} (hw : w < 6) : tCount S (nI w) = 0 := if_pos ((inR_nI (by omega)).mpr hw)
theorem t_in {S : AS} {k : Nat} (hI : AI S) (hk : k < S.2.1) : tIn S (nI k) = 0 := if_pos ((inR_nI (by have := hI.2.1; omega)).mpr hk)
theorem t_swap {S : AS} {k w : Nat} (hI : AI S) (hk : k < S.2.1) (hw : w < S.1 - 1) : tSwap S (nI k) (nI w) = 0 := if_pos ⟨(inR_nI (by have := hI.2.1; omega)).mpr hk, (inR_nI (by have := hI.1.2; omega)).mpr hw⟩
theorem t_behind {S : AS} {k w : Nat} (hI : AI S) (hk : k < S.2.1) (hw : w < S.2.1) (hc : S.2.1 ≠ 16) : tBehind S (nI k) (nI w) = 0 := by
  unfold tBehind
  rw [if_pos ⟨(inR_nI (by have := hI.2.1; omega)).mpr hk, (inR_nI (by have := hI.2.1; omega)).mpr hw⟩, if_neg hc]
theorem t_ring {S : AS} {k w : Nat} (hI : AI S) (hk : k < S.2.1) (h1 : 1 ≤ w) (h2 : w ≤ 200) : tRing S (nI k) (nI w) = 0 := by
  unfold tRing
  rw [if_pos ((inR_nI (by have := hI.2.1; omega)).mpr hk), if_pos ⟨(inR_nI (by omega)).mpr (by omega), by rw [xN_nI (by omega)]; exact h1⟩]
theorem t_differ {S : AS} : tDiffer S (nI 40) = 0 := if_pos ⟨(inR_nI (by decide)).mpr (by decide), by rw [xN_nI (by decide)]; decide⟩
theorem v_told {S : AS} {k w : Nat} (hk : k < 2 ^ 31) (hw : w < 2 ^ 31) : rTold S (nI k) (nI w) = nI (tld (S.2.2.1 k) S.1 w) := by unfold rTold; rw [xN_nI hk, xN_nI hw]
theorem v_bell {S : AS} {k w : Nat} (hk : k < 2 ^ 31) (hw : w < 2 ^ 31) : rBell S (nI k) (nI w) = nI (S.2.2.1 k w) := by unfold rBell; rw [xN_nI hk, xN_nI hw]
theorem v_round {S : AS} {k w : Nat} (hk : k < 2 ^ 31) (hw : w < 2 ^ 31) : rRound S (nI k) (nI w) = nI (per (S.2.2.1 k) S.1 w) := by unfold rRound; rw [xN_nI hk, xN_nI hw]
theorem v_apart {S : AS} {k : Nat} (hI : AI S) (hk : k < S.2.1) : rApart S (nI k) (nI k) = nI 0 := by
  unfold rApart
  rw [xN_nI (by have := hI.2.1; omega)]
  exact congrArg nI (ap_self (hI.2.2.2.2.1 k hk))
theorem v_count {S : AS} {w : Nat} (hw : w < 2 ^ 31) : rCount S (nI w) = nI (cvS S w) := by unfold rCount; rw [xN_nI hw]
theorem b_hrk {f : Nat → Nat} {n : Nat} (hn : n ≤ 8) : hrk f n n < 2 ^ 31 := Nat.lt_trans (hrk_bd hn) (by decide)
theorem b_ivs {f : Nat → Nat} {n : Nat} (hn : n ≤ 8) : ivs f n < 2 ^ 31 := Nat.lt_of_le_of_lt (Nat.le_trans (ivs_le f n) (Nat.mul_le_mul hn hn)) (by decide)
theorem b_mod2 (x : Nat) : x % 2 < 2 ^ 31 := Nat.lt_trans (Nat.mod_lt _ (by decide)) (by decide)
theorem b_per {f : Nat → Nat} {n j : Nat} (h2 : 2 ≤ n) (hn : n ≤ 8) : per f n j < 2 ^ 31 := Nat.lt_of_le_of_lt (per_le (j := 0) (by omega) j) (by omega)
theorem b_ord {f : Nat → Nat} {n : Nat} (hn : n ≤ 8) : ord f n n < 2 ^ 31 := Nat.lt_trans (ord_ok hn n (Nat.le_refl n)).2.1 (by decide)
theorem own_le (f : Nat → Nat) (k : Nat) : sm (own f) k ≤ k := by
  have := sm_le (g := own f) (b := 1) (k := k) (fun q _ => by unfold own; split <;> decide)
  omega
theorem rings_le {f : Nat → Nat} {n : Nat} : sm (lst f n) n ≤ n := by
  have := sm_le (g := lst f n) (b := 1) (k := n) (fun q _ => lst_le f n q)
  omega
theorem pos_le (f : Nat → Nat) (n v : Nat) : pos f n v ≤ n := (fnd_spec (fun i => f i == v) n).1
theorem tw_shl {k : Nat} (h : k ≤ 8) : nI 1 <<< (nI k &&& 31) = nI (2 ^ k) := by
  have h2 : 2 ^ k ≤ 2 ^ 8 := Nat.pow_le_pow_right (by decide) h
  rw [xshl (by rw [Nat.one_mul]; omega) (by omega), Nat.one_mul]
set_option maxRecDepth 100000 in
set_option maxHeartbeats 4000000 in
theorem lwK_ {p : Program} {l : Launch} {e : Env} {s : State} {m : MethodId} {below : List Frame} {meth : Method} {c : Code} {b L : Nat} {xs : Nat → Int32} {D : va_G} {cI cC : ClassId} {ad : Nat → Nat} {Q : State → Prop} {n st : Nat} {kf : Nat → Nat} (hst9 : l.stackTraces = false) (C : qC p s m c b L xs D cI cC ad) {ch : Nat} {pm : Nat → Nat → Nat} {rg ti : Nat} (hI : AI (n, ch, pm, st, kf, rg)) (hrg : rg < 2 ^ 30) {H : Heap} {locs : List Loc} {cells0 slots0 : Nat} {ls : Array Slot} (hW : xXW D cI cC ad (n, ch, pm, st, kf, rg) H) (hS : va_S (fun q : Nat => s.heap.size ≤ q) s.heap H locs) (hc : cells0 + 6880 ≤ 600172) (hs : slots0 + 41280 ≤ 7300668) (hl : lv_has ls 18 [(0, .ref b), (1, .ref (ad 0)), (2, .int (nI n)), (3, .int (nI st)), (4, .int (nI rg)), (5, .int (nI ch)), (6, .int (nI ti))])
    (K : ∀ (H1 : Heap) (locs1 : List Loc) (cells1 slots1 : Nat) (ls1 : Array Slot), xXW D cI cC ad (n, ch, pm, st, kf, rg) H1 → va_S (fun q : Nat => s.heap.size ≤ q) s.heap H1 locs1 → cells1 ≤ cells0 + 6880 → slots1 ≤ slots0 + 41280 → lv_has ls1 18 [(0, .ref b), (1, .ref (ad 0)), (2, .int (nI n)), (3, .int (nI st)), (4, .int (nI rg)), (5, .int (nI ch)), (6, .int (nI ti))] → W p l e room_1 s m #[Value.ref b] below meth c H1 locs1 cells1 slots1 Q (F0 m 734 ls1 [])) :
    W p l e room_1 s m #[Value.ref b] below meth c H locs cells0 slots0 Q (F0 m 513 ls []) := by
  obtain ⟨hx, hb, hml, hown, hts, hX, hbl, hL, hK, hZ, hj, hA⟩ := id C
  have hbA : ¬ (fun q : Nat => s.heap.size ≤ q) b := Nat.not_le.mpr hbl
  obtain ⟨⟨hn2, hn8⟩, hch, hst, hpm8, hpm, hkv, hkb⟩ := id hI
  have hn2 : 2 ≤ n := hn2
  have hn8 : n ≤ 8 := hn8
  have hch : ch ≤ 16 := hch
  have hst : st ≤ 10 := hst
  have hpm8 : ∀ k i, pm k i < 8 := hpm8
  have hpm : ∀ k, k < ch → Prm n (pm k) := hpm
  refine xn_iconst (v := 0) hx hb dL_law_513 (by decide) ?_
  refine lv_istore (lv' := [(13, .int (nI 0)), (0, .ref b), (1, .ref (ad 0)), (2, .int (nI n)), (3, .int (nI st)), (4, .int (nI rg)), (5, .int (nI ch)), (6, .int (nI ti))]) hx hb dL_law_514 hl (by decide) rfl (fun ls hl => ?_)
  refine x_loopH (σ := Nat) (fun a => ch - a) (fun a H locs cells slots ls => (a ≤ ch) ∧ (xXW D cI cC ad (n, ch, pm, st, kf, rg) H) ∧ (va_S (fun q : Nat => s.heap.size ≤ q) s.heap H locs) ∧ (cells ≤ cells0 + 430 * a) ∧ (slots ≤ slots0 + 2580 * a) ∧ lv_has ls 18 [(0, .ref b), (1, .ref (ad 0)), (2, .int (nI n)), (3, .int (nI st)), (4, .int (nI rg)), (5, .int (nI ch)), (6, .int (nI ti)), (13, .int (nI a))]) ?_ 0 _ _ _ _ ls ⟨(Nat.zero_le _), hW, hS, (by omega), (by omega), lv_sub hl [1, 2, 3, 4, 5, 6, 7, 0] rfl⟩
  rintro k H locs cells slots ls ⟨hk9, hW, hS, hce, hse, hl⟩ ih516
  
  refine lv_iload hx hb dL_law_516 (lv_at hl 7 rfl) ?_
  refine lv_iload hx hb dL_law_518 (lv_at hl 5 rfl) ?_
  refine xn_icmp_ge (tgt := 734) hx hb dL_law_520 (by decide) (by omega) (by omega) (fun c520 => ?_) (fun c520 => ?_)
  · exact K _ _ _ _ _ hW hS (by omega) (by omega) (lv_sub hl [0, 1, 2, 3, 4, 5, 6] rfl)
  · have hk : k < ch := by omega
    have hp9 : Prm n (pm k) := hpm k hk
    have hpr := par_rings n (pm k) hp9
    have hrl := hpr.1
    have hpw : 0 < 2 ^ n := Nat.two_pow_pos n
    have hpw8 : 2 ^ n ≤ 2 ^ 8 := Nat.pow_le_pow_right (by decide) hn8
    refine xn_iconst (v := 0) hx hb dL_law_523 (by decide) ?_
    refine lv_istore (lv' := [(14, .int (nI 0)), (0, .ref b), (1, .ref (ad 0)), (2, .int (nI n)), (3, .int (nI st)), (4, .int (nI rg)), (5, .int (nI ch)), (6, .int (nI ti)), (13, .int (nI k))]) hx hb dL_law_524 hl (by decide) rfl (fun ls hl => ?_)
    refine xn_iconst (v := 0) hx hb dL_law_526 (by decide) ?_
    refine lv_istore (lv' := [(15, .int (nI 0)), (14, .int (nI 0)), (0, .ref b), (1, .ref (ad 0)), (2, .int (nI n)), (3, .int (nI st)), (4, .int (nI rg)), (5, .int (nI ch)), (6, .int (nI ti)), (13, .int (nI k))]) hx hb dL_law_527 hl (by decide) rfl (fun ls hl => ?_)
    refine xn_iconst (v := 0) hx hb dL_law_529 (by decide) ?_
    refine lv_istore (lv' := [(16, .int (nI 0)), (15, .int (nI 0)), (14, .int (nI 0)), (0, .ref b), (1, .ref (ad 0)), (2, .int (nI n)), (3, .int (nI st)), (4, .int (nI rg)), (5, .int (nI ch)), (6, .int (nI ti)), (13, .int (nI k))]) hx hb dL_law_530 hl (by decide) rfl (fun ls hl => ?_)
    refine x_loopH (σ := Nat) (fun a => n - a) (fun a H locs cells slots ls => (a ≤ n) ∧ (xXW D cI cC ad (n, ch, pm, st, kf, rg) H) ∧ (va_S (fun q : Nat => s.heap.size ≤ q) s.heap H locs) ∧ (cells ≤ cells0 + 430 * k + 40 * a) ∧ (slots ≤ slots0 + 2580 * k + 240 * a) ∧ lv_has ls 18 [(0, .ref b), (1, .ref (ad 0)), (2, .int (nI n)), (3, .int (nI st)), (4, .int (nI rg)), (5, .int (nI ch)), (6, .int (nI ti)), (13, .int (nI k)), (14, .int (nI (orr (pm k) a))), (15, .int (nI (sm (own (pm k)) a))), (16, .int (nI a))]) ?_ 0 _ _ _ _ ls ⟨(Nat.zero_le _), hW, hS, (by omega), (by omega), lv_sub hl [3, 4, 5, 6, 7, 8, 9, 10, 2, 1, 0] rfl⟩
    rintro p9 H locs cells slots ls ⟨hp8, hW, hS, hce2, hse2, hl⟩ ih532
    
    refine lv_iload hx hb dL_law_532 (lv_at hl 10 rfl) ?_
    refine lv_iload_n hx hb dL_law_534 rfl (lv_at hl 2 rfl) ?_
    refine xn_icmp_ge (tgt := 602) hx hb dL_law_535 (by decide) (by omega) (by omega) (fun c535 => ?_) (fun c535 => ?_)
    · have hpn : p9 = n := by omega
      rw [hpn] at hl
      refine lv_iload hx hb dL_law_602 (lv_at hl 8 rfl) ?_
      refine xn_iconst (v := 1) hx hb dL_law_604 (by decide) ?_
      refine lv_iload_n hx hb dL_law_605 rfl (lv_at hl 2 rfl) ?_
      refine lv_ishl hx hb dL_law_606 ?_
      refine xz_i (y := (nI (2 ^ n))) (tw_shl hn8) ?_
      refine xn_iconst (v := 1) hx hb dL_law_607 (by decide) ?_
      refine xn_isub hx hb (by omega) dL_law_608 ?_
      refine xn_icmp_ne (tgt := 726) hx hb dL_law_609 (by decide) (Nat.lt_trans (orr_lt (hpm8 _) _) (by decide)) (by omega) (fun c609 => ?_) (fun c609 => ?_)
      · exact absurd (orr_all hp9) c609
      · refine lv_iload hx hb dL_law_612 (lv_at hl 9 rfl) ?_
        refine lv_aload_n hx hb dL_law_614 rfl (lv_at hl 1 rfl) ?_
        refine lv_iload hx hb dL_law_615 (lv_at hl 7 rfl) ?_
        refine xn_bipush (v := 6) hx hb dL_law_617 (by decide) ?_
        refine xoC (As := [.int (nI k), .int (nI 6)]) (rest := [.int (nI (sm (own (pm k)) n))]) ⟨hx, hb, hml, hown, hts⟩ (kTold_ l hst9 D cI cC ad hj (n, ch, pm, st, kf, rg) hI (nI k) (nI 6)) (fun _ _ hB => no1 (t_told (S := (n, ch, pm, st, kf, rg)) hI (show k < ch by omega) (by decide)) hB) (cwV 2 hts gL_law_X3_told rfl rfl rfl (by decide +kernel) ⟨Nat.le_of_ble_eq_true rfl, Nat.le_of_ble_eq_true rfl⟩) hK hZ hW rfl hl.1 rfl (Nat.le_of_ble_eq_true rfl) dL_law_619 ⟨(by show cells + 10 ≤ 600172; omega), (by show slots + 60 ≤ 7300668; omega)⟩ hS hA (fun H1 locs1 hW hS => ?_)
        refine xz_i (y := nI (sm (own (pm k)) n)) (v_told (by omega) (by decide)) ?_
        refine xn_icmp_ne (tgt := 726) hx hb dL_law_622 (by decide) (Nat.lt_of_le_of_lt (own_le _ _) (by omega)) (Nat.lt_of_le_of_lt (own_le _ _) (by omega)) (fun c622 => ?_) (fun c622 => ?_)
        · exact absurd rfl c622
        · refine lv_aload_n hx hb dL_law_625 rfl (lv_at hl 1 rfl) ?_
          refine lv_iload hx hb dL_law_626 (lv_at hl 7 rfl) ?_
          refine lv_aload_n hx hb dL_law_628 rfl (lv_at hl 1 rfl) ?_
          refine lv_iload hx hb dL_law_629 (lv_at hl 7 rfl) ?_
          refine xn_bipush (v := 7) hx hb dL_law_631 (by decide) ?_
          refine xoC (As := [.int (nI k), .int (nI 7)]) (rest := [.int (nI k), .ref (ad 0)]) ⟨hx, hb, hml, hown, hts⟩ (kTold_ l hst9 D cI cC ad hj (n, ch, pm, st, kf, rg) hI (nI k) (nI 7)) (fun _ _ hB => no1 (t_told (S := (n, ch, pm, st, kf, rg)) hI (show k < ch by omega) (by decide)) hB) (cwV 2 hts gL_law_X3_told rfl rfl rfl (by decide +kernel) ⟨Nat.le_of_ble_eq_true rfl, Nat.le_of_ble_eq_true rfl⟩) hK hZ hW rfl hl.1 rfl (Nat.le_of_ble_eq_true rfl) dL_law_633 ⟨(by show cells + 10 + 10 ≤ 600172; omega), (by show slots + 60 + 60 ≤ 7300668; omega)⟩ hS hA (fun H1 locs1 hW hS => ?_)
          refine xz_i (y := nI (pos (pm k) n 0)) (v_told (by omega) (by decide)) ?_
          refine xoC (As := [.int (nI k), .int (nI (pos (pm k) n 0))]) (rest := []) ⟨hx, hb, hml, hown, hts⟩ (kBell_ l hst9 D cI cC ad hj (n, ch, pm, st, kf, rg) hI (nI k) (nI (pos (pm k) n 0))) (fun _ _ hB => no1 (t_bell (S := (n, ch, pm, st, kf, rg)) hI (show k < ch by omega) (show pos (pm k) n 0 < n by exact (pos_lt hp9 (show 0 < n by omega)).1)) hB) (cwV 2 hts gL_law_X3_bell rfl rfl rfl (by decide +kernel) ⟨Nat.le_of_ble_eq_true rfl, Nat.le_of_ble_eq_true rfl⟩) hK hZ hW rfl hl.1 rfl (Nat.le_of_ble_eq_true rfl) dL_law_636 ⟨(by show cells + 10 + 10 + 10 ≤ 600172; omega), (by show slots + 60 + 60 + 60 ≤ 7300668; omega)⟩ hS hA (fun H1 locs1 hW hS => ?_)
          refine xz_i (y := nI ((pm k) (pos (pm k) n 0))) (v_bell (by omega) (Nat.lt_of_le_of_lt (pos_le _ _ _) (by omega))) ?_
          refine xz_i (y := nI 0) (congrArg nI (pos_lt hp9 (show 0 < n by omega)).2) ?_
          refine xn_if_ne (tgt := 726) hx hb dL_law_639 (by decide) (by decide) (fun c => absurd c (by decide)) (fun _ => ?_)
          refine lv_aload_n hx hb dL_law_642 rfl (lv_at hl 1 rfl) ?_
          refine lv_iload hx hb dL_law_643 (lv_at hl 7 rfl) ?_
          refine lv_iload hx hb dL_law_645 (lv_at hl 7 rfl) ?_
          refine xoC (As := [.int (nI k), .int (nI k)]) (rest := []) ⟨hx, hb, hml, hown, hts⟩ (kApart_ l hst9 D cI cC ad hj (n, ch, pm, st, kf, rg) hI (nI k) (nI k)) (fun _ _ hB => no1 (t_two (S := (n, ch, pm, st, kf, rg)) hI (show k < ch by omega) (show k < ch by omega)) hB) (cwV 2 hts gL_law_X3_apart rfl rfl rfl (by decide +kernel) ⟨Nat.le_of_ble_eq_true rfl, Nat.le_of_ble_eq_true rfl⟩) hK hZ hW rfl hl.1 rfl (Nat.le_of_ble_eq_true rfl) dL_law_647 ⟨(by show cells + 10 + 10 + 10 + 10 ≤ 600172; omega), (by show slots + 60 + 60 + 60 + 60 ≤ 7300668; omega)⟩ hS hA (fun H1 locs1 hW hS => ?_)
          refine xz_i (y := nI 0) (v_apart (S := (n, ch, pm, st, kf, rg)) hI (show k < ch by omega)) ?_
          refine xn_if_ne (tgt := 726) hx hb dL_law_650 (by decide) (by decide) (fun c => absurd c (by decide)) (fun _ => ?_)
          refine lv_aload_n hx hb dL_law_653 rfl (lv_at hl 1 rfl) ?_
          refine lv_iload hx hb dL_law_654 (lv_at hl 7 rfl) ?_
          refine xn_iconst (v := 2) hx hb dL_law_656 (by decide) ?_
          refine xoC (As := [.int (nI k), .int (nI 2)]) (rest := []) ⟨hx, hb, hml, hown, hts⟩ (kTold_ l hst9 D cI cC ad hj (n, ch, pm, st, kf, rg) hI (nI k) (nI 2)) (fun _ _ hB => no1 (t_told (S := (n, ch, pm, st, kf, rg)) hI (show k < ch by omega) (by decide)) hB) (cwV 2 hts gL_law_X3_told rfl rfl rfl (by decide +kernel) ⟨Nat.le_of_ble_eq_true rfl, Nat.le_of_ble_eq_true rfl⟩) hK hZ hW rfl hl.1 rfl (Nat.le_of_ble_eq_true rfl) dL_law_657 ⟨(by show cells + 10 + 10 + 10 + 10 + 10 ≤ 600172; omega), (by show slots + 60 + 60 + 60 + 60 + 60 ≤ 7300668; omega)⟩ hS hA (fun H1 locs1 hW hS => ?_)
          refine xz_i (y := nI (ivs (pm k) n % 2)) (v_told (by omega) (by decide)) ?_
          refine lv_aload_n hx hb dL_law_660 rfl (lv_at hl 1 rfl) ?_
          refine lv_iload hx hb dL_law_661 (lv_at hl 7 rfl) ?_
          refine xn_iconst (v := 1) hx hb dL_law_663 (by decide) ?_
          refine xoC (As := [.int (nI k), .int (nI 1)]) (rest := [.int (nI (ivs (pm k) n % 2))]) ⟨hx, hb, hml, hown, hts⟩ (kTold_ l hst9 D cI cC ad hj (n, ch, pm, st, kf, rg) hI (nI k) (nI 1)) (fun _ _ hB => no1 (t_told (S := (n, ch, pm, st, kf, rg)) hI (show k < ch by omega) (by decide)) hB) (cwV 2 hts gL_law_X3_told rfl rfl rfl (by decide +kernel) ⟨Nat.le_of_ble_eq_true rfl, Nat.le_of_ble_eq_true rfl⟩) hK hZ hW rfl hl.1 rfl (Nat.le_of_ble_eq_true rfl) dL_law_664 ⟨(by show cells + 10 + 10 + 10 + 10 + 10 + 10 ≤ 600172; omega), (by show slots + 60 + 60 + 60 + 60 + 60 + 60 ≤ 7300668; omega)⟩ hS hA (fun H1 locs1 hW hS => ?_)
          refine xz_i (y := nI (ivs (pm k) n)) (v_told (by omega) (by decide)) ?_
          refine xn_iconst (v := 2) hx hb dL_law_667 (by decide) ?_
          refine xn_irem hx hb (b_ivs hn8) (by decide) (by decide) dL_law_668 ?_
          refine xn_icmp_ne (tgt := 726) hx hb dL_law_669 (by decide) (b_mod2 _) (b_mod2 _) (fun c669 => ?_) (fun c669 => ?_)
          · exact absurd rfl c669
          · refine lv_iload_n hx hb dL_law_672 rfl (lv_at hl 2 rfl) ?_
            refine lv_aload_n hx hb dL_law_673 rfl (lv_at hl 1 rfl) ?_
            refine lv_iload hx hb dL_law_674 (lv_at hl 7 rfl) ?_
            refine xn_iconst (v := 3) hx hb dL_law_676 (by decide) ?_
            refine xoC (As := [.int (nI k), .int (nI 3)]) (rest := [.int (nI n)]) ⟨hx, hb, hml, hown, hts⟩ (kTold_ l hst9 D cI cC ad hj (n, ch, pm, st, kf, rg) hI (nI k) (nI 3)) (fun _ _ hB => no1 (t_told (S := (n, ch, pm, st, kf, rg)) hI (show k < ch by omega) (by decide)) hB) (cwV 2 hts gL_law_X3_told rfl rfl rfl (by decide +kernel) ⟨Nat.le_of_ble_eq_true rfl, Nat.le_of_ble_eq_true rfl⟩) hK hZ hW rfl hl.1 rfl (Nat.le_of_ble_eq_true rfl) dL_law_677 ⟨(by show cells + 10 + 10 + 10 + 10 + 10 + 10 + 10 ≤ 600172; omega), (by show slots + 60 + 60 + 60 + 60 + 60 + 60 + 60 ≤ 7300668; omega)⟩ hS hA (fun H1 locs1 hW hS => ?_)
            refine xz_i (y := nI (sm (lst (pm k) n) n)) (v_told (by omega) (by decide)) ?_
            refine xn_isub hx hb (by omega) dL_law_680 ?_
            refine xn_iconst (v := 2) hx hb dL_law_681 (by decide) ?_
            refine xn_irem hx hb (by omega) (by decide) (by decide) dL_law_682 ?_
            refine lv_aload_n hx hb dL_law_683 rfl (lv_at hl 1 rfl) ?_
            refine lv_iload hx hb dL_law_684 (lv_at hl 7 rfl) ?_
            refine xn_iconst (v := 2) hx hb dL_law_686 (by decide) ?_
            refine xoC (As := [.int (nI k), .int (nI 2)]) (rest := [.int (nI ((n - (sm (lst (pm k) n) n)) % 2))]) ⟨hx, hb, hml, hown, hts⟩ (kTold_ l hst9 D cI cC ad hj (n, ch, pm, st, kf, rg) hI (nI k) (nI 2)) (fun _ _ hB => no1 (t_told (S := (n, ch, pm, st, kf, rg)) hI (show k < ch by omega) (by decide)) hB) (cwV 2 hts gL_law_X3_told rfl rfl rfl (by decide +kernel) ⟨Nat.le_of_ble_eq_true rfl, Nat.le_of_ble_eq_true rfl⟩) hK hZ hW rfl hl.1 rfl (Nat.le_of_ble_eq_true rfl) dL_law_687 ⟨(by show cells + 10 + 10 + 10 + 10 + 10 + 10 + 10 + 10 ≤ 600172; omega), (by show slots + 60 + 60 + 60 + 60 + 60 + 60 + 60 + 60 ≤ 7300668; omega)⟩ hS hA (fun H1 locs1 hW hS => ?_)
            refine xz_i (y := nI (ivs (pm k) n % 2)) (v_told (by omega) (by decide)) ?_
            refine xn_icmp_ne (tgt := 726) hx hb dL_law_690 (by decide) (b_mod2 _) (b_mod2 _) (fun c690 => ?_) (fun c690 => ?_)
            · exact absurd hpr.2 c690
            · refine lv_aload_n hx hb dL_law_693 rfl (lv_at hl 1 rfl) ?_
              refine lv_iload hx hb dL_law_694 (lv_at hl 7 rfl) ?_
              refine xn_iconst (v := 0) hx hb dL_law_696 (by decide) ?_
              refine xoC (As := [.int (nI k), .int (nI 0)]) (rest := []) ⟨hx, hb, hml, hown, hts⟩ (kTold_ l hst9 D cI cC ad hj (n, ch, pm, st, kf, rg) hI (nI k) (nI 0)) (fun _ _ hB => no1 (t_told (S := (n, ch, pm, st, kf, rg)) hI (show k < ch by omega) (by decide)) hB) (cwV 2 hts gL_law_X3_told rfl rfl rfl (by decide +kernel) ⟨Nat.le_of_ble_eq_true rfl, Nat.le_of_ble_eq_true rfl⟩) hK hZ hW rfl hl.1 rfl (Nat.le_of_ble_eq_true rfl) dL_law_697 ⟨(by show cells + 10 + 10 + 10 + 10 + 10 + 10 + 10 + 10 + 10 ≤ 600172; omega), (by show slots + 60 + 60 + 60 + 60 + 60 + 60 + 60 + 60 + 60 ≤ 7300668; omega)⟩ hS hA (fun H1 locs1 hW hS => ?_)
              refine xz_i (y := nI (hrk (pm k) n n)) (v_told (by omega) (by decide)) ?_
              refine xn_if_ne (tgt := 707) hx hb dL_law_700 (by decide) (b_hrk hn8) (fun c700 => ?_) (fun c700 => ?_)
              · refine xn_iconst (v := 0) hx hb dL_law_707 (by decide) ?_
                refine lv_aload_n hx hb dL_law_708 rfl (lv_at hl 1 rfl) ?_
                refine lv_iload hx hb dL_law_709 (lv_at hl 7 rfl) ?_
                refine xn_iconst (v := 1) hx hb dL_law_711 (by decide) ?_
                refine xoC (As := [.int (nI k), .int (nI 1)]) (rest := [.int (nI 0)]) ⟨hx, hb, hml, hown, hts⟩ (kTold_ l hst9 D cI cC ad hj (n, ch, pm, st, kf, rg) hI (nI k) (nI 1)) (fun _ _ hB => no1 (t_told (S := (n, ch, pm, st, kf, rg)) hI (show k < ch by omega) (by decide)) hB) (cwV 2 hts gL_law_X3_told rfl rfl rfl (by decide +kernel) ⟨Nat.le_of_ble_eq_true rfl, Nat.le_of_ble_eq_true rfl⟩) hK hZ hW rfl hl.1 rfl (Nat.le_of_ble_eq_true rfl) dL_law_712 ⟨(by show cells + 10 + 10 + 10 + 10 + 10 + 10 + 10 + 10 + 10 + 10 ≤ 600172; omega), (by show slots + 60 + 60 + 60 + 60 + 60 + 60 + 60 + 60 + 60 + 60 ≤ 7300668; omega)⟩ hS hA (fun H1 locs1 hW hS => ?_)
                refine xz_i (y := nI (ivs (pm k) n)) (v_told (by omega) (by decide)) ?_
                refine xn_if_ne (tgt := 722) hx hb dL_law_715 (by decide) (b_ivs hn8) (fun c715 => ?_) (fun c715 => ?_)
                · refine xn_iconst (v := 0) hx hb dL_law_722 (by decide) ?_
                  refine xn_icmp_eq (tgt := 728) hx hb dL_law_723 (by decide) (by decide) (by decide) (fun _ => ?_) (fun c => absurd c (by decide))
                  refine xn_iinc (v := k + 1) (lv' := [(13, .int (nI (k + 1))), (0, .ref b), (1, .ref (ad 0)), (2, .int (nI n)), (3, .int (nI st)), (4, .int (nI rg)), (5, .int (nI ch)), (6, .int (nI ti)), (14, .int (nI (orr (pm k) n))), (15, .int (nI (sm (own (pm k)) n))), (16, .int (nI n))]) hx hb dL_law_728 hl (k := 7) rfl (xinc1 _) (by decide) rfl (fun ls hl => ?_)
                  refine lv_goto (tgt := 516) hx hb dL_law_731 (by decide) ?_
                  exact ih516 (k + 1) _ _ _ _ ls ⟨(by omega), hW, hS, (by omega), (by omega), lv_sub hl [1, 2, 3, 4, 5, 6, 7, 0] rfl⟩ (by omega)
                · refine xn_iconst (v := 1) hx hb dL_law_718 (by decide) ?_
                  refine lv_goto (tgt := 723) hx hb dL_law_719 (by decide) ?_
                  exact absurd ((hrk_zero (f := pm k) (n := n) n (Nat.le_refl n)).mpr c715) (Nat.ne_of_gt c700)
              · refine xn_iconst (v := 1) hx hb dL_law_703 (by decide) ?_
                refine lv_goto (tgt := 708) hx hb dL_law_704 (by decide) ?_
                refine lv_aload_n hx hb dL_law_708 rfl (lv_at hl 1 rfl) ?_
                refine lv_iload hx hb dL_law_709 (lv_at hl 7 rfl) ?_
                refine xn_iconst (v := 1) hx hb dL_law_711 (by decide) ?_
                refine xoC (As := [.int (nI k), .int (nI 1)]) (rest := [.int (nI 1)]) ⟨hx, hb, hml, hown, hts⟩ (kTold_ l hst9 D cI cC ad hj (n, ch, pm, st, kf, rg) hI (nI k) (nI 1)) (fun _ _ hB => no1 (t_told (S := (n, ch, pm, st, kf, rg)) hI (show k < ch by omega) (by decide)) hB) (cwV 2 hts gL_law_X3_told rfl rfl rfl (by decide +kernel) ⟨Nat.le_of_ble_eq_true rfl, Nat.le_of_ble_eq_true rfl⟩) hK hZ hW rfl hl.1 rfl (Nat.le_of_ble_eq_true rfl) dL_law_712 ⟨(by show cells + 10 + 10 + 10 + 10 + 10 + 10 + 10 + 10 + 10 + 10 ≤ 600172; omega), (by show slots + 60 + 60 + 60 + 60 + 60 + 60 + 60 + 60 + 60 + 60 ≤ 7300668; omega)⟩ hS hA (fun H1 locs1 hW hS => ?_)
                refine xz_i (y := nI (ivs (pm k) n)) (v_told (by omega) (by decide)) ?_
                refine xn_if_ne (tgt := 722) hx hb dL_law_715 (by decide) (b_ivs hn8) (fun c715 => ?_) (fun c715 => ?_)
                · refine xn_iconst (v := 0) hx hb dL_law_722 (by decide) ?_
                  exact absurd ((hrk_zero (f := pm k) (n := n) n (Nat.le_refl n)).mp c700) (Nat.ne_of_gt c715)
                · refine xn_iconst (v := 1) hx hb dL_law_718 (by decide) ?_
                  refine lv_goto (tgt := 723) hx hb dL_law_719 (by decide) ?_
                  refine xn_icmp_eq (tgt := 728) hx hb dL_law_723 (by decide) (by decide) (by decide) (fun _ => ?_) (fun c => absurd c (by decide))
                  refine xn_iinc (v := k + 1) (lv' := [(13, .int (nI (k + 1))), (0, .ref b), (1, .ref (ad 0)), (2, .int (nI n)), (3, .int (nI st)), (4, .int (nI rg)), (5, .int (nI ch)), (6, .int (nI ti)), (14, .int (nI (orr (pm k) n))), (15, .int (nI (sm (own (pm k)) n))), (16, .int (nI n))]) hx hb dL_law_728 hl (k := 7) rfl (xinc1 _) (by decide) rfl (fun ls hl => ?_)
                  refine lv_goto (tgt := 516) hx hb dL_law_731 (by decide) ?_
                  exact ih516 (k + 1) _ _ _ _ ls ⟨(by omega), hW, hS, (by omega), (by omega), lv_sub hl [1, 2, 3, 4, 5, 6, 7, 0] rfl⟩ (by omega)
    · refine lv_iload hx hb dL_law_538 (lv_at hl 8 rfl) ?_
      refine xn_iconst (v := 1) hx hb dL_law_540 (by decide) ?_
      refine lv_aload_n hx hb dL_law_541 rfl (lv_at hl 1 rfl) ?_
      refine lv_iload hx hb dL_law_542 (lv_at hl 7 rfl) ?_
      refine lv_iload hx hb dL_law_544 (lv_at hl 10 rfl) ?_
      refine xoC (As := [.int (nI k), .int (nI p9)]) (rest := [.int (nI 1), .int (nI (orr (pm k) p9))]) ⟨hx, hb, hml, hown, hts⟩ (kBell_ l hst9 D cI cC ad hj (n, ch, pm, st, kf, rg) hI (nI k) (nI p9)) (fun _ _ hB => no1 (t_bell (S := (n, ch, pm, st, kf, rg)) hI (show k < ch by omega) (show p9 < n by omega)) hB) (cwV 2 hts gL_law_X3_bell rfl rfl rfl (by decide +kernel) ⟨Nat.le_of_ble_eq_true rfl, Nat.le_of_ble_eq_true rfl⟩) hK hZ hW rfl hl.1 rfl (Nat.le_of_ble_eq_true rfl) dL_law_546 ⟨(by show cells + 10 ≤ 600172; omega), (by show slots + 60 ≤ 7300668; omega)⟩ hS hA (fun H1 locs1 hW hS => ?_)
      refine xz_i (y := nI ((pm k) p9)) (v_bell (by omega) (by omega)) ?_
      refine lv_ishl hx hb dL_law_549 ?_
      refine xz_i (y := (nI (2 ^ (pm k p9)))) (tw_shl (Nat.le_of_lt (hpm8 k p9))) ?_
      refine lv_ior hx hb dL_law_550 ?_
      refine xz_i (y := (nI (orr (pm k) (p9 + 1)))) (q_or _ _) ?_
      refine lv_istore (lv' := [(14, .int (nI (orr (pm k) (p9 + 1)))), (0, .ref b), (1, .ref (ad 0)), (2, .int (nI n)), (3, .int (nI st)), (4, .int (nI rg)), (5, .int (nI ch)), (6, .int (nI ti)), (13, .int (nI k)), (15, .int (nI (sm (own (pm k)) p9))), (16, .int (nI p9))]) hx hb dL_law_551 hl (by decide) rfl (fun ls hl => ?_)
      refine lv_iload hx hb dL_law_553 (lv_at hl 9 rfl) ?_
      refine lv_aload_n hx hb dL_law_555 rfl (lv_at hl 2 rfl) ?_
      refine lv_iload hx hb dL_law_556 (lv_at hl 8 rfl) ?_
      refine lv_iload hx hb dL_law_558 (lv_at hl 10 rfl) ?_
      refine xoC (As := [.int (nI k), .int (nI p9)]) (rest := [.int (nI (sm (own (pm k)) p9))]) ⟨hx, hb, hml, hown, hts⟩ (kRound_ l hst9 D cI cC ad hj (n, ch, pm, st, kf, rg) hI (nI k) (nI p9)) (fun _ _ hB => no1 (t_bell (S := (n, ch, pm, st, kf, rg)) hI (show k < ch by omega) (show p9 < n by omega)) hB) (cwV 2 hts gL_law_X3_round rfl rfl rfl (by decide +kernel) ⟨Nat.le_of_ble_eq_true rfl, Nat.le_of_ble_eq_true rfl⟩) hK hZ hW rfl hl.1 rfl (Nat.le_of_ble_eq_true rfl) dL_law_560 ⟨(by show cells + 10 + 10 ≤ 600172; omega), (by show slots + 60 + 60 ≤ 7300668; omega)⟩ hS hA (fun H1 locs1 hW hS => ?_)
      refine xz_i (y := nI (per (pm k) n p9)) (v_round (by omega) (by omega)) ?_
      refine xn_iconst (v := 1) hx hb dL_law_563 (by decide) ?_
      refine xn_icmp_ne (tgt := 571) hx hb dL_law_564 (by decide) (b_per hn2 hn8) (by decide) (fun c564 => ?_) (fun c564 => ?_)
      · refine xn_iconst (v := 0) hx hb dL_law_571 (by decide) ?_
        refine xz_i (y := nI (own (pm k) p9)) (congrArg nI (Eq.trans (if_neg c564).symm (own_per hn2))) ?_
        refine xn_iadd hx hb dL_law_572 ?_
        refine xz_i (y := nI (sm (own (pm k)) (p9 + 1))) rfl ?_
        refine lv_istore (lv' := [(15, .int (nI (sm (own (pm k)) (p9 + 1)))), (14, .int (nI (orr (pm k) (p9 + 1)))), (0, .ref b), (1, .ref (ad 0)), (2, .int (nI n)), (3, .int (nI st)), (4, .int (nI rg)), (5, .int (nI ch)), (6, .int (nI ti)), (13, .int (nI k)), (16, .int (nI p9))]) hx hb dL_law_573 hl (by decide) rfl (fun ls hl => ?_)
        refine lv_aload_n hx hb dL_law_575 rfl (lv_at hl 3 rfl) ?_
        refine lv_iload hx hb dL_law_576 (lv_at hl 9 rfl) ?_
        refine xn_iconst (v := 5) hx hb dL_law_578 (by decide) ?_
        refine xoC (As := [.int (nI k), .int (nI 5)]) (rest := []) ⟨hx, hb, hml, hown, hts⟩ (kTold_ l hst9 D cI cC ad hj (n, ch, pm, st, kf, rg) hI (nI k) (nI 5)) (fun _ _ hB => no1 (t_told (S := (n, ch, pm, st, kf, rg)) hI (show k < ch by omega) (by decide)) hB) (cwV 2 hts gL_law_X3_told rfl rfl rfl (by decide +kernel) ⟨Nat.le_of_ble_eq_true rfl, Nat.le_of_ble_eq_true rfl⟩) hK hZ hW rfl hl.1 rfl (Nat.le_of_ble_eq_true rfl) dL_law_579 ⟨(by show cells + 10 + 10 + 10 ≤ 600172; omega), (by show slots + 60 + 60 + 60 ≤ 7300668; omega)⟩ hS hA (fun H1 locs1 hW hS => ?_)
        refine xz_i (y := nI (ord (pm k) n n)) (v_told (by omega) (by decide)) ?_
        refine lv_aload_n hx hb dL_law_582 rfl (lv_at hl 3 rfl) ?_
        refine lv_iload hx hb dL_law_583 (lv_at hl 9 rfl) ?_
        refine lv_iload hx hb dL_law_585 (lv_at hl 10 rfl) ?_
        refine xoC (As := [.int (nI k), .int (nI p9)]) (rest := [.int (nI (ord (pm k) n n))]) ⟨hx, hb, hml, hown, hts⟩ (kRound_ l hst9 D cI cC ad hj (n, ch, pm, st, kf, rg) hI (nI k) (nI p9)) (fun _ _ hB => no1 (t_bell (S := (n, ch, pm, st, kf, rg)) hI (show k < ch by omega) (show p9 < n by omega)) hB) (cwV 2 hts gL_law_X3_round rfl rfl rfl (by decide +kernel) ⟨Nat.le_of_ble_eq_true rfl, Nat.le_of_ble_eq_true rfl⟩) hK hZ hW rfl hl.1 rfl (Nat.le_of_ble_eq_true rfl) dL_law_587 ⟨(by show cells + 10 + 10 + 10 + 10 ≤ 600172; omega), (by show slots + 60 + 60 + 60 + 60 ≤ 7300668; omega)⟩ hS hA (fun H1 locs1 hW hS => ?_)
        refine xz_i (y := nI (per (pm k) n p9)) (v_round (by omega) (by omega)) ?_
        refine xn_irem hx hb (b_ord hn8) (per_1 _ _ _) (b_per hn2 hn8) dL_law_590 ?_
        refine xz_i (y := nI 0) (congrArg nI (ord_dvd hn8 n (Nat.le_refl n) p9 (show p9 < n by omega))) ?_
        refine xn_if_eq (tgt := 596) hx hb dL_law_591 (by decide) (by decide) (fun _ => ?_) (fun c => absurd c (by decide))
        refine xn_iinc (v := p9 + 1) (lv' := [(16, .int (nI (p9 + 1))), (15, .int (nI (sm (own (pm k)) (p9 + 1)))), (14, .int (nI (orr (pm k) (p9 + 1)))), (0, .ref b), (1, .ref (ad 0)), (2, .int (nI n)), (3, .int (nI st)), (4, .int (nI rg)), (5, .int (nI ch)), (6, .int (nI ti)), (13, .int (nI k))]) hx hb dL_law_596 hl (k := 10) rfl (xinc1 _) (by decide) rfl (fun ls hl => ?_)
        refine lv_goto (tgt := 532) hx hb dL_law_599 (by decide) ?_
        exact ih532 (p9 + 1) _ _ _ _ ls ⟨(by omega), hW, hS, (by omega), (by omega), lv_sub hl [3, 4, 5, 6, 7, 8, 9, 10, 2, 1, 0] rfl⟩ (by omega)
      · refine xn_iconst (v := 1) hx hb dL_law_567 (by decide) ?_
        refine lv_goto (tgt := 572) hx hb dL_law_568 (by decide) ?_
        refine xz_i (y := nI (own (pm k) p9)) (congrArg nI (Eq.trans (if_pos c564).symm (own_per hn2))) ?_
        refine xn_iadd hx hb dL_law_572 ?_
        refine xz_i (y := nI (sm (own (pm k)) (p9 + 1))) rfl ?_
        refine lv_istore (lv' := [(15, .int (nI (sm (own (pm k)) (p9 + 1)))), (14, .int (nI (orr (pm k) (p9 + 1)))), (0, .ref b), (1, .ref (ad 0)), (2, .int (nI n)), (3, .int (nI st)), (4, .int (nI rg)), (5, .int (nI ch)), (6, .int (nI ti)), (13, .int (nI k)), (16, .int (nI p9))]) hx hb dL_law_573 hl (by decide) rfl (fun ls hl => ?_)
        refine lv_aload_n hx hb dL_law_575 rfl (lv_at hl 3 rfl) ?_
        refine lv_iload hx hb dL_law_576 (lv_at hl 9 rfl) ?_
        refine xn_iconst (v := 5) hx hb dL_law_578 (by decide) ?_
        refine xoC (As := [.int (nI k), .int (nI 5)]) (rest := []) ⟨hx, hb, hml, hown, hts⟩ (kTold_ l hst9 D cI cC ad hj (n, ch, pm, st, kf, rg) hI (nI k) (nI 5)) (fun _ _ hB => no1 (t_told (S := (n, ch, pm, st, kf, rg)) hI (show k < ch by omega) (by decide)) hB) (cwV 2 hts gL_law_X3_told rfl rfl rfl (by decide +kernel) ⟨Nat.le_of_ble_eq_true rfl, Nat.le_of_ble_eq_true rfl⟩) hK hZ hW rfl hl.1 rfl (Nat.le_of_ble_eq_true rfl) dL_law_579 ⟨(by show cells + 10 + 10 + 10 ≤ 600172; omega), (by show slots + 60 + 60 + 60 ≤ 7300668; omega)⟩ hS hA (fun H1 locs1 hW hS => ?_)
        refine xz_i (y := nI (ord (pm k) n n)) (v_told (by omega) (by decide)) ?_
        refine lv_aload_n hx hb dL_law_582 rfl (lv_at hl 3 rfl) ?_
        refine lv_iload hx hb dL_law_583 (lv_at hl 9 rfl) ?_
        refine lv_iload hx hb dL_law_585 (lv_at hl 10 rfl) ?_
        refine xoC (As := [.int (nI k), .int (nI p9)]) (rest := [.int (nI (ord (pm k) n n))]) ⟨hx, hb, hml, hown, hts⟩ (kRound_ l hst9 D cI cC ad hj (n, ch, pm, st, kf, rg) hI (nI k) (nI p9)) (fun _ _ hB => no1 (t_bell (S := (n, ch, pm, st, kf, rg)) hI (show k < ch by omega) (show p9 < n by omega)) hB) (cwV 2 hts gL_law_X3_round rfl rfl rfl (by decide +kernel) ⟨Nat.le_of_ble_eq_true rfl, Nat.le_of_ble_eq_true rfl⟩) hK hZ hW rfl hl.1 rfl (Nat.le_of_ble_eq_true rfl) dL_law_587 ⟨(by show cells + 10 + 10 + 10 + 10 ≤ 600172; omega), (by show slots + 60 + 60 + 60 + 60 ≤ 7300668; omega)⟩ hS hA (fun H1 locs1 hW hS => ?_)
        refine xz_i (y := nI (per (pm k) n p9)) (v_round (by omega) (by omega)) ?_
        refine xn_irem hx hb (b_ord hn8) (per_1 _ _ _) (b_per hn2 hn8) dL_law_590 ?_
        refine xz_i (y := nI 0) (congrArg nI (ord_dvd hn8 n (Nat.le_refl n) p9 (show p9 < n by omega))) ?_
        refine xn_if_eq (tgt := 596) hx hb dL_law_591 (by decide) (by decide) (fun _ => ?_) (fun c => absurd c (by decide))
        refine xn_iinc (v := p9 + 1) (lv' := [(16, .int (nI (p9 + 1))), (15, .int (nI (sm (own (pm k)) (p9 + 1)))), (14, .int (nI (orr (pm k) (p9 + 1)))), (0, .ref b), (1, .ref (ad 0)), (2, .int (nI n)), (3, .int (nI st)), (4, .int (nI rg)), (5, .int (nI ch)), (6, .int (nI ti)), (13, .int (nI k))]) hx hb dL_law_596 hl (k := 10) rfl (xinc1 _) (by decide) rfl (fun ls hl => ?_)
        refine lv_goto (tgt := 532) hx hb dL_law_599 (by decide) ?_
        exact ih532 (p9 + 1) _ _ _ _ ls ⟨(by omega), hW, hS, (by omega), (by omega), lv_sub hl [3, 4, 5, 6, 7, 8, 9, 10, 2, 1, 0] rfl⟩ (by omega)
