/-! THE MODEL: differ, digest -/
theorem sm_nwf_le (g : Nat → Nat) : ∀ k, sm (nwf g) k ≤ k
  | 0 => Nat.le_refl _
  | k + 1 => by
    have h1 := sm_nwf_le g k
    have h2 := nwg_lt g k k
    show sm (nwf g) k + nwg g k k ≤ k + 1
    omega
theorem nwg_1 {g : Nat → Nat} {k : Nat} : ∀ {i : Nat}, (∀ q, q < i → g q ≠ g k) → nwg g k i = 1
  | 0, _ => rfl
  | i + 1, h => by
    show nwg g k i * (if g i = g k then 0 else 1) = 1
    rw [if_neg (h i (Nat.lt_succ_self i)), nwg_1 (fun q hq => h q (by omega))]
theorem nwg_0 {g : Nat → Nat} {k q : Nat} (e : g q = g k) : ∀ {i : Nat}, q < i → nwg g k i = 0
  | 0, h => absurd h (Nat.not_lt_zero _)
  | i + 1, h => by
    show nwg g k i * (if g i = g k then 0 else 1) = 0
    by_cases c : q = i
    · rw [← c, if_pos e, Nat.mul_zero]
    · rw [nwg_0 e (show q < i by omega), Nat.zero_mul]
theorem df_0 {g gg : Nat → Nat} (h : g 0 = gg 0) : ∀ v9, (∃ i9, i9 < 1 ∧ gg i9 = v9) ↔ (∃ q8, q8 ≤ 0 ∧ g q8 = v9) := fun v => by
  constructor
  · rintro ⟨i, hi, e⟩
    have : i = 0 := by omega
    subst this
    exact ⟨0, Nat.le_refl _, by rw [h]; exact e⟩
  · rintro ⟨i, hi, e⟩
    have : i = 0 := by omega
    subst this
    exact ⟨0, Nat.one_pos, by rw [← h]; exact e⟩
theorem df_old {g gg : Nat → Nat} {L k r : Nat} (hset : ∀ v9, (∃ i9, i9 < L ∧ gg i9 = v9) ↔ (∃ q8, q8 ≤ k ∧ g q8 = v9)) (h : ∃ q8, q8 < L ∧ gg q8 = r) (hr : r = g (k + 1)) : nwf g (k + 1) = 0 ∧ ∀ v9, (∃ i9, i9 < L ∧ va_up gg L r i9 = v9) ↔ (∃ q8, q8 ≤ k + 1 ∧ g q8 = v9) := by
  obtain ⟨q, hq, e⟩ := (hset r).mp h
  refine ⟨nwg_0 (e.trans hr) (by omega), fun v => ?_⟩
  have e1 : (∃ i9, i9 < L ∧ va_up gg L r i9 = v) ↔ (∃ i9, i9 < L ∧ gg i9 = v) := by
    constructor
    · rintro ⟨i, hi, e⟩
      rw [va_up_ne _ _ (by omega)] at e
      exact ⟨i, hi, e⟩
    · rintro ⟨i, hi, e⟩
      exact ⟨i, hi, by rw [va_up_ne _ _ (by omega)]; exact e⟩
  rw [e1, hset v]
  constructor
  · rintro ⟨i, hi, e⟩
    exact ⟨i, by omega, e⟩
  · rintro ⟨i, hi, ei⟩
    by_cases c : i = k + 1
    · exact ⟨q, hq, by rw [e, hr, ← c, ei]⟩
    · exact ⟨i, by omega, ei⟩
theorem df_new {g gg : Nat → Nat} {L k r : Nat} (hset : ∀ v9, (∃ i9, i9 < L ∧ gg i9 = v9) ↔ (∃ q8, q8 ≤ k ∧ g q8 = v9)) (h : ∀ q8, q8 < L → gg q8 ≠ r) (hr : r = g (k + 1)) : nwf g (k + 1) = 1 ∧ ∀ v9, (∃ i9, i9 < L + 1 ∧ va_up gg L r i9 = v9) ↔ (∃ q8, q8 ≤ k + 1 ∧ g q8 = v9) := by
  refine ⟨nwg_1 (fun q hq e => ?_), fun v => ⟨?_, ?_⟩⟩
  · obtain ⟨i, hi, ei⟩ := (hset r).mpr ⟨q, by omega, by rw [e, hr]⟩
    exact h i hi ei
  · rintro ⟨i, hi, e⟩
    by_cases c : i = L
    · rw [c, va_up_self] at e
      exact ⟨k + 1, Nat.le_refl _, by rw [← hr, e]⟩
    · rw [va_up_ne _ _ c] at e
      obtain ⟨q, hq, eq⟩ := (hset v).mp ⟨i, by omega, e⟩
      exact ⟨q, by omega, eq⟩
  · rintro ⟨q, hq, e⟩
    by_cases c : q = k + 1
    · exact ⟨L, Nat.lt_succ_self _, by rw [va_up_self, hr, ← c, e]⟩
    · obtain ⟨i, hi, ei⟩ := (hset v).mpr ⟨q, by omega, e⟩
      exact ⟨i, by omega, by rw [va_up_ne _ _ (by omega)]; exact ei⟩
set_option maxRecDepth 100000 in
set_option maxHeartbeats 4000000 in
theorem mDiffer_ (l : Launch) (D : va_G) (cI cC : ClassId) (o bk kp : Nat) (d1 : o ≠ bk) (d2 : o ≠ kp) (d3 : bk ≠ kp) (t0 : Nat) (S : AS) (hI : AI S) (sz : Nat) (x : Int32) : Met l yX4_differ wsX4_differ (xRm 20 900 7200) (va_Pc [.ref o, .int x] (xB D cI cC (fun H => H.size = sz ∧ xMW D cI o bk kp t0 S H))) (xI (fun r (_ : Unit) => tDiffer S x = 0 → r = rDiffer S x) (fun _ H => xMW D cI o bk kp (tDiffer S x) (S) H) (xMA o bk kp sz)) 900 7200 (xMA o bk kp sz) := by
  obtain ⟨n, ch, pm, st, kf, rg⟩ := S
  obtain ⟨⟨hn2, hn8⟩, hch, hst, hpm8, hpm, hkv, hkb⟩ := id hI
  dsimp only at hn2 hn8 hch hst hpm8 hpm hkv hkb
  refine Met.ofW (cc := cX4_differ) (maxL := 9) (ret := (some .int)) (by decide) rfl ?_
  intro p e s m args below meth c s₁ B hml hv
  obtain ⟨rfl, hP, hK⟩ := hv
  have hx := B.exec
  have hb := B.bytes
  have hr := B.returns
  have hts := atoms_spec (ws := wsX4_differ) B.pre
  have hown : s.vm.findClass RX4 = some m.cls := findClass_of_methodNamed B.named
  have hlocks := B.notSynchronized
  obtain ⟨hsz, bf, hM, hbr, hbb⟩ := hP
  have hl := lv_entry ([.ref o, .int x]) (n := 9) (Nat.le_of_ble_eq_true rfl)
  rw [lg_entry_eq]
  generalize (lg_sl ([.ref o, .int x]) ++ List.replicate (9 - (lg_sl ([.ref o, .int x])).length) Slot.unset).toArray = ls at hl ⊢
  have hl : lv_has ls 9 [(0, .ref o), (1, .int x)] := hl
  have hM : xMo D cI o bk kp t0 n ch st rg bf kf s.heap := hM
  have hbr : ∀ k, k < ch → bf k = hrk (pm k) n n := hbr
  have hS : va_S (xMA o bk kp sz) s.heap s.heap [] := va_S.rf
  have hle : sz ≤ s.heap.size := Nat.le_of_eq hsz.symm
  refine lv_aload_n hx hb dX4_differ_0 rfl (lv_at hl 0 rfl) ?_
  refine xn_iconst (v := 0) hx hb dX4_differ_1 (by decide) ?_
  refine x_put (v := .int (nI 0)) (ty := .int) (C := RX4) (T := TX4) (N := 7) hx hb hts (by decide +kernel) tyX4 tyX4_ok nmX4 hown hK hM.1 hS (Or.inl rfl) rfl 0 (by decide) (hts (.fieldLink RX4 20 "BellRanksModel" "thrown" "I") (by decide +kernel)) (fun _ h9 => h9) rfl (by decide +kernel) rfl rfl (Nat.le_of_ble_eq_true rfl) dX4_differ_2 (fun H1 locs1 hN hz oq hS => ?_)
  have hM : xMo D cI o bk kp 0 n ch st rg bf kf H1 := ⟨hN, hM.2.1.kept (oq _ (Ne.symm d1)), hM.2.2.kept (oq _ (Ne.symm d2))⟩
  have hle : sz ≤ H1.size := by rw [hz]; exact hle
  refine lv_iload_n hx hb dX4_differ_5 rfl (lv_at hl 1 rfl) ?_
  refine xn_iconst (v := 1) hx hb dX4_differ_6 (by decide) ?_
  refine xn_sipush (v := 200) hx hb dX4_differ_7 (by decide) ?_
  refine xcS (As := [.int x, .int (nI 1), .int (nI 200)]) (rest := []) ⟨hx, hb, hml, hown, hts⟩ (cX4_isIn_ l D cI cC x (nI 1) (nI 200)) (va_cwS 3 hts gX4_differ_X4_isIn rfl rfl rfl (by decide +kernel) ⟨Nat.le_of_ble_eq_true rfl, Nat.le_of_ble_eq_true rfl⟩) hK trivial rfl hl.1 rfl (Nat.le_of_ble_eq_true rfl) dX4_differ_10 ⟨(by show 0 ≤ 900; omega), (by show 0 ≤ 7200; omega)⟩ (fun x10 e10 => ?_)
  subst e10
  refine xz_i (congrArg nI (ite10 (xin_rng (by omega) (by omega)))) ?_
  refine xn_if_ne (tgt := 22) hx hb dX4_differ_13 (by decide) (by split <;> decide) (fun c13 => ?_) (fun c13 => ?_)
  · have hi13 := ite_pos1 c13
    obtain ⟨j1, hj1, hj1b, rfl⟩ := inR_of hi13.1
    have h1j : 1 ≤ j1 := by have z := hi13.2; rw [xN_nI hj1b] at z; exact z
    have hl : lv_has ls 9 [(0, .ref o), (1, .int (nI j1))] := hl
    refine lv_aload_n hx hb dX4_differ_22 rfl (lv_at hl 0 rfl) ?_
    refine x_get (v := .int (nI st)) (C := RX4) (T := TX4) (N := 7) hx hb hts (by decide +kernel) hown hK hM.1 rfl 4 (by decide) (hts (.fieldLink RX4 48 "BellRanksModel" "steps" "I") (by decide +kernel)) (fun _ h9 => h9) rfl dX4_differ_23 ?_
    refine xn_if_ne (tgt := 31) hx hb dX4_differ_26 (by decide) (by omega) (fun c26 => ?_) (fun c26 => ?_)
    · have hst0 : 0 < st := c26
      refine lv_iload_n hx hb dX4_differ_31 rfl (lv_at hl 1 rfl) ?_
      refine xn_iconst (v := 1) hx hb dX4_differ_32 (by decide) ?_
      refine xn_iadd hx hb dX4_differ_33 ?_
      refine x_newa hx hb (hts (.arrayClass .int) (by decide +kernel)) hK hS (n := j1 + 1) (by omega) (by show 0 + 1 ≤ 900; omega) (by show 0 + (j1 + 1) ≤ 7200; omega) dX4_differ_34 (fun q34 H1 hq34 hG hz34 ho34 hS => ?_)
      have hno34 : o ≠ q34 := Nat.ne_of_lt (by rw [hq34]; exact hM.1.lt)
      have hnb34 : bk ≠ q34 := Nat.ne_of_lt (by rw [hq34]; exact hM.2.1.lt)
      have hnk34 : kp ≠ q34 := Nat.ne_of_lt (by rw [hq34]; exact hM.2.2.lt)
      have hsx34 : sz ≤ q34 := by rw [hq34]; exact hle
      have hM := xMo_old hM ho34
      have hle : sz ≤ H1.size := by omega
      refine lv_astore_n (lv' := [(2, .ref q34), (0, .ref o), (1, .int (nI j1))]) hx hb dX4_differ_36 rfl hl (by decide) rfl (fun ls hl => ?_)
      refine xn_iconst (v := 1) hx hb dX4_differ_37 (by decide) ?_
      refine lv_istore_n (lv' := [(3, .int (nI 1)), (2, .ref q34), (0, .ref o), (1, .int (nI j1))]) hx hb dX4_differ_38 rfl hl (by decide) rfl (fun ls hl => ?_)
      refine lv_aload_n hx hb dX4_differ_39 rfl (lv_at hl 2 rfl) ?_
      refine xn_iconst (v := 0) hx hb dX4_differ_40 (by decide) ?_
      refine xmR (As := [.int (nI 0)]) (rest := []) ⟨hx, hb, hml, hown, hts⟩ (cX4_row_ l D cI cC o bk kp 0 n ch st rg bf kf _ (by omega) (fun z9 => z9) (Prm.id n) 0 hrk_id.symm) (cwV 1 hts gX4_differ_X4_row rfl rfl rfl (by decide +kernel) ⟨Nat.le_of_ble_eq_true rfl, Nat.le_of_ble_eq_true rfl⟩) hK ⟨rfl, hM⟩ (xRecv hK rfl hM.1) rfl hl.1 rfl (Nat.le_of_ble_eq_true rfl) dX4_differ_41 ⟨(by show 0 + 1 + 1 ≤ 900; omega), (by show 0 + (j1 + 1) + 8 ≤ 7200; omega)⟩ hS (fun q h => Or.inr (Or.inr (Or.inr (Nat.le_trans hle h)))) (fun q h => Or.inr (Or.inr (Or.inr (Nat.le_trans hle h)))) (fun u41 x41 H1 locs1 hp41 hF41 hz41 hk41 hS => ?_)
      obtain ⟨hq41, hR41⟩ := hF41
      have hno41 : o ≠ x41 := Nat.ne_of_lt (Nat.lt_of_lt_of_le hM.1.lt hq41)
      have hnb41 : bk ≠ x41 := Nat.ne_of_lt (Nat.lt_of_lt_of_le hM.2.1.lt hq41)
      have hnk41 : kp ≠ x41 := Nat.ne_of_lt (Nat.lt_of_lt_of_le hM.2.2.lt hq41)
      have hnhGhR41 : q34 ≠ x41 := Nat.ne_of_lt (Nat.lt_of_lt_of_le (va_at.lt hG) hq41)
      have hsx41 : sz ≤ x41 := Nat.le_trans hle hq41
      have hM := xMo_old hM (xk_old hk41)
      have hG : xRow D cI q34 (j1 + 1) (fun _ => 0) H1 := xat_old hG (xk_old hk41)
      have hle : sz ≤ H1.size := Nat.le_trans hle hz41
      refine lv_astore (lv' := [(4, .ref x41), (3, .int (nI 1)), (2, .ref q34), (0, .ref o), (1, .int (nI j1))]) hx hb dX4_differ_44 hl (by decide) rfl (fun ls hl => ?_)
      refine xn_iconst (v := 0) hx hb dX4_differ_46 (by decide) ?_
      refine lv_istore (lv' := [(5, .int (nI 0)), (4, .ref x41), (3, .int (nI 1)), (2, .ref q34), (0, .ref o), (1, .int (nI j1))]) hx hb dX4_differ_47 hl (by decide) rfl (fun ls hl => ?_)
      refine x_loopH (σ := Nat × Nat × (Nat → Nat)) (fun a => j1 - a.2.1) (fun a H locs cells slots ls => (a.2.1 ≤ j1) ∧ (a.1 = sm (nwf (dfG (n, ch, pm, st, kf, rg))) (a.2.1 + 1)) ∧ (∀ v9, (∃ i9, i9 < a.1 ∧ a.2.2 i9 = v9) ↔ (∃ q8, q8 ≤ a.2.1 ∧ dfG (n, ch, pm, st, kf, rg) q8 = v9)) ∧ (xMo D cI o bk kp 0 n ch st rg bf kf H) ∧ (sz ≤ H.size) ∧ (xRow D cI q34 (j1 + 1) (a.2.2) H) ∧ (xRow D cI x41 n (rgs kf st n (fun z9 => z9) a.2.1) H) ∧ (va_S (xMA o bk kp sz) s.heap H locs) ∧ (cells ≤ 2) ∧ (slots ≤ 400) ∧ lv_has ls 9 [(0, .ref o), (1, .int (nI j1)), (2, .ref q34), (3, .int (nI a.1)), (4, .ref x41), (5, .int (nI a.2.1))]) ?_ (1, 0, fun _ => 0) _ _ _ _ ls ⟨(Nat.zero_le _), rfl, (df_0 hrk_id), hM, hle, hG, hR41, hS, (by omega), (by omega), lv_sub hl [4, 5, 3, 2, 1, 0] rfl⟩
      rintro ⟨L, k, gg⟩ H locs cells slots ls ⟨h2, h3, hset, hM, hle, hG, hR41, hS, hce, hse, hl⟩ ih49
      dsimp only at h2 h3 hset hM hle hG hR41 hS hce hse hl
      have hL := sm_nwf_le (dfG (n, ch, pm, st, kf, rg)) (k + 1)
      rw [← h3] at hL
      have hgb : ∀ i9, i9 < L → gg i9 < 2 ^ 31 := fun i9 hi9 => by
        obtain ⟨q8, -, e⟩ := (hset (gg i9)).mp ⟨i9, hi9, rfl⟩
        rw [← e]
        exact Nat.lt_trans (hrk_bd hn8) (by decide)
      refine lv_iload hx hb dX4_differ_49 (lv_at hl 5 rfl) ?_
      refine lv_iload_n hx hb dX4_differ_51 rfl (lv_at hl 1 rfl) ?_
      refine xn_icmp_ge (tgt := 134) hx hb dX4_differ_52 (by decide) (by omega) (by omega) (fun c52 => ?_) (fun c52 => ?_)
      · refine lv_iload_n hx hb dX4_differ_134 rfl (lv_at hl 3 rfl) ?_
        have ht : tDiffer (n, ch, pm, st, kf, rg) (nI j1) = 0 := if_pos hi13
        refine W.widen (k := 900) (n := 7200) (by omega) (by omega) ?_
        exact x_miret hx hb hr hlocks () (fun _ => (by show nI L = rDiffer (n, ch, pm, st, kf, rg) (nI j1); unfold rDiffer; simp only [xN_nI hj1b]; rw [if_neg (show ¬ st = 0 by omega), h3, show k = j1 by omega])) (by rw [ht]; exact xMW_mk (S := (n, ch, pm, st, kf, rg)) hM hbr hbb) hS (fun _ h => h) dX4_differ_135
      · refine lv_aload_n hx hb dX4_differ_55 rfl (lv_at hl 0 rfl) ?_
        refine lv_aload hx hb dX4_differ_56 (lv_at hl 4 rfl) ?_
        refine lv_iload hx hb dX4_differ_58 (lv_at hl 5 rfl) ?_
        refine xmV (As := [.ref x41, .int (nI k)]) (rest := []) ⟨hx, hb, hml, hown, hts⟩ (cX4_ringStep_ l D cI cC o bk kp 0 n ch st rg bf kf x41 (rgs kf st n (fun z9 => z9) k) (by omega) (by omega) hst hkb hno41 hnb41 hnk41 k (by omega) (hkv _ (Nat.mod_lt _ (by omega)))) (cwV 2 hts gX4_differ_X4_ringStep rfl rfl rfl (by decide +kernel) ⟨Nat.le_of_ble_eq_true rfl, Nat.le_of_ble_eq_true rfl⟩) hK ⟨hM, hR41⟩ (xRecv hK rfl hM.1) rfl hl.1 rfl (Nat.le_of_ble_eq_true rfl) dX4_differ_60 ⟨(by show cells + 0 ≤ 900; omega), (by show slots + 0 ≤ 7200; omega)⟩ hS (fun q h => Or.inr (Or.inr (Or.inr (by rw [h]; exact hsx41)))) (fun q h => Or.inr (Or.inr (Or.inr (by rw [h]; exact hsx41)))) (fun u60 H1 locs1 hp60 hF60 hz60 hk60 hS => ?_)
        have hM := xMo_keep hM (hk60 _ hM.1.lt hno41) (hk60 _ hM.2.1.lt hnb41) (hk60 _ hM.2.2.lt hnk41)
        have hG : xRow D cI q34 (j1 + 1) gg H1 := va_at.kept hG (hk60 _ (va_at.lt hG) hnhGhR41)
        have hR41 : xRow D cI x41 n (rst (kf (k % st)) n n 0 (rgs kf st n (fun z9 => z9) k)) H1 := hF60
        have hle : sz ≤ H1.size := Nat.le_trans hle hz60
        refine lv_aload_n hx hb dX4_differ_63 rfl (lv_at hl 0 rfl) ?_
        refine lv_aload hx hb dX4_differ_64 (lv_at hl 4 rfl) ?_
        refine xcV (As := [.ref x41]) (rest := []) ⟨hx, hb, hml, hown, hts⟩ (cX4_rank_ l D cI cC o bk kp 0 n ch st rg bf kf x41 (rst (kf (k % st)) n n 0 (rgs kf st n (fun z9 => z9) k)) (by omega) (prm_100 (Prm.rgs (Prm.id n) (k + 1)) hn8)) (cwV 1 hts gX4_differ_X4_rank rfl rfl rfl (by decide +kernel) ⟨Nat.le_of_ble_eq_true rfl, Nat.le_of_ble_eq_true rfl⟩) hK ⟨hM, hR41⟩ (xRecv hK rfl hM.1) rfl hl.1 rfl (Nat.le_of_ble_eq_true rfl) dX4_differ_66 ⟨(by show cells ≤ 900; omega), (by show slots ≤ 7200; omega)⟩ (fun x66 e66 => ?_)
        subst e66
        refine lv_istore (lv' := [(6, .int (nI (hrk (rst (kf (k % st)) n n 0 (rgs kf st n (fun z9 => z9) k)) n n))), (0, .ref o), (1, .int (nI j1)), (2, .ref q34), (3, .int (nI L)), (4, .ref x41), (5, .int (nI k))]) hx hb dX4_differ_69 hl (by decide) rfl (fun ls hl => ?_)
        refine xn_iconst (v := 1) hx hb dX4_differ_71 (by decide) ?_
        refine lv_istore (lv' := [(7, .int (nI 1)), (6, .int (nI (hrk (rst (kf (k % st)) n n 0 (rgs kf st n (fun z9 => z9) k)) n n))), (0, .ref o), (1, .int (nI j1)), (2, .ref q34), (3, .int (nI L)), (4, .ref x41), (5, .int (nI k))]) hx hb dX4_differ_72 hl (by decide) rfl (fun ls hl => ?_)
        refine xn_iconst (v := 0) hx hb dX4_differ_74 (by decide) ?_
        refine lv_istore (lv' := [(8, .int (nI 0)), (7, .int (nI 1)), (6, .int (nI (hrk (rst (kf (k % st)) n n 0 (rgs kf st n (fun z9 => z9) k)) n n))), (0, .ref o), (1, .int (nI j1)), (2, .ref q34), (3, .int (nI L)), (4, .ref x41), (5, .int (nI k))]) hx hb dX4_differ_75 hl (by decide) rfl (fun ls hl => ?_)
        refine x_loop (σ := Nat × Nat) (fun a => L - a.2) (fun a ls => (a.2 ≤ L) ∧ ((a.1 = 1 ∧ ∀ q8, q8 < a.2 → gg q8 ≠ hrk (rst (kf (k % st)) n n 0 (rgs kf st n (fun z9 => z9) k)) n n) ∨ (a.1 = 0 ∧ ∃ q8, q8 < L ∧ gg q8 = hrk (rst (kf (k % st)) n n 0 (rgs kf st n (fun z9 => z9) k)) n n)) ∧ lv_has ls 9 [(0, .ref o), (1, .int (nI j1)), (2, .ref q34), (3, .int (nI L)), (4, .ref x41), (5, .int (nI k)), (6, .int (nI (hrk (rst (kf (k % st)) n n 0 (rgs kf st n (fun z9 => z9) k)) n n))), (7, .int (nI a.1)), (8, .int (nI a.2))]) ?_ (1, 0) ls ⟨(Nat.zero_le _), (Or.inl ⟨rfl, fun q8 h => absurd h (Nat.not_lt_zero _)⟩), lv_sub hl [3, 4, 5, 6, 7, 8, 2, 1, 0] rfl⟩
        rintro ⟨w, i⟩ ls ⟨h4, h5, hl⟩ ih77
        dsimp only at h4 h5 hl
        have hw2 : w < 2 := by rcases h5 with z | z <;> omega
        refine lv_iload hx hb dX4_differ_77 (lv_at hl 8 rfl) ?_
        refine lv_iload_n hx hb dX4_differ_79 rfl (lv_at hl 3 rfl) ?_
        refine xn_icmp_ge (tgt := 110) hx hb dX4_differ_80 (by decide) (by omega) (by omega) (fun c80 => ?_) (fun c80 => ?_)
        · refine lv_aload_n hx hb dX4_differ_110 rfl (lv_at hl 2 rfl) ?_
          refine lv_iload_n hx hb dX4_differ_111 rfl (lv_at hl 3 rfl) ?_
          refine lv_iload hx hb dX4_differ_112 (lv_at hl 6 rfl) ?_
          refine x_iast hx hb hK hG hS (Or.inr (Or.inr (Or.inr hsx34))) (by omega) (by omega) dX4_differ_114 (fun H1 locs1 hN hz oq hS => ?_)
          have hG : xRow D cI q34 (j1 + 1) (va_up gg L (hrk (rst (kf (k % st)) n n 0 (rgs kf st n (fun z9 => z9) k)) n n)) H1 := hN
          have hM : xMo D cI o bk kp 0 n ch st rg bf kf H1 := xMo_keep hM (oq _ hno34) (oq _ hnb34) (oq _ hnk34)
          have hR41 : xRow D cI x41 n (rst (kf (k % st)) n n 0 (rgs kf st n (fun z9 => z9) k)) H1 := va_at.kept hR41 (oq _ (Ne.symm hnhGhR41))
          have hle : sz ≤ H1.size := by rw [hz]; exact hle
          refine lv_iload_n hx hb dX4_differ_115 rfl (lv_at hl 3 rfl) ?_
          refine lv_iload hx hb dX4_differ_116 (lv_at hl 7 rfl) ?_
          refine xn_if_eq (tgt := 125) hx hb dX4_differ_118 (by decide) (by omega) (fun c118 => ?_) (fun c118 => ?_)
          · have hex : ∃ q8, q8 < L ∧ gg q8 = hrk (rst (kf (k % st)) n n 0 (rgs kf st n (fun z9 => z9) k)) n n := by
              rcases h5 with z | z
              · exact absurd z.1 (by omega)
              · exact z.2
            have hdf := df_old (g := dfG (n, ch, pm, st, kf, rg)) hset hex rfl
            refine xn_iconst (v := 0) hx hb dX4_differ_125 (by decide) ?_
            refine xn_iadd hx hb dX4_differ_126 ?_
            refine lv_istore_n (lv' := [(3, .int (nI (L + 0))), (0, .ref o), (1, .int (nI j1)), (2, .ref q34), (4, .ref x41), (5, .int (nI k)), (6, .int (nI (hrk (rst (kf (k % st)) n n 0 (rgs kf st n (fun z9 => z9) k)) n n))), (7, .int (nI w)), (8, .int (nI i))]) hx hb dX4_differ_127 rfl hl (by decide) rfl (fun ls hl => ?_)
            refine xn_iinc (v := k + 1) (lv' := [(5, .int (nI (k + 1))), (3, .int (nI (L + 0))), (0, .ref o), (1, .int (nI j1)), (2, .ref q34), (4, .ref x41), (6, .int (nI (hrk (rst (kf (k % st)) n n 0 (rgs kf st n (fun z9 => z9) k)) n n))), (7, .int (nI w)), (8, .int (nI i))]) hx hb dX4_differ_128 hl (k := 5) rfl (xinc1 _) (by decide) rfl (fun ls hl => ?_)
            refine lv_goto (tgt := 49) hx hb dX4_differ_131 (by decide) ?_
            exact ih49 (L + 0, k + 1, va_up gg L (hrk (rst (kf (k % st)) n n 0 (rgs kf st n (fun z9 => z9) k)) n n)) _ _ _ _ ls ⟨(by dsimp only; omega), (by dsimp only; rw [sm_succ, ← h3, hdf.1]), hdf.2, hM, hle, hG, hR41, hS, hce, hse, lv_sub hl [2, 3, 4, 1, 5, 0] rfl⟩ (by dsimp only; omega)
          · have hall : ∀ q8, q8 < L → gg q8 ≠ hrk (rst (kf (k % st)) n n 0 (rgs kf st n (fun z9 => z9) k)) n n := by
              rcases h5 with z | z
              · exact fun q8 hq => z.2 q8 (by omega)
              · exact absurd z.1 (by omega)
            have hdf := df_new (g := dfG (n, ch, pm, st, kf, rg)) hset hall rfl
            refine xn_iconst (v := 1) hx hb dX4_differ_121 (by decide) ?_
            refine lv_goto (tgt := 126) hx hb dX4_differ_122 (by decide) ?_
            refine xn_iadd hx hb dX4_differ_126 ?_
            refine lv_istore_n (lv' := [(3, .int (nI (L + 1))), (0, .ref o), (1, .int (nI j1)), (2, .ref q34), (4, .ref x41), (5, .int (nI k)), (6, .int (nI (hrk (rst (kf (k % st)) n n 0 (rgs kf st n (fun z9 => z9) k)) n n))), (7, .int (nI w)), (8, .int (nI i))]) hx hb dX4_differ_127 rfl hl (by decide) rfl (fun ls hl => ?_)
            refine xn_iinc (v := k + 1) (lv' := [(5, .int (nI (k + 1))), (3, .int (nI (L + 1))), (0, .ref o), (1, .int (nI j1)), (2, .ref q34), (4, .ref x41), (6, .int (nI (hrk (rst (kf (k % st)) n n 0 (rgs kf st n (fun z9 => z9) k)) n n))), (7, .int (nI w)), (8, .int (nI i))]) hx hb dX4_differ_128 hl (k := 5) rfl (xinc1 _) (by decide) rfl (fun ls hl => ?_)
            refine lv_goto (tgt := 49) hx hb dX4_differ_131 (by decide) ?_
            exact ih49 (L + 1, k + 1, va_up gg L (hrk (rst (kf (k % st)) n n 0 (rgs kf st n (fun z9 => z9) k)) n n)) _ _ _ _ ls ⟨(by dsimp only; omega), (by dsimp only; rw [sm_succ, ← h3, hdf.1]), hdf.2, hM, hle, hG, hR41, hS, hce, hse, lv_sub hl [2, 3, 4, 1, 5, 0] rfl⟩ (by dsimp only; omega)
        · refine lv_iload hx hb dX4_differ_83 (lv_at hl 7 rfl) ?_
          refine xn_if_eq (tgt := 110) hx hb dX4_differ_85 (by decide) (by omega) (fun c85 => ?_) (fun c85 => ?_)
          · refine lv_aload_n hx hb dX4_differ_110 rfl (lv_at hl 2 rfl) ?_
            refine lv_iload_n hx hb dX4_differ_111 rfl (lv_at hl 3 rfl) ?_
            refine lv_iload hx hb dX4_differ_112 (lv_at hl 6 rfl) ?_
            refine x_iast hx hb hK hG hS (Or.inr (Or.inr (Or.inr hsx34))) (by omega) (by omega) dX4_differ_114 (fun H1 locs1 hN hz oq hS => ?_)
            have hG : xRow D cI q34 (j1 + 1) (va_up gg L (hrk (rst (kf (k % st)) n n 0 (rgs kf st n (fun z9 => z9) k)) n n)) H1 := hN
            have hM : xMo D cI o bk kp 0 n ch st rg bf kf H1 := xMo_keep hM (oq _ hno34) (oq _ hnb34) (oq _ hnk34)
            have hR41 : xRow D cI x41 n (rst (kf (k % st)) n n 0 (rgs kf st n (fun z9 => z9) k)) H1 := va_at.kept hR41 (oq _ (Ne.symm hnhGhR41))
            have hle : sz ≤ H1.size := by rw [hz]; exact hle
            refine lv_iload_n hx hb dX4_differ_115 rfl (lv_at hl 3 rfl) ?_
            refine lv_iload hx hb dX4_differ_116 (lv_at hl 7 rfl) ?_
            refine xn_if_eq (tgt := 125) hx hb dX4_differ_118 (by decide) (by omega) (fun c118 => ?_) (fun c118 => ?_)
            · have hex : ∃ q8, q8 < L ∧ gg q8 = hrk (rst (kf (k % st)) n n 0 (rgs kf st n (fun z9 => z9) k)) n n := by
                rcases h5 with z | z
                · exact absurd z.1 (by omega)
                · exact z.2
              have hdf := df_old (g := dfG (n, ch, pm, st, kf, rg)) hset hex rfl
              refine xn_iconst (v := 0) hx hb dX4_differ_125 (by decide) ?_
              refine xn_iadd hx hb dX4_differ_126 ?_
              refine lv_istore_n (lv' := [(3, .int (nI (L + 0))), (0, .ref o), (1, .int (nI j1)), (2, .ref q34), (4, .ref x41), (5, .int (nI k)), (6, .int (nI (hrk (rst (kf (k % st)) n n 0 (rgs kf st n (fun z9 => z9) k)) n n))), (7, .int (nI w)), (8, .int (nI i))]) hx hb dX4_differ_127 rfl hl (by decide) rfl (fun ls hl => ?_)
              refine xn_iinc (v := k + 1) (lv' := [(5, .int (nI (k + 1))), (3, .int (nI (L + 0))), (0, .ref o), (1, .int (nI j1)), (2, .ref q34), (4, .ref x41), (6, .int (nI (hrk (rst (kf (k % st)) n n 0 (rgs kf st n (fun z9 => z9) k)) n n))), (7, .int (nI w)), (8, .int (nI i))]) hx hb dX4_differ_128 hl (k := 5) rfl (xinc1 _) (by decide) rfl (fun ls hl => ?_)
              refine lv_goto (tgt := 49) hx hb dX4_differ_131 (by decide) ?_
              exact ih49 (L + 0, k + 1, va_up gg L (hrk (rst (kf (k % st)) n n 0 (rgs kf st n (fun z9 => z9) k)) n n)) _ _ _ _ ls ⟨(by dsimp only; omega), (by dsimp only; rw [sm_succ, ← h3, hdf.1]), hdf.2, hM, hle, hG, hR41, hS, hce, hse, lv_sub hl [2, 3, 4, 1, 5, 0] rfl⟩ (by dsimp only; omega)
            · exact absurd c118 (by omega)
          · refine lv_aload_n hx hb dX4_differ_88 rfl (lv_at hl 2 rfl) ?_
            refine lv_iload hx hb dX4_differ_89 (lv_at hl 8 rfl) ?_
            refine x_iald hx hb hK hG (by omega) (by omega) dX4_differ_91 ?_
            refine lv_iload hx hb dX4_differ_92 (lv_at hl 6 rfl) ?_
            refine xn_icmp_eq (tgt := 101) hx hb dX4_differ_94 (by decide) (hgb i (by omega)) (Nat.lt_trans (hrk_bd hn8) (by decide)) (fun c94 => ?_) (fun c94 => ?_)
            · refine xn_iconst (v := 0) hx hb dX4_differ_101 (by decide) ?_
              refine lv_istore (lv' := [(7, .int (nI 0)), (0, .ref o), (1, .int (nI j1)), (2, .ref q34), (3, .int (nI L)), (4, .ref x41), (5, .int (nI k)), (6, .int (nI (hrk (rst (kf (k % st)) n n 0 (rgs kf st n (fun z9 => z9) k)) n n))), (8, .int (nI i))]) hx hb dX4_differ_102 hl (by decide) rfl (fun ls hl => ?_)
              refine xn_iinc (v := i + 1) (lv' := [(8, .int (nI (i + 1))), (7, .int (nI 0)), (0, .ref o), (1, .int (nI j1)), (2, .ref q34), (3, .int (nI L)), (4, .ref x41), (5, .int (nI k)), (6, .int (nI (hrk (rst (kf (k % st)) n n 0 (rgs kf st n (fun z9 => z9) k)) n n)))]) hx hb dX4_differ_104 hl (k := 8) rfl (xinc1 _) (by decide) rfl (fun ls hl => ?_)
              refine lv_goto (tgt := 77) hx hb dX4_differ_107 (by decide) ?_
              exact ih77 (0, i + 1) ls ⟨(by dsimp only; omega), (Or.inr ⟨rfl, i, by omega, c94⟩), lv_sub hl [2, 3, 4, 5, 6, 7, 8, 1, 0] rfl⟩ (by dsimp only; omega)
            · refine xn_iconst (v := 1) hx hb dX4_differ_97 (by decide) ?_
              refine lv_goto (tgt := 102) hx hb dX4_differ_98 (by decide) ?_
              refine lv_istore (lv' := [(7, .int (nI 1)), (0, .ref o), (1, .int (nI j1)), (2, .ref q34), (3, .int (nI L)), (4, .ref x41), (5, .int (nI k)), (6, .int (nI (hrk (rst (kf (k % st)) n n 0 (rgs kf st n (fun z9 => z9) k)) n n))), (8, .int (nI i))]) hx hb dX4_differ_102 hl (by decide) rfl (fun ls hl => ?_)
              refine xn_iinc (v := i + 1) (lv' := [(8, .int (nI (i + 1))), (7, .int (nI 1)), (0, .ref o), (1, .int (nI j1)), (2, .ref q34), (3, .int (nI L)), (4, .ref x41), (5, .int (nI k)), (6, .int (nI (hrk (rst (kf (k % st)) n n 0 (rgs kf st n (fun z9 => z9) k)) n n)))]) hx hb dX4_differ_104 hl (k := 8) rfl (xinc1 _) (by decide) rfl (fun ls hl => ?_)
              refine lv_goto (tgt := 77) hx hb dX4_differ_107 (by decide) ?_
              exact ih77 (1, i + 1) ls ⟨(by dsimp only; omega), (Or.inl ⟨rfl, fun q8 hq => by
                                by_cases h9 : q8 = i
                                · rw [h9]; exact c94
                                · rcases h5 with z | z
                                  · exact z.2 q8 (by dsimp only at hq; omega)
                                  · exact absurd z.1 (by omega)⟩), lv_sub hl [2, 3, 4, 5, 6, 7, 8, 1, 0] rfl⟩ (by dsimp only; omega)
    · refine xn_iconst (v := 1) hx hb dX4_differ_29 (by decide) ?_
      have ht : tDiffer (n, ch, pm, st, kf, rg) (nI j1) = 0 := if_pos hi13
      refine W.widen (k := 900) (n := 7200) (by omega) (by omega) ?_
      exact x_miret hx hb hr hlocks () (fun _ => (by show _ = rDiffer (n, ch, pm, st, kf, rg) (nI j1); unfold rDiffer; simp only [xN_nI hj1b]; rw [if_pos c26])) (by rw [ht]; exact xMW_mk (S := (n, ch, pm, st, kf, rg)) hM hbr hbb) hS (fun _ h => h) dX4_differ_30
  · have hi13 := ite_zero1 c13
    refine lv_aload_n hx hb dX4_differ_16 rfl (lv_at hl 0 rfl) ?_
    refine xn_iconst (v := 1) hx hb dX4_differ_17 (by decide) ?_
    refine xmI (As := [.int (nI 1)]) (rest := []) ⟨hx, hb, hml, hown, hts⟩ (cX4_no_ l D cI cC o bk kp 0 n ch st rg bf kf d1 d2 d3 1) (cwV 1 hts gX4_differ_X4_no rfl rfl rfl (by decide +kernel) ⟨Nat.le_of_ble_eq_true rfl, Nat.le_of_ble_eq_true rfl⟩) hK hM (xRecv hK rfl hM.1) rfl hl.1 rfl (Nat.le_of_ble_eq_true rfl) dX4_differ_18 ⟨(by show 0 + 0 ≤ 900; omega), (by show 0 + 0 ≤ 7200; omega)⟩ hS (fun q h => Or.inl h) (fun q h => Or.inl h) (fun x18 u18 H1 locs1 hp18 hF18 hz18 hk18 hS => ?_)
    have hM : xMo D cI o bk kp 1 n ch st rg bf kf H1 := hF18
    have hle : sz ≤ H1.size := Nat.le_trans hle hz18
    subst hp18
    have ht : tDiffer (n, ch, pm, st, kf, rg) x = 1 := if_neg hi13
    refine W.widen (k := 900) (n := 7200) (by omega) (by omega) ?_
    exact x_miret hx hb hr hlocks () (fun z => absurd (ht.symm.trans z) (by decide)) (by rw [ht]; exact xMW_mk (S := (n, ch, pm, st, kf, rg)) hM hbr hbb) hS (fun _ h => h) dX4_differ_21

set_option maxRecDepth 100000 in
set_option maxHeartbeats 4000000 in
theorem mDigest_ (l : Launch) (D : va_G) (cI cC : ClassId) (o bk kp : Nat) (d1 : o ≠ bk) (d2 : o ≠ kp) (d3 : bk ≠ kp) (t0 : Nat) (S : AS) (hI : AI S) (sz : Nat) : Met l yX4_digest wsX4_digest (xRm 20 900 7200) (va_Pc [.ref o] (xB D cI cC (fun H => H.size = sz ∧ xMW D cI o bk kp t0 S H))) (xL (fun r (_ : Unit) => r = dgS S) (fun _ H => xMW D cI o bk kp 0 S H) (xMA o bk kp sz)) 900 7200 (xMA o bk kp sz) := by
  obtain ⟨n, ch, pm, st, kf, rg⟩ := S
  obtain ⟨⟨hn2, hn8⟩, hch, hst, hpm8, hpm, hkv, hkb⟩ := id hI
  dsimp only at hn2 hn8 hch hst hpm8 hpm hkv hkb
  refine Met.ofW (cc := cX4_digest) (maxL := 9) (ret := (some .long)) (by decide) rfl ?_
  intro p e s m args below meth c s₁ B hml hv
  obtain ⟨rfl, hP, hK⟩ := hv
  have hx := B.exec
  have hb := B.bytes
  have hr := B.returns
  have hts := atoms_spec (ws := wsX4_digest) B.pre
  have hown : s.vm.findClass RX4 = some m.cls := findClass_of_methodNamed B.named
  have hlocks := B.notSynchronized
  obtain ⟨hsz, bf, hM, hbr, hbb⟩ := hP
  have hl := lv_entry ([.ref o]) (n := 9) (Nat.le_of_ble_eq_true rfl)
  rw [lg_entry_eq]
  generalize (lg_sl ([.ref o]) ++ List.replicate (9 - (lg_sl ([.ref o])).length) Slot.unset).toArray = ls at hl ⊢
  have hl : lv_has ls 9 [(0, .ref o)] := hl
  have hM : xMo D cI o bk kp t0 n ch st rg bf kf s.heap := hM
  have hbr : ∀ k, k < ch → bf k = hrk (pm k) n n := hbr
  have hS : va_S (xMA o bk kp sz) s.heap s.heap [] := va_S.rf
  have hle : sz ≤ s.heap.size := Nat.le_of_eq hsz.symm
  have hds : sm (nwf bf) ch = dsS (n, ch, pm, st, kf, rg) := nwf_congr hbr
  refine lv_aload_n hx hb dX4_digest_0 rfl (lv_at hl 0 rfl) ?_
  refine xn_iconst (v := 0) hx hb dX4_digest_1 (by decide) ?_
  refine x_put (v := .int (nI 0)) (ty := .int) (C := RX4) (T := TX4) (N := 7) hx hb hts (by decide +kernel) tyX4 tyX4_ok nmX4 hown hK hM.1 hS (Or.inl rfl) rfl 0 (by decide) (hts (.fieldLink RX4 20 "BellRanksModel" "thrown" "I") (by decide +kernel)) (fun _ h9 => h9) rfl (by decide +kernel) rfl rfl (Nat.le_of_ble_eq_true rfl) dX4_digest_2 (fun H1 locs1 hN hz oq hS => ?_)
  have hM : xMo D cI o bk kp 0 n ch st rg bf kf H1 := ⟨hN, hM.2.1.kept (oq _ (Ne.symm d1)), hM.2.2.kept (oq _ (Ne.symm d2))⟩
  have hle : sz ≤ H1.size := by rw [hz]; exact hle
  refine lv_ldc2 (v := 1579) hx hb hown (hts (.constantLong RX4 119 1579) (by decide +kernel)) dX4_digest_5 ?_
  refine lv_lstore_n (lv' := [(1, .long 1579), (0, .ref o)]) hx hb dX4_digest_8 rfl hl (by decide) rfl (fun ls hl => ?_)
  refine xn_iconst (v := 0) hx hb dX4_digest_9 (by decide) ?_
  refine lv_istore_n (lv' := [(3, .int (nI 0)), (1, .long 1579), (0, .ref o)]) hx hb dX4_digest_10 rfl hl (by decide) rfl (fun ls hl => ?_)
  refine x_loopH (σ := Int64 × Nat) (fun a => 6 - a.2) (fun a H locs cells slots ls => (a.2 ≤ 6) ∧ (a.1 = dgR (cvS (n, ch, pm, st, kf, rg)) 1579 a.2) ∧ (xMo D cI o bk kp 0 n ch st rg bf kf H) ∧ (sz ≤ H.size) ∧ (va_S (xMA o bk kp sz) s.heap H locs) ∧ (cells ≤ 0) ∧ (slots ≤ 0) ∧ lv_has ls 9 [(0, .ref o), (1, .long a.1), (3, .int (nI a.2))]) ?_ (1579, 0) _ _ _ _ ls ⟨(Nat.zero_le _), rfl, hM, hle, hS, (by omega), (by omega), lv_sub hl [2, 1, 0] rfl⟩
  rintro ⟨d9, i⟩ H locs cells slots ls ⟨h2, h3, hM, hle, hS, hce, hse, hl⟩ ih11
  dsimp only at h2 h3 hM hle hS hce hse hl
  refine lv_iload_n hx hb dX4_digest_11 rfl (lv_at hl 2 rfl) ?_
  refine xn_bipush (v := 6) hx hb dX4_digest_12 (by decide) ?_
  refine xn_icmp_ge (tgt := 36) hx hb dX4_digest_14 (by decide) (by omega) (by decide) (fun c14 => ?_) (fun c14 => ?_)
  · refine xn_iconst (v := 0) hx hb dX4_digest_36 (by decide) ?_
    refine lv_istore_n (lv' := [(3, .int (nI 0)), (0, .ref o), (1, .long d9)]) hx hb dX4_digest_37 rfl hl (by decide) rfl (fun ls hl => ?_)
    refine x_loopH (σ := Int64 × Nat) (fun a => ch - a.2) (fun a H locs cells slots ls => (a.2 ≤ ch) ∧ (a.1 = dgB (n, ch, pm, st, kf, rg) (dgR (cvS (n, ch, pm, st, kf, rg)) 1579 6) a.2) ∧ (xMo D cI o bk kp 0 n ch st rg bf kf H) ∧ (sz ≤ H.size) ∧ (va_S (xMA o bk kp sz) s.heap H locs) ∧ (cells ≤ 9 * a.2) ∧ (slots ≤ 72 * a.2) ∧ lv_has ls 9 [(0, .ref o), (1, .long a.1), (3, .int (nI a.2))]) ?_ (d9, 0) _ _ _ _ ls ⟨(Nat.zero_le _), (by dsimp only; rw [h3, show i = 6 by omega]; rfl), hM, hle, hS, (by omega), (by omega), lv_sub hl [1, 2, 0] rfl⟩
    rintro ⟨d9, k⟩ H locs cells slots ls ⟨h2, h3, hM, hle, hS, hce, hse, hl⟩ ih38
    dsimp only at h2 h3 hM hle hS hce hse hl
    refine lv_iload_n hx hb dX4_digest_38 rfl (lv_at hl 2 rfl) ?_
    refine lv_aload_n hx hb dX4_digest_39 rfl (lv_at hl 0 rfl) ?_
    refine x_get (v := .int (nI ch)) (C := RX4) (T := TX4) (N := 7) hx hb hts (by decide +kernel) hown hK hM.1 rfl 2 (by decide) (hts (.fieldLink RX4 23 "BellRanksModel" "changes" "I") (by decide +kernel)) (fun _ h9 => h9) rfl dX4_digest_40 ?_
    refine xn_icmp_ge (tgt := 138) hx hb dX4_digest_43 (by decide) (by omega) (by omega) (fun c43 => ?_) (fun c43 => ?_)
    · refine xn_iconst (v := 0) hx hb dX4_digest_138 (by decide) ?_
      refine lv_istore_n (lv' := [(3, .int (nI 0)), (0, .ref o), (1, .long d9)]) hx hb dX4_digest_139 rfl hl (by decide) rfl (fun ls hl => ?_)
      refine x_loopH (σ := Int64 × Nat) (fun a => st - a.2) (fun a H locs cells slots ls => (a.2 ≤ st) ∧ (a.1 = dgR kf (dgB (n, ch, pm, st, kf, rg) (dgR (cvS (n, ch, pm, st, kf, rg)) 1579 6) ch) a.2) ∧ (xMo D cI o bk kp 0 n ch st rg bf kf H) ∧ (sz ≤ H.size) ∧ (va_S (xMA o bk kp sz) s.heap H locs) ∧ (cells ≤ 9 * ch) ∧ (slots ≤ 72 * ch) ∧ lv_has ls 9 [(0, .ref o), (1, .long a.1), (3, .int (nI a.2))]) ?_ (d9, 0) _ _ _ _ ls ⟨(Nat.zero_le _), (by dsimp only; rw [h3, show k = ch by omega]; rfl), hM, hle, hS, (by rw [show ch = k by omega]; exact hce), (by rw [show ch = k by omega]; exact hse), lv_sub hl [1, 2, 0] rfl⟩
      rintro ⟨d9, j⟩ H locs cells slots ls ⟨h2, h6, hM, hle, hS, hce, hse, hl⟩ ih140
      dsimp only at h2 h6 hM hle hS hce hse hl
      refine lv_iload_n hx hb dX4_digest_140 rfl (lv_at hl 2 rfl) ?_
      refine lv_aload_n hx hb dX4_digest_141 rfl (lv_at hl 0 rfl) ?_
      refine x_get (v := .int (nI st)) (C := RX4) (T := TX4) (N := 7) hx hb hts (by decide +kernel) hown hK hM.1 rfl 4 (by decide) (hts (.fieldLink RX4 48 "BellRanksModel" "steps" "I") (by decide +kernel)) (fun _ h9 => h9) rfl dX4_digest_142 ?_
      refine xn_icmp_ge (tgt := 168) hx hb dX4_digest_145 (by decide) (by omega) (by omega) (fun c145 => ?_) (fun c145 => ?_)
      · refine lv_lload_n hx hb dX4_digest_168 rfl (lv_at hl 1 rfl) ?_
        refine W.widen (k := 900) (n := 7200) (by omega) (by omega) ?_
        exact x_mlret hx hb hr hlocks () (by rw [h6, show j = st by omega]; rfl) (xMW_mk (S := (n, ch, pm, st, kf, rg)) hM hbr hbb) hS (fun _ h => h) dX4_digest_169
      · refine lv_lload_n hx hb dX4_digest_148 rfl (lv_at hl 1 rfl) ?_
        refine lv_ldc2 (v := 31) hx hb hown (hts (.constantLong RX4 121 31) (by decide +kernel)) dX4_digest_149 ?_
        refine lv_lmul hx hb dX4_digest_152 ?_
        refine lv_aload_n hx hb dX4_digest_153 rfl (lv_at hl 0 rfl) ?_
        refine x_get (v := .ref kp) (C := RX4) (T := TX4) (N := 7) hx hb hts (by decide +kernel) hown hK hM.1 rfl 5 (by decide) (hts (.fieldLink RX4 17 "BellRanksModel" "kept" "[I") (by decide +kernel)) (fun _ h9 => h9) rfl dX4_digest_154 ?_
        refine lv_iload_n hx hb dX4_digest_157 rfl (lv_at hl 2 rfl) ?_
        refine x_iald hx hb hK hM.2.2 (by omega) (by decide) dX4_digest_158 ?_
        refine lv_i2l hx hb dX4_digest_159 rfl ?_
        refine lv_ladd hx hb dX4_digest_160 ?_
        refine lv_lstore_n (lv' := [(1, .long ((d9 * 31) + (((nI (kf j))).toInt64))), (0, .ref o), (3, .int (nI j))]) hx hb dX4_digest_161 rfl hl (by decide) rfl (fun ls hl => ?_)
        refine xn_iinc (v := j + 1) (lv' := [(3, .int (nI (j + 1))), (1, .long ((d9 * 31) + (((nI (kf j))).toInt64))), (0, .ref o)]) hx hb dX4_digest_162 hl (k := 2) rfl (xinc1 _) (by decide) rfl (fun ls hl => ?_)
        refine lv_goto (tgt := 140) hx hb dX4_digest_165 (by decide) ?_
        exact ih140 ((d9 * 31) + (((nI (kf j))).toInt64), j + 1) _ _ _ _ ls ⟨(by dsimp only; omega), (by dsimp only; rw [h6]; rfl), hM, hle, hS, hce, hse, lv_sub hl [2, 1, 0] rfl⟩ (by dsimp only; omega)
    · refine lv_aload_n hx hb dX4_digest_46 rfl (lv_at hl 0 rfl) ?_
      refine lv_aload_n hx hb dX4_digest_47 rfl (lv_at hl 0 rfl) ?_
      refine x_get (v := .ref bk) (C := RX4) (T := TX4) (N := 7) hx hb hts (by decide +kernel) hown hK hM.1 rfl 3 (by decide) (hts (.fieldLink RX4 13 "BellRanksModel" "book" "[I") (by decide +kernel)) (fun _ h9 => h9) rfl dX4_digest_48 ?_
      refine lv_iload_n hx hb dX4_digest_51 rfl (lv_at hl 2 rfl) ?_
      refine x_iald hx hb hK hM.2.1 (by omega) (by decide) dX4_digest_52 ?_
      refine xmR (As := [.int (nI (bf k))]) (rest := []) ⟨hx, hb, hml, hown, hts⟩ (cX4_row_ l D cI cC o bk kp 0 n ch st rg bf kf _ (by omega) (pm k) (hpm k c43) (bf k) (hbr k c43)) (cwV 1 hts gX4_digest_X4_row rfl rfl rfl (by decide +kernel) ⟨Nat.le_of_ble_eq_true rfl, Nat.le_of_ble_eq_true rfl⟩) hK ⟨rfl, hM⟩ (xRecv hK rfl hM.1) rfl hl.1 rfl (Nat.le_of_ble_eq_true rfl) dX4_digest_53 ⟨(by show cells + 1 ≤ 900; omega), (by show slots + 8 ≤ 7200; omega)⟩ hS (fun q h => Or.inr (Or.inr (Or.inr (Nat.le_trans hle h)))) (fun q h => Or.inr (Or.inr (Or.inr (Nat.le_trans hle h)))) (fun u53 x53 H1 locs1 hp53 hF53 hz53 hk53 hS => ?_)
      obtain ⟨hq53, hR53⟩ := hF53
      have hno53 : o ≠ x53 := Nat.ne_of_lt (Nat.lt_of_lt_of_le hM.1.lt hq53)
      have hnb53 : bk ≠ x53 := Nat.ne_of_lt (Nat.lt_of_lt_of_le hM.2.1.lt hq53)
      have hnk53 : kp ≠ x53 := Nat.ne_of_lt (Nat.lt_of_lt_of_le hM.2.2.lt hq53)
      have hsx53 : sz ≤ x53 := Nat.le_trans hle hq53
      have hM := xMo_old hM (xk_old hk53)
      have hle : sz ≤ H1.size := Nat.le_trans hle hz53
      refine lv_astore (lv' := [(4, .ref x53), (0, .ref o), (1, .long d9), (3, .int (nI k))]) hx hb dX4_digest_56 hl (by decide) rfl (fun ls hl => ?_)
      refine xn_iconst (v := 0) hx hb dX4_digest_58 (by decide) ?_
      refine lv_istore (lv' := [(5, .int (nI 0)), (4, .ref x53), (0, .ref o), (1, .long d9), (3, .int (nI k))]) hx hb dX4_digest_59 hl (by decide) rfl (fun ls hl => ?_)
      refine x_loopH (σ := Int64 × Nat) (fun a => 8 - a.2) (fun a H locs cells slots ls => (a.2 ≤ 8) ∧ (a.1 = dgR (tld (pm k) n) (dgB (n, ch, pm, st, kf, rg) (dgR (cvS (n, ch, pm, st, kf, rg)) 1579 6) k) a.2) ∧ (xMo D cI o bk kp 0 n ch st rg bf kf H) ∧ (sz ≤ H.size) ∧ (xRow D cI x53 n (pm k) H) ∧ (va_S (xMA o bk kp sz) s.heap H locs) ∧ (cells ≤ 9 * k + 1 + a.2) ∧ (slots ≤ 72 * k + 8 + 8 * a.2) ∧ lv_has ls 9 [(0, .ref o), (1, .long a.1), (3, .int (nI k)), (4, .ref x53), (5, .int (nI a.2))]) ?_ (d9, 0) _ _ _ _ ls ⟨(Nat.zero_le _), h3, hM, hle, hR53, hS, (by omega), (by omega), lv_sub hl [2, 3, 4, 1, 0] rfl⟩
      rintro ⟨d9, w⟩ H locs cells slots ls ⟨h4, h5, hM, hle, hR53, hS, hce, hse, hl⟩ ih61
      dsimp only at h4 h5 hM hle hR53 hS hce hse hl
      refine lv_iload hx hb dX4_digest_61 (lv_at hl 4 rfl) ?_
      refine xn_bipush (v := 8) hx hb dX4_digest_63 (by decide) ?_
      refine xn_icmp_ge (tgt := 90) hx hb dX4_digest_65 (by decide) (by omega) (by decide) (fun c65 => ?_) (fun c65 => ?_)
      · refine lv_aload hx hb dX4_digest_90 (lv_at hl 3 rfl) ?_
        refine lv_astore (lv' := [(5, .ref x53), (0, .ref o), (1, .long d9), (3, .int (nI k)), (4, .ref x53)]) hx hb dX4_digest_92 hl (by decide) rfl (fun ls hl => ?_)
        refine lv_aload hx hb dX4_digest_94 (lv_at hl 0 rfl) ?_
        refine x_alen hx hb hK hR53 dX4_digest_96 ?_
        refine lv_istore (lv' := [(6, .int (nI n)), (5, .ref x53), (0, .ref o), (1, .long d9), (3, .int (nI k)), (4, .ref x53)]) hx hb dX4_digest_97 hl (by decide) rfl (fun ls hl => ?_)
        refine xn_iconst (v := 0) hx hb dX4_digest_99 (by decide) ?_
        refine lv_istore (lv' := [(7, .int (nI 0)), (6, .int (nI n)), (5, .ref x53), (0, .ref o), (1, .long d9), (3, .int (nI k)), (4, .ref x53)]) hx hb dX4_digest_100 hl (by decide) rfl (fun ls hl => ?_)
        refine x_loopH (σ := Int64 × Nat) (fun a => n - a.2) (fun a H locs cells slots ls => (a.2 ≤ n) ∧ (a.1 = dgR (pm k) (dgR (tld (pm k) n) (dgB (n, ch, pm, st, kf, rg) (dgR (cvS (n, ch, pm, st, kf, rg)) 1579 6) k) 8) a.2) ∧ (xMo D cI o bk kp 0 n ch st rg bf kf H) ∧ (sz ≤ H.size) ∧ (xRow D cI x53 n (pm k) H) ∧ (va_S (xMA o bk kp sz) s.heap H locs) ∧ (cells ≤ 9 * k + 9) ∧ (slots ≤ 72 * k + 72) ∧ lv_has ls 9 [(0, .ref o), (1, .long a.1), (3, .int (nI k)), (4, .ref x53), (5, .ref x53), (6, .int (nI n)), (7, .int (nI a.2))]) ?_ (d9, 0) _ _ _ _ ls ⟨(Nat.zero_le _), (by dsimp only; rw [h5, show w = 8 by omega]; rfl), hM, hle, hR53, hS, (by omega), (by omega), lv_sub hl [3, 4, 5, 6, 2, 1, 0] rfl⟩
        rintro ⟨d9, i⟩ H locs cells slots ls ⟨h2i, h5, hM, hle, hR53, hS, hce, hse, hl⟩ ih102
        dsimp only at h2i h5 hM hle hR53 hS hce hse hl
        refine lv_iload hx hb dX4_digest_102 (lv_at hl 6 rfl) ?_
        refine lv_iload hx hb dX4_digest_104 (lv_at hl 5 rfl) ?_
        refine xn_icmp_ge (tgt := 132) hx hb dX4_digest_106 (by decide) (by omega) (by omega) (fun c106 => ?_) (fun c106 => ?_)
        · refine xn_iinc (v := k + 1) (lv' := [(3, .int (nI (k + 1))), (0, .ref o), (1, .long d9), (4, .ref x53), (5, .ref x53), (6, .int (nI n)), (7, .int (nI i))]) hx hb dX4_digest_132 hl (k := 2) rfl (xinc1 _) (by decide) rfl (fun ls hl => ?_)
          refine lv_goto (tgt := 38) hx hb dX4_digest_135 (by decide) ?_
          exact ih38 (d9, k + 1) _ _ _ _ ls ⟨(by dsimp only; omega), (by dsimp only; rw [h5, show i = n by omega]; rfl), hM, hle, hS, (by dsimp only; omega), (by dsimp only; omega), lv_sub hl [1, 2, 0] rfl⟩ (by dsimp only; omega)
        · refine lv_aload hx hb dX4_digest_109 (lv_at hl 4 rfl) ?_
          refine lv_iload hx hb dX4_digest_111 (lv_at hl 6 rfl) ?_
          refine x_iald hx hb hK hR53 (by omega) (by omega) dX4_digest_113 ?_
          refine lv_istore (lv' := [(8, .int (nI (pm k i))), (0, .ref o), (1, .long d9), (3, .int (nI k)), (4, .ref x53), (5, .ref x53), (6, .int (nI n)), (7, .int (nI i))]) hx hb dX4_digest_114 hl (by decide) rfl (fun ls hl => ?_)
          refine lv_lload_n hx hb dX4_digest_116 rfl (lv_at hl 2 rfl) ?_
          refine lv_ldc2 (v := 31) hx hb hown (hts (.constantLong RX4 121 31) (by decide +kernel)) dX4_digest_117 ?_
          refine lv_lmul hx hb dX4_digest_120 ?_
          refine lv_iload hx hb dX4_digest_121 (lv_at hl 0 rfl) ?_
          refine lv_i2l hx hb dX4_digest_123 rfl ?_
          refine lv_ladd hx hb dX4_digest_124 ?_
          refine lv_lstore_n (lv' := [(1, .long ((d9 * 31) + (((nI (pm k i))).toInt64))), (8, .int (nI (pm k i))), (0, .ref o), (3, .int (nI k)), (4, .ref x53), (5, .ref x53), (6, .int (nI n)), (7, .int (nI i))]) hx hb dX4_digest_125 rfl hl (by decide) rfl (fun ls hl => ?_)
          refine xn_iinc (v := i + 1) (lv' := [(7, .int (nI (i + 1))), (1, .long ((d9 * 31) + (((nI (pm k i))).toInt64))), (8, .int (nI (pm k i))), (0, .ref o), (3, .int (nI k)), (4, .ref x53), (5, .ref x53), (6, .int (nI n))]) hx hb dX4_digest_126 hl (k := 7) rfl (xinc1 _) (by decide) rfl (fun ls hl => ?_)
          refine lv_goto (tgt := 102) hx hb dX4_digest_129 (by decide) ?_
          exact ih102 ((d9 * 31) + (((nI (pm k i))).toInt64), i + 1) _ _ _ _ ls ⟨(by dsimp only; omega), (by dsimp only; rw [h5]; rfl), hM, hle, hR53, hS, hce, hse, lv_sub hl [3, 1, 4, 5, 6, 7, 0] rfl⟩ (by dsimp only; omega)
      · refine lv_lload_n hx hb dX4_digest_68 rfl (lv_at hl 1 rfl) ?_
        refine lv_ldc2 (v := 31) hx hb hown (hts (.constantLong RX4 121 31) (by decide +kernel)) dX4_digest_69 ?_
        refine lv_lmul hx hb dX4_digest_72 ?_
        refine lv_aload_n hx hb dX4_digest_73 rfl (lv_at hl 0 rfl) ?_
        refine lv_aload hx hb dX4_digest_74 (lv_at hl 3 rfl) ?_
        refine lv_iload hx hb dX4_digest_76 (lv_at hl 4 rfl) ?_
        refine xmI (As := [.ref x53, .int (nI w)]) (rest := [.long (d9 * 31)]) ⟨hx, hb, hml, hown, hts⟩ (cX4_toldOf_ l D cI cC o bk kp 0 n ch st rg bf kf _ x53 (pm k) (by omega) (by omega) (hpm k c43) (prm_100 (hpm k c43) hn8) w (by omega)) (cwV 2 hts gX4_digest_X4_toldOf rfl rfl rfl (by decide +kernel) ⟨Nat.le_of_ble_eq_true rfl, Nat.le_of_ble_eq_true rfl⟩) hK ⟨rfl, hM, hR53⟩ (xRecv hK rfl hM.1) rfl hl.1 rfl (Nat.le_of_ble_eq_true rfl) dX4_digest_78 ⟨(by show cells + 1 ≤ 900; omega), (by show slots + 8 ≤ 7200; omega)⟩ hS (fun q h => Or.inr (Or.inr (Or.inr (Nat.le_trans hle h)))) (fun q h => Or.inr (Or.inr (Or.inr (Nat.le_trans hle h)))) (fun x78 u78 H1 locs1 hp78 hF78 hz78 hk78 hS => ?_)
        have hM := xMo_old hM (xk_old hk78)
        have hR53 : xRow D cI x53 n (pm k) H1 := xat_old hR53 (xk_old hk78)
        have hle : sz ≤ H1.size := Nat.le_trans hle hz78
        subst hp78
        refine lv_i2l hx hb dX4_digest_81 rfl ?_
        refine lv_ladd hx hb dX4_digest_82 ?_
        refine lv_lstore_n (lv' := [(1, .long ((d9 * 31) + (((nI (tld (pm k) n w))).toInt64))), (0, .ref o), (3, .int (nI k)), (4, .ref x53), (5, .int (nI w))]) hx hb dX4_digest_83 rfl hl (by decide) rfl (fun ls hl => ?_)
        refine xn_iinc (v := w + 1) (lv' := [(5, .int (nI (w + 1))), (1, .long ((d9 * 31) + (((nI (tld (pm k) n w))).toInt64))), (0, .ref o), (3, .int (nI k)), (4, .ref x53)]) hx hb dX4_digest_84 hl (k := 4) rfl (xinc1 _) (by decide) rfl (fun ls hl => ?_)
        refine lv_goto (tgt := 61) hx hb dX4_digest_87 (by decide) ?_
        exact ih61 ((d9 * 31) + (((nI (tld (pm k) n w))).toInt64), w + 1) _ _ _ _ ls ⟨(by dsimp only; omega), (by dsimp only; rw [h5]; rfl), hM, hle, hR53, hS, (by dsimp only; omega), (by dsimp only; omega), lv_sub hl [2, 1, 3, 4, 0] rfl⟩ (by dsimp only; omega)
  · refine lv_lload_n hx hb dX4_digest_17 rfl (lv_at hl 1 rfl) ?_
    refine lv_ldc2 (v := 31) hx hb hown (hts (.constantLong RX4 121 31) (by decide +kernel)) dX4_digest_18 ?_
    refine lv_lmul hx hb dX4_digest_21 ?_
    refine lv_aload_n hx hb dX4_digest_22 rfl (lv_at hl 0 rfl) ?_
    refine lv_iload_n hx hb dX4_digest_23 rfl (lv_at hl 2 rfl) ?_
    refine xcV (As := [.int (nI i)]) (rest := [.long (d9 * 31)]) ⟨hx, hb, hml, hown, hts⟩ (cX4_counted_ l D cI cC o bk kp 0 n ch st rg bf kf (by omega) (by omega) (fun i => Nat.lt_trans (hbb i) (by decide)) i (by omega)) (cwV 1 hts gX4_digest_X4_counted rfl rfl rfl (by decide +kernel) ⟨Nat.le_of_ble_eq_true rfl, Nat.le_of_ble_eq_true rfl⟩) hK hM (xRecv hK rfl hM.1) rfl hl.1 rfl (Nat.le_of_ble_eq_true rfl) dX4_digest_24 ⟨(by show cells ≤ 900; omega), (by show slots ≤ 7200; omega)⟩ (fun x24 e24 => ?_)
    subst e24
    refine lv_i2l hx hb dX4_digest_27 rfl ?_
    refine lv_ladd hx hb dX4_digest_28 ?_
    refine lv_lstore_n (lv' := [(1, .long ((d9 * 31) + (((nI (cvl n ch st rg (sm (nwf bf) ch) i))).toInt64))), (0, .ref o), (3, .int (nI i))]) hx hb dX4_digest_29 rfl hl (by decide) rfl (fun ls hl => ?_)
    refine xn_iinc (v := i + 1) (lv' := [(3, .int (nI (i + 1))), (1, .long ((d9 * 31) + (((nI (cvl n ch st rg (sm (nwf bf) ch) i))).toInt64))), (0, .ref o)]) hx hb dX4_digest_30 hl (k := 2) rfl (xinc1 _) (by decide) rfl (fun ls hl => ?_)
    refine lv_goto (tgt := 11) hx hb dX4_digest_33 (by decide) ?_
    exact ih11 ((d9 * 31) + (((nI (cvl n ch st rg (sm (nwf bf) ch) i))).toInt64), i + 1) _ _ _ _ ls ⟨(by dsimp only; omega), (by dsimp only; rw [h3, hds]; rfl), hM, hle, hS, hce, hse, lv_sub hl [2, 1, 0] rfl⟩ (by dsimp only; omega)

