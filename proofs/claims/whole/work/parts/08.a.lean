/-! THE MODEL'S CALLS: what they answer, throw and leave, by the shared state -/
def xMW (D : va_G) (cI : ClassId) (o bk kp t : Nat) (S : AS) (H : Heap) : Prop := ∃ bf : Nat → Nat, xMo D cI o bk kp t S.1 S.2.1 S.2.2.2.1 S.2.2.2.2.2 bf S.2.2.2.2.1 H ∧ (∀ k, k < S.2.1 → bf k = hrk (S.2.2.1 k) S.1 S.1) ∧ ∀ k, bf k < 40320
theorem xMW_mk {D : va_G} {cI : ClassId} {o bk kp t : Nat} {S : AS} {H : Heap} {bf : Nat → Nat} (hM : xMo D cI o bk kp t S.1 S.2.1 S.2.2.2.1 S.2.2.2.2.2 bf S.2.2.2.2.1 H) (h1 : ∀ k, k < S.2.1 → bf k = hrk (S.2.2.1 k) S.1 S.1) (h2 : ∀ k, bf k < 40320) : xMW D cI o bk kp t S H := ⟨bf, hM, h1, h2⟩
abbrev xMA (o bk kp sz : Nat) : Nat → Prop := fun q9 => q9 = o ∨ q9 = bk ∨ q9 = kp ∨ sz ≤ q9
theorem ite_pos1 {P : Prop} [Decidable P] (h : 0 < (if P then 1 else 0 : Nat)) : P := by
  by_cases p : P
  · exact p
  · rw [if_neg p] at h; exact absurd h (Nat.lt_irrefl _)
theorem ite_zero1 {P : Prop} [Decidable P] (h : (if P then 1 else 0 : Nat) = 0) : ¬ P := fun p => by rw [if_pos p] at h; exact absurd h (by decide)
theorem xin_rng {x : Int32} {lo hi : Nat} (hh : hi < 2 ^ 30) (hl : lo < 2 ^ 30) : (nI lo ≤ x ∧ x ≤ nI hi) ↔ (inR x (hi + 1) ∧ lo ≤ xN x) := by
  by_cases h : x < 0
  · exact ⟨fun z => absurd (Int32.le_trans (nI_pos' (by omega)) z.1) (Int32.not_le.mpr h), fun z => absurd h z.1.1⟩
  · obtain ⟨j, hj, rfl⟩ := nI_of h
    rw [inR_nI hj, nI_leI (by omega) hj, nI_leI hj (by omega)]
    show lo ≤ j ∧ j ≤ hi ↔ j < hi + 1 ∧ lo ≤ (nI j).toNatClampNeg
    rw [nI_clamp hj]
    omega
theorem hrk_bd {f : Nat → Nat} {n : Nat} (hn : n ≤ 8) : hrk f n n < 40320 := Nat.lt_of_lt_of_le (hrk_lt f n) (fac_le n hn)
theorem up_rk {bf : Nat → Nat} {pm : Nat → Nat → Nat} {n ch j : Nat} {f : Nat → Nat} (h : ∀ k, k < ch → bf k = hrk (pm k) n n) : ∀ k, k < ch → va_up bf j (hrk f n n) k = hrk (va_up pm j f k) n n := fun k hk => by
  by_cases c : k = j
  · rw [c, va_up_self, va_up_self]
  · rw [va_up_ne _ _ c, va_up_ne _ _ c]; exact h k hk
theorem ad_rk {bf : Nat → Nat} {pm : Nat → Nat → Nat} {n ch : Nat} {f : Nat → Nat} (h : ∀ k, k < ch → bf k = hrk (pm k) n n) : ∀ k, k < ch + 1 → va_up bf ch (hrk f n n) k = hrk (va_up pm ch f k) n n := fun k hk => by
  by_cases c : k = ch
  · rw [c, va_up_self, va_up_self]
  · rw [va_up_ne _ _ c, va_up_ne _ _ c]; exact h k (by omega)
theorem up_bd {bf : Nat → Nat} {j v : Nat} (h : ∀ k, bf k < 40320) (hv : v < 40320) : ∀ k, va_up bf j v k < 40320 := fun k => by
  by_cases c : k = j
  · rw [c, va_up_self]; exact hv
  · rw [va_up_ne _ _ c]; exact h k
theorem prm_100 {n : Nat} {f : Nat → Nat} (h : Prm n f) (hn : n ≤ 8) : ∀ i, i < n → f i < 100 := fun i hi => Nat.lt_of_lt_of_le (h.1 i hi) (Nat.le_trans hn (by decide))
theorem prm_lt {n : Nat} {f : Nat → Nat} (h : Prm n f) : ∀ i, i < n → f i < n := h.1
theorem neq_b {a b : Nat} (h : a ≠ b) : (a == b) = false := by simpa using h
theorem eq_b {a b : Nat} (h : a = b) : (a == b) = true := by simpa using h
theorem xin0 {x : Int32} {hi N : Nat} (hN : hi + 1 = N) (hh : hi < 2 ^ 30) : (nI 0 ≤ x ∧ x ≤ nI hi) ↔ inR x N := by
  rw [xin_rng hh (by decide), hN]
  exact ⟨fun h => h.1, fun h => ⟨h, Nat.zero_le _⟩⟩
theorem stp_le (k n : Nat) : ∀ u i, stp k n u i ≤ 1
  | 0, _ => Nat.le_refl _
  | u + 1, i => by
    show (if i < n then (if bitN k i = 1 then stp k n u (i + 1) else (if i + 1 < n ∧ bitN k (i + 1) = 0 then stp k n u (i + 2) else 0)) else 1) ≤ 1
    by_cases h : i < n
    · rw [if_pos h]
      by_cases h2 : bitN k i = 1
      · rw [if_pos h2]; exact stp_le k n u _
      · rw [if_neg h2]
        by_cases h3 : i + 1 < n ∧ bitN k (i + 1) = 0
        · rw [if_pos h3]; exact stp_le k n u _
        · rw [if_neg h3]; exact Nat.zero_le _
    · rw [if_neg h]; exact Nat.le_refl _
theorem istep_le {P : Prop} [Decidable P] {v : Nat} (hv : v ≤ 1) : (if P then v else 0 : Nat) ≤ 1 := by
  by_cases p : P
  · rw [if_pos p]; exact hv
  · rw [if_neg p]; exact Nat.zero_le _
theorem istep_1 {P : Prop} [Decidable P] {v : Nat} (h : 0 < (if P then v else 0 : Nat)) (hv : v ≤ 1) : P ∧ v = 1 := by
  by_cases p : P
  · rw [if_pos p] at h; exact ⟨p, by omega⟩
  · rw [if_neg p] at h; exact absurd h (Nat.lt_irrefl _)
theorem istep_0 {P : Prop} [Decidable P] {v : Nat} (h : (if P then v else 0 : Nat) = 0) (_ : v ≤ 1) : ¬ (P ∧ v = 1) := fun z => by
  rw [if_pos z.1] at h; omega
theorem xdec1 {k : Nat} (h : 0 < k) : nI k + Int32.ofInt (-1) = nI (k - 1) := by
  obtain ⟨z, rfl⟩ : ∃ z, k = z + 1 := ⟨k - 1, by omega⟩
  exact pk_m1 z
theorem va_up_same {α : Type} (f : Nat → α) (k : Nat) : va_up f k (f k) = f := by
  funext j
  by_cases c : j = k
  · rw [c, va_up_self]
  · rw [va_up_ne _ _ c]
theorem ivs_congr {a b : Nat → Nat} {n : Nat} (h : ∀ i, i < n → a i = b i) : ivs a n = ivs b n := sm_congr (fun _ hq => lss_congr hq h)
theorem nwg_congr {g g' : Nat → Nat} {N : Nat} (h : ∀ k, k < N → g k = g' k) {k : Nat} (hk : k < N) : ∀ i, i ≤ k → nwg g k i = nwg g' k i
  | 0, _ => rfl
  | i + 1, hi => by
    show nwg g k i * (if g i = g k then 0 else 1) = nwg g' k i * (if g' i = g' k then 0 else 1)
    rw [nwg_congr h hk i (by omega), h i (by omega), h k hk]
theorem nwf_congr {g g' : Nat → Nat} {N : Nat} (h : ∀ k, k < N → g k = g' k) : sm (nwf g) N = sm (nwf g') N := sm_congr (fun k hk => nwg_congr h hk k (Nat.le_refl _))
theorem adB_le (g : Nat → Nat) : ∀ k, adB g k ≤ k
  | 0 => Nat.le_refl _
  | k + 1 => by
    show (if g (k + 1) < g (adB g k) then k + 1 else adB g k) ≤ k + 1
    have := adB_le g k
    split <;> omega
theorem nI_nm1 {k : Nat} (h : k < 2 ^ 30) : ¬ nI k = (-1) := fun e => by
  have h1 : (0 : Int32) ≤ nI k := nI_pos' (by omega)
  rw [e] at h1
  exact absurd h1 (by decide)
theorem xN_nI {j : Nat} (h : j < 2 ^ 31) : xN (nI j) = j := nI_clamp h
set_option maxRecDepth 100000 in
set_option maxHeartbeats 4000000 in
theorem mSetBells_ (l : Launch) (D : va_G) (cI cC : ClassId) (o bk kp : Nat) (d1 : o ≠ bk) (d2 : o ≠ kp) (d3 : bk ≠ kp) (t0 : Nat) (S : AS) (hI : AI S) (sz : Nat) (x : Int32) : Met l yX4_setBells wsX4_setBells (xRm 20 900 7200) (va_Pc [.ref o, .int x] (xB D cI cC (fun H => H.size = sz ∧ xMW D cI o bk kp t0 S H))) (xI (fun r (_ : Unit) => tSet S x = 0 → r = rSet S x) (fun _ H => xMW D cI o bk kp (tSet S x) (nSet S x) H) (xMA o bk kp sz)) 900 7200 (xMA o bk kp sz) := by
  obtain ⟨n, ch, pm, st, kf, rg⟩ := S
  obtain ⟨⟨hn2, hn8⟩, hch, hst, hpm8, hpm, hkv, hkb⟩ := id hI
  dsimp only at hn2 hn8 hch hst hpm8 hpm hkv hkb
  refine Met.ofW (cc := cX4_setBells) (maxL := 3) (ret := (some .int)) (by decide) rfl ?_
  intro p e s m args below meth c s₁ B hml hv
  obtain ⟨rfl, hP, hK⟩ := hv
  have hx := B.exec
  have hb := B.bytes
  have hr := B.returns
  have hts := atoms_spec (ws := wsX4_setBells) B.pre
  have hown : s.vm.findClass RX4 = some m.cls := findClass_of_methodNamed B.named
  have hlocks := B.notSynchronized
  obtain ⟨hsz, bf, hM, hbr, hbb⟩ := hP
  have hl := lv_entry ([.ref o, .int x]) (n := 3) (Nat.le_of_ble_eq_true rfl)
  rw [lg_entry_eq]
  generalize (lg_sl ([.ref o, .int x]) ++ List.replicate (3 - (lg_sl ([.ref o, .int x])).length) Slot.unset).toArray = ls at hl ⊢
  have hl : lv_has ls 3 [(0, .ref o), (1, .int x)] := hl
  have hM : xMo D cI o bk kp t0 n ch st rg bf kf s.heap := hM
  have hbr : ∀ k, k < ch → bf k = hrk (pm k) n n := hbr
  have hS : va_S (xMA o bk kp sz) s.heap s.heap [] := va_S.rf
  have hle : sz ≤ s.heap.size := Nat.le_of_eq hsz.symm
  refine lv_aload_n hx hb dX4_setBells_0 rfl (lv_at hl 0 rfl) ?_
  refine xn_iconst (v := 0) hx hb dX4_setBells_1 (by decide) ?_
  refine x_put (v := .int (nI 0)) (ty := .int) (C := RX4) (T := TX4) (N := 7) hx hb hts (by decide +kernel) tyX4 tyX4_ok nmX4 hown hK hM.1 hS (Or.inl rfl) rfl 0 (by decide) (hts (.fieldLink RX4 20 "BellRanksModel" "thrown" "I") (by decide +kernel)) (fun _ h9 => h9) rfl (by decide +kernel) rfl rfl (Nat.le_of_ble_eq_true rfl) dX4_setBells_2 (fun H1 locs1 hN hz oq hS => ?_)
  have hM : xMo D cI o bk kp 0 n ch st rg bf kf H1 := ⟨hN, hM.2.1.kept (oq _ (Ne.symm d1)), hM.2.2.kept (oq _ (Ne.symm d2))⟩
  have hle : sz ≤ H1.size := by rw [hz]; exact hle
  refine lv_iload_n hx hb dX4_setBells_5 rfl (lv_at hl 1 rfl) ?_
  refine xn_iconst (v := 2) hx hb dX4_setBells_6 (by decide) ?_
  refine xn_bipush (v := 8) hx hb dX4_setBells_7 (by decide) ?_
  refine xcS (As := [.int x, .int (nI 2), .int (nI 8)]) (rest := []) ⟨hx, hb, hml, hown, hts⟩ (cX4_isIn_ l D cI cC x (nI 2) (nI 8)) (va_cwS 3 hts gX4_setBells_X4_isIn rfl rfl rfl (by decide +kernel) ⟨Nat.le_of_ble_eq_true rfl, Nat.le_of_ble_eq_true rfl⟩) hK trivial rfl hl.1 rfl (Nat.le_of_ble_eq_true rfl) dX4_setBells_9 ⟨(by show 0 ≤ 900; omega), (by show 0 ≤ 7200; omega)⟩ (fun x9 e9 => ?_)
  subst e9
  refine xz_i (congrArg nI (ite10 (xin_rng (by omega) (by omega)))) ?_
  refine xn_if_ne (tgt := 21) hx hb dX4_setBells_12 (by decide) (by split <;> decide) (fun c12 => ?_) (fun c12 => ?_)
  · have hi12 := ite_pos1 c12
    obtain ⟨j, hj, hjb, rfl⟩ := inR_of hi12.1
    have h2 : 2 ≤ j := by have z := hi12.2; rw [xN_nI hjb] at z; exact z
    have hl : lv_has ls 3 [(0, .ref o), (1, .int (nI j))] := hl
    refine lv_aload_n hx hb dX4_setBells_21 rfl (lv_at hl 0 rfl) ?_
    refine x_get (v := .int (nI n)) (C := RX4) (T := TX4) (N := 7) hx hb hts (by decide +kernel) hown hK hM.1 rfl 1 (by decide) (hts (.fieldLink RX4 7 "BellRanksModel" "bells" "I") (by decide +kernel)) (fun _ h9 => h9) rfl dX4_setBells_22 ?_
    refine lv_istore_n (lv' := [(2, .int (nI n)), (0, .ref o), (1, .int (nI j))]) hx hb dX4_setBells_25 rfl hl (by decide) rfl (fun ls hl => ?_)
    refine lv_aload_n hx hb dX4_setBells_26 rfl (lv_at hl 1 rfl) ?_
    refine lv_iload_n hx hb dX4_setBells_27 rfl (lv_at hl 2 rfl) ?_
    refine x_put (v := .int (nI j)) (ty := .int) (C := RX4) (T := TX4) (N := 7) hx hb hts (by decide +kernel) tyX4 tyX4_ok nmX4 hown hK hM.1 hS (Or.inl rfl) rfl 1 (by decide) (hts (.fieldLink RX4 7 "BellRanksModel" "bells" "I") (by decide +kernel)) (fun _ h9 => h9) rfl (by decide +kernel) rfl rfl (Nat.le_of_ble_eq_true rfl) dX4_setBells_28 (fun H1 locs1 hN hz oq hS => ?_)
    have hM : xMo D cI o bk kp 0 j ch st rg bf kf H1 := ⟨hN, hM.2.1.kept (oq _ (Ne.symm d1)), hM.2.2.kept (oq _ (Ne.symm d2))⟩
    have hle : sz ≤ H1.size := by rw [hz]; exact hle
    refine lv_aload_n hx hb dX4_setBells_31 rfl (lv_at hl 1 rfl) ?_
    refine xn_iconst (v := 0) hx hb dX4_setBells_32 (by decide) ?_
    refine x_put (v := .int (nI 0)) (ty := .int) (C := RX4) (T := TX4) (N := 7) hx hb hts (by decide +kernel) tyX4 tyX4_ok nmX4 hown hK hM.1 hS (Or.inl rfl) rfl 2 (by decide) (hts (.fieldLink RX4 23 "BellRanksModel" "changes" "I") (by decide +kernel)) (fun _ h9 => h9) rfl (by decide +kernel) rfl rfl (Nat.le_of_ble_eq_true rfl) dX4_setBells_33 (fun H1 locs1 hN hz oq hS => ?_)
    have hM : xMo D cI o bk kp 0 j 0 st rg bf kf H1 := ⟨hN, hM.2.1.kept (oq _ (Ne.symm d1)), hM.2.2.kept (oq _ (Ne.symm d2))⟩
    have hle : sz ≤ H1.size := by rw [hz]; exact hle
    refine lv_aload_n hx hb dX4_setBells_36 rfl (lv_at hl 1 rfl) ?_
    refine xn_iconst (v := 0) hx hb dX4_setBells_37 (by decide) ?_
    refine x_put (v := .int (nI 0)) (ty := .int) (C := RX4) (T := TX4) (N := 7) hx hb hts (by decide +kernel) tyX4 tyX4_ok nmX4 hown hK hM.1 hS (Or.inl rfl) rfl 4 (by decide) (hts (.fieldLink RX4 48 "BellRanksModel" "steps" "I") (by decide +kernel)) (fun _ h9 => h9) rfl (by decide +kernel) rfl rfl (Nat.le_of_ble_eq_true rfl) dX4_setBells_38 (fun H1 locs1 hN hz oq hS => ?_)
    have hM : xMo D cI o bk kp 0 j 0 0 rg bf kf H1 := ⟨hN, hM.2.1.kept (oq _ (Ne.symm d1)), hM.2.2.kept (oq _ (Ne.symm d2))⟩
    have hle : sz ≤ H1.size := by rw [hz]; exact hle
    refine lv_iload_n hx hb dX4_setBells_41 rfl (lv_at hl 0 rfl) ?_
    have ht : tSet (n, ch, pm, st, kf, rg) (nI j) = 0 := if_pos hi12
    have hnw : nSet (n, ch, pm, st, kf, rg) (nI j) = (j, 0, pm, 0, kf, rg) := (if_pos ht).trans (by simp only [xN_nI hjb])
    refine W.widen (k := 900) (n := 7200) (by omega) (by omega) ?_
    exact x_miret hx hb hr hlocks () (fun _ => rfl) (by rw [ht, hnw]; exact xMW_mk hM (fun k hk => absurd hk (Nat.not_lt_zero _)) hbb) hS (fun _ h => h) dX4_setBells_42
  · have hi12 := ite_zero1 c12
    refine lv_aload_n hx hb dX4_setBells_15 rfl (lv_at hl 0 rfl) ?_
    refine xn_iconst (v := 1) hx hb dX4_setBells_16 (by decide) ?_
    refine xmI (As := [.int (nI 1)]) (rest := []) ⟨hx, hb, hml, hown, hts⟩ (cX4_no_ l D cI cC o bk kp 0 n ch st rg bf kf d1 d2 d3 1) (cwV 1 hts gX4_setBells_X4_no rfl rfl rfl (by decide +kernel) ⟨Nat.le_of_ble_eq_true rfl, Nat.le_of_ble_eq_true rfl⟩) hK hM (xRecv hK rfl hM.1) rfl hl.1 rfl (Nat.le_of_ble_eq_true rfl) dX4_setBells_17 ⟨(by show 0 + 0 ≤ 900; omega), (by show 0 + 0 ≤ 7200; omega)⟩ hS (fun q h => Or.inl h) (fun q h => Or.inl h) (fun x17 u17 H1 locs1 hp17 hF17 hz17 hk17 hS => ?_)
    have hM : xMo D cI o bk kp 1 n ch st rg bf kf H1 := hF17
    have hle : sz ≤ H1.size := Nat.le_trans hle hz17
    subst hp17
    have ht : tSet (n, ch, pm, st, kf, rg) x = 1 := if_neg hi12
    refine W.widen (k := 900) (n := 7200) (by omega) (by omega) ?_
    exact x_miret hx hb hr hlocks () (fun z => absurd (ht.symm.trans z) (by decide)) (by rw [ht, show nSet (n, ch, pm, st, kf, rg) x = (n, ch, pm, st, kf, rg) from if_neg (by rw [ht]; decide)]; exact xMW_mk hM hbr hbb) hS (fun _ h => h) dX4_setBells_20

set_option maxRecDepth 100000 in
set_option maxHeartbeats 4000000 in
theorem mWrite_ (l : Launch) (D : va_G) (cI cC : ClassId) (o bk kp : Nat) (d1 : o ≠ bk) (d2 : o ≠ kp) (d3 : bk ≠ kp) (t0 : Nat) (S : AS) (hI : AI S) (sz : Nat) (x : Int32) : Met l yX4_write wsX4_write (xRm 20 900 7200) (va_Pc [.ref o, .int x] (xB D cI cC (fun H => H.size = sz ∧ xMW D cI o bk kp t0 S H))) (xI (fun r (_ : Unit) => tWrite S x = 0 → r = rWrite S x) (fun _ H => xMW D cI o bk kp (tWrite S x) (nWrite S x) H) (xMA o bk kp sz)) 900 7200 (xMA o bk kp sz) := by
  obtain ⟨n, ch, pm, st, kf, rg⟩ := S
  obtain ⟨⟨hn2, hn8⟩, hch, hst, hpm8, hpm, hkv, hkb⟩ := id hI
  dsimp only at hn2 hn8 hch hst hpm8 hpm hkv hkb
  refine Met.ofW (cc := cX4_write) (maxL := 2) (ret := (some .int)) (by decide) rfl ?_
  intro p e s m args below meth c s₁ B hml hv
  obtain ⟨rfl, hP, hK⟩ := hv
  have hx := B.exec
  have hb := B.bytes
  have hr := B.returns
  have hts := atoms_spec (ws := wsX4_write) B.pre
  have hown : s.vm.findClass RX4 = some m.cls := findClass_of_methodNamed B.named
  have hlocks := B.notSynchronized
  obtain ⟨hsz, bf, hM, hbr, hbb⟩ := hP
  have hl := lv_entry ([.ref o, .int x]) (n := 2) (Nat.le_of_ble_eq_true rfl)
  rw [lg_entry_eq]
  generalize (lg_sl ([.ref o, .int x]) ++ List.replicate (2 - (lg_sl ([.ref o, .int x])).length) Slot.unset).toArray = ls at hl ⊢
  have hl : lv_has ls 2 [(0, .ref o), (1, .int x)] := hl
  have hM : xMo D cI o bk kp t0 n ch st rg bf kf s.heap := hM
  have hbr : ∀ k, k < ch → bf k = hrk (pm k) n n := hbr
  have hS : va_S (xMA o bk kp sz) s.heap s.heap [] := va_S.rf
  have hle : sz ≤ s.heap.size := Nat.le_of_eq hsz.symm
  refine lv_aload_n hx hb dX4_write_0 rfl (lv_at hl 0 rfl) ?_
  refine xn_iconst (v := 0) hx hb dX4_write_1 (by decide) ?_
  refine x_put (v := .int (nI 0)) (ty := .int) (C := RX4) (T := TX4) (N := 7) hx hb hts (by decide +kernel) tyX4 tyX4_ok nmX4 hown hK hM.1 hS (Or.inl rfl) rfl 0 (by decide) (hts (.fieldLink RX4 20 "BellRanksModel" "thrown" "I") (by decide +kernel)) (fun _ h9 => h9) rfl (by decide +kernel) rfl rfl (Nat.le_of_ble_eq_true rfl) dX4_write_2 (fun H1 locs1 hN hz oq hS => ?_)
  have hM : xMo D cI o bk kp 0 n ch st rg bf kf H1 := ⟨hN, hM.2.1.kept (oq _ (Ne.symm d1)), hM.2.2.kept (oq _ (Ne.symm d2))⟩
  have hle : sz ≤ H1.size := by rw [hz]; exact hle
  refine lv_iload_n hx hb dX4_write_5 rfl (lv_at hl 1 rfl) ?_
  refine xn_iconst (v := 0) hx hb dX4_write_6 (by decide) ?_
  refine lv_aload_n hx hb dX4_write_7 rfl (lv_at hl 0 rfl) ?_
  refine x_get (v := .int (nI n)) (C := RX4) (T := TX4) (N := 7) hx hb hts (by decide +kernel) hown hK hM.1 rfl 1 (by decide) (hts (.fieldLink RX4 7 "BellRanksModel" "bells" "I") (by decide +kernel)) (fun _ h9 => h9) rfl dX4_write_8 ?_
  refine xcS (As := [.int (nI n)]) (rest := [.int (nI 0), .int x]) ⟨hx, hb, hml, hown, hts⟩ (cX4_product_ l D cI cC n (by omega)) (va_cwS 1 hts gX4_write_X4_product rfl rfl rfl (by decide +kernel) ⟨Nat.le_of_ble_eq_true rfl, Nat.le_of_ble_eq_true rfl⟩) hK trivial rfl hl.1 rfl (Nat.le_of_ble_eq_true rfl) dX4_write_11 ⟨(by show 0 ≤ 900; omega), (by show 0 ≤ 7200; omega)⟩ (fun x11 e11 => ?_)
  subst e11
  refine xn_iconst (v := 1) hx hb dX4_write_14 (by decide) ?_
  refine lv_isub hx hb dX4_write_15 ?_
  refine xcS (As := [.int x, .int (nI 0), .int (nI (fac n) - nI 1)]) (rest := []) ⟨hx, hb, hml, hown, hts⟩ (cX4_isIn_ l D cI cC x (nI 0) (nI (fac n) - nI 1)) (va_cwS 3 hts gX4_write_X4_isIn rfl rfl rfl (by decide +kernel) ⟨Nat.le_of_ble_eq_true rfl, Nat.le_of_ble_eq_true rfl⟩) hK trivial rfl hl.1 rfl (Nat.le_of_ble_eq_true rfl) dX4_write_16 ⟨(by show 0 ≤ 900; omega), (by show 0 ≤ 7200; omega)⟩ (fun x16 e16 => ?_)
  subst e16
  refine xz_i (congrArg nI (ite10 (inR_in (by have := fac_le n hn8; omega)))) ?_
  refine xn_if_ne (tgt := 28) hx hb dX4_write_19 (by decide) (by split <;> decide) (fun c19 => ?_) (fun c19 => ?_)
  · have hi19 := ite_pos1 c19
    obtain ⟨j, hj, hjb, rfl⟩ := inR_of hi19
    have hl : lv_has ls 2 [(0, .ref o), (1, .int (nI j))] := hl
    refine lv_aload_n hx hb dX4_write_28 rfl (lv_at hl 0 rfl) ?_
    refine x_get (v := .int (nI ch)) (C := RX4) (T := TX4) (N := 7) hx hb hts (by decide +kernel) hown hK hM.1 rfl 2 (by decide) (hts (.fieldLink RX4 23 "BellRanksModel" "changes" "I") (by decide +kernel)) (fun _ h9 => h9) rfl dX4_write_29 ?_
    refine xn_bipush (v := 16) hx hb dX4_write_32 (by decide) ?_
    refine xn_icmp_ne (tgt := 45) hx hb dX4_write_34 (by decide) (by omega) (by decide) (fun c34 => ?_) (fun c34 => ?_)
    · refine lv_aload_n hx hb dX4_write_45 rfl (lv_at hl 0 rfl) ?_
      refine lv_iload_n hx hb dX4_write_46 rfl (lv_at hl 1 rfl) ?_
      refine xmI (As := [.int (nI j)]) (rest := []) ⟨hx, hb, hml, hown, hts⟩ (cX4_add_ l D cI cC o bk kp 0 n ch st rg bf kf d1 d2 d3 (by omega) j) (cwV 1 hts gX4_write_X4_add rfl rfl rfl (by decide +kernel) ⟨Nat.le_of_ble_eq_true rfl, Nat.le_of_ble_eq_true rfl⟩) hK hM (xRecv hK rfl hM.1) rfl hl.1 rfl (Nat.le_of_ble_eq_true rfl) dX4_write_47 ⟨(by show 0 + 0 ≤ 900; omega), (by show 0 + 0 ≤ 7200; omega)⟩ hS (fun q h => h.elim Or.inl (fun h => Or.inr (Or.inl h))) (fun q h => h.elim Or.inl (fun h => Or.inr (Or.inl h))) (fun x47 u47 H1 locs1 hp47 hF47 hz47 hk47 hS => ?_)
      have hM : xMo D cI o bk kp 0 n (ch + 1) st rg (va_up bf ch j) kf H1 := hF47
      have hle : sz ≤ H1.size := Nat.le_trans hle hz47
      subst hp47
      have ht : tWrite (n, ch, pm, st, kf, rg) (nI j) = 0 := (show (if inR (nI j) (fac n) then (if ch = 16 then 2 else 0) else 1) = 0 by rw [if_pos hi19, if_neg c34])
      have hnw : nWrite (n, ch, pm, st, kf, rg) (nI j) = adP (n, ch, pm, st, kf, rg) (srG (pm ch) n j n) := (if_pos ht).trans (by simp only [xN_nI hjb])
      have he := (srG_hrk (f := pm ch) hj).2
      have hbr2 := ad_rk (f := srG (pm ch) n j n) hbr
      rw [he] at hbr2
      refine W.widen (k := 900) (n := 7200) (by omega) (by omega) ?_
      exact x_miret hx hb hr hlocks () (fun _ => rfl) (by rw [ht, hnw]; exact xMW_mk (S := adP (n, ch, pm, st, kf, rg) (srG (pm ch) n j n)) hM hbr2 (up_bd hbb (by have := fac_le n hn8; omega))) hS (fun _ h => h) dX4_write_50
    · refine lv_aload_n hx hb dX4_write_37 rfl (lv_at hl 0 rfl) ?_
      refine xn_iconst (v := 2) hx hb dX4_write_38 (by decide) ?_
      refine xmI (As := [.int (nI 2)]) (rest := []) ⟨hx, hb, hml, hown, hts⟩ (cX4_no_ l D cI cC o bk kp 0 n ch st rg bf kf d1 d2 d3 2) (cwV 1 hts gX4_write_X4_no rfl rfl rfl (by decide +kernel) ⟨Nat.le_of_ble_eq_true rfl, Nat.le_of_ble_eq_true rfl⟩) hK hM (xRecv hK rfl hM.1) rfl hl.1 rfl (Nat.le_of_ble_eq_true rfl) dX4_write_39 ⟨(by show 0 + 0 ≤ 900; omega), (by show 0 + 0 ≤ 7200; omega)⟩ hS (fun q h => Or.inl h) (fun q h => Or.inl h) (fun x39 u39 H1 locs1 hp39 hF39 hz39 hk39 hS => ?_)
      have hM : xMo D cI o bk kp 2 n ch st rg bf kf H1 := hF39
      have hle : sz ≤ H1.size := Nat.le_trans hle hz39
      subst hp39
      refine lv_goto (tgt := 50) hx hb dX4_write_42 (by decide) ?_
      have ht : tWrite (n, ch, pm, st, kf, rg) (nI j) = 2 := (show (if inR (nI j) (fac n) then (if ch = 16 then 2 else 0) else 1) = 2 by rw [if_pos hi19, if_pos c34])
      refine W.widen (k := 900) (n := 7200) (by omega) (by omega) ?_
      exact x_miret hx hb hr hlocks () (fun z => absurd (ht.symm.trans z) (by decide)) (by rw [ht, show nWrite (n, ch, pm, st, kf, rg) (nI j) = (n, ch, pm, st, kf, rg) from if_neg (by rw [ht]; decide)]; exact xMW_mk hM hbr hbb) hS (fun _ h => h) dX4_write_50
  · have hi19 := ite_zero1 c19
    refine lv_aload_n hx hb dX4_write_22 rfl (lv_at hl 0 rfl) ?_
    refine xn_iconst (v := 1) hx hb dX4_write_23 (by decide) ?_
    refine xmI (As := [.int (nI 1)]) (rest := []) ⟨hx, hb, hml, hown, hts⟩ (cX4_no_ l D cI cC o bk kp 0 n ch st rg bf kf d1 d2 d3 1) (cwV 1 hts gX4_write_X4_no rfl rfl rfl (by decide +kernel) ⟨Nat.le_of_ble_eq_true rfl, Nat.le_of_ble_eq_true rfl⟩) hK hM (xRecv hK rfl hM.1) rfl hl.1 rfl (Nat.le_of_ble_eq_true rfl) dX4_write_24 ⟨(by show 0 + 0 ≤ 900; omega), (by show 0 + 0 ≤ 7200; omega)⟩ hS (fun q h => Or.inl h) (fun q h => Or.inl h) (fun x24 u24 H1 locs1 hp24 hF24 hz24 hk24 hS => ?_)
    have hM : xMo D cI o bk kp 1 n ch st rg bf kf H1 := hF24
    have hle : sz ≤ H1.size := Nat.le_trans hle hz24
    subst hp24
    have ht : tWrite (n, ch, pm, st, kf, rg) x = 1 := (show (if inR x (fac n) then (if ch = 16 then 2 else 0) else 1) = 1 by rw [if_neg hi19])
    refine W.widen (k := 900) (n := 7200) (by omega) (by omega) ?_
    exact x_miret hx hb hr hlocks () (fun z => absurd (ht.symm.trans z) (by decide)) (by rw [ht, show nWrite (n, ch, pm, st, kf, rg) x = (n, ch, pm, st, kf, rg) from if_neg (by rw [ht]; decide)]; exact xMW_mk hM hbr hbb) hS (fun _ h => h) dX4_write_27

set_option maxRecDepth 100000 in
set_option maxHeartbeats 4000000 in
theorem mSwap_ (l : Launch) (D : va_G) (cI cC : ClassId) (o bk kp : Nat) (d1 : o ≠ bk) (d2 : o ≠ kp) (d3 : bk ≠ kp) (t0 : Nat) (S : AS) (hI : AI S) (sz : Nat) (x : Int32) (y : Int32) : Met l yX4_swap wsX4_swap (xRm 20 900 7200) (va_Pc [.ref o, .int x, .int y] (xB D cI cC (fun H => H.size = sz ∧ xMW D cI o bk kp t0 S H))) (xI (fun r (_ : Unit) => tSwap S x y = 0 → r = rSwap S x y) (fun _ H => xMW D cI o bk kp (tSwap S x y) (nSwap S x y) H) (xMA o bk kp sz)) 900 7200 (xMA o bk kp sz) := by
  obtain ⟨n, ch, pm, st, kf, rg⟩ := S
  obtain ⟨⟨hn2, hn8⟩, hch, hst, hpm8, hpm, hkv, hkb⟩ := id hI
  dsimp only at hn2 hn8 hch hst hpm8 hpm hkv hkb
  refine Met.ofW (cc := cX4_swap) (maxL := 5) (ret := (some .int)) (by decide) rfl ?_
  intro p e s m args below meth c s₁ B hml hv
  obtain ⟨rfl, hP, hK⟩ := hv
  have hx := B.exec
  have hb := B.bytes
  have hr := B.returns
  have hts := atoms_spec (ws := wsX4_swap) B.pre
  have hown : s.vm.findClass RX4 = some m.cls := findClass_of_methodNamed B.named
  have hlocks := B.notSynchronized
  obtain ⟨hsz, bf, hM, hbr, hbb⟩ := hP
  have hl := lv_entry ([.ref o, .int x, .int y]) (n := 5) (Nat.le_of_ble_eq_true rfl)
  rw [lg_entry_eq]
  generalize (lg_sl ([.ref o, .int x, .int y]) ++ List.replicate (5 - (lg_sl ([.ref o, .int x, .int y])).length) Slot.unset).toArray = ls at hl ⊢
  have hl : lv_has ls 5 [(0, .ref o), (1, .int x), (2, .int y)] := hl
  have hM : xMo D cI o bk kp t0 n ch st rg bf kf s.heap := hM
  have hbr : ∀ k, k < ch → bf k = hrk (pm k) n n := hbr
  have hS : va_S (xMA o bk kp sz) s.heap s.heap [] := va_S.rf
  have hle : sz ≤ s.heap.size := Nat.le_of_eq hsz.symm
  refine lv_aload_n hx hb dX4_swap_0 rfl (lv_at hl 0 rfl) ?_
  refine xn_iconst (v := 0) hx hb dX4_swap_1 (by decide) ?_
  refine x_put (v := .int (nI 0)) (ty := .int) (C := RX4) (T := TX4) (N := 7) hx hb hts (by decide +kernel) tyX4 tyX4_ok nmX4 hown hK hM.1 hS (Or.inl rfl) rfl 0 (by decide) (hts (.fieldLink RX4 20 "BellRanksModel" "thrown" "I") (by decide +kernel)) (fun _ h9 => h9) rfl (by decide +kernel) rfl rfl (Nat.le_of_ble_eq_true rfl) dX4_swap_2 (fun H1 locs1 hN hz oq hS => ?_)
  have hM : xMo D cI o bk kp 0 n ch st rg bf kf H1 := ⟨hN, hM.2.1.kept (oq _ (Ne.symm d1)), hM.2.2.kept (oq _ (Ne.symm d2))⟩
  have hle : sz ≤ H1.size := by rw [hz]; exact hle
  refine lv_aload_n hx hb dX4_swap_5 rfl (lv_at hl 0 rfl) ?_
  refine lv_iload_n hx hb dX4_swap_6 rfl (lv_at hl 1 rfl) ?_
  refine xcV (As := [.int x]) (rest := []) ⟨hx, hb, hml, hown, hts⟩ (cX4_isChange_ l D cI cC o bk kp 0 n ch st rg bf kf (by omega) x) (cwV 1 hts gX4_swap_X4_isChange rfl rfl rfl (by decide +kernel) ⟨Nat.le_of_ble_eq_true rfl, Nat.le_of_ble_eq_true rfl⟩) hK hM (xRecv hK rfl hM.1) rfl hl.1 rfl (Nat.le_of_ble_eq_true rfl) dX4_swap_7 ⟨(by show 0 ≤ 900; omega), (by show 0 ≤ 7200; omega)⟩ (fun x7 e7 => ?_)
  subst e7
  refine xn_if_eq (tgt := 27) hx hb dX4_swap_10 (by decide) (by split <;> decide) (fun c10 => ?_) (fun c10 => ?_)
  · have hi10 := ite_zero1 c10
    refine lv_aload_n hx hb dX4_swap_27 rfl (lv_at hl 0 rfl) ?_
    refine xn_iconst (v := 1) hx hb dX4_swap_28 (by decide) ?_
    refine xmI (As := [.int (nI 1)]) (rest := []) ⟨hx, hb, hml, hown, hts⟩ (cX4_no_ l D cI cC o bk kp 0 n ch st rg bf kf d1 d2 d3 1) (cwV 1 hts gX4_swap_X4_no rfl rfl rfl (by decide +kernel) ⟨Nat.le_of_ble_eq_true rfl, Nat.le_of_ble_eq_true rfl⟩) hK hM (xRecv hK rfl hM.1) rfl hl.1 rfl (Nat.le_of_ble_eq_true rfl) dX4_swap_29 ⟨(by show 0 + 0 ≤ 900; omega), (by show 0 + 0 ≤ 7200; omega)⟩ hS (fun q h => Or.inl h) (fun q h => Or.inl h) (fun x29 u29 H1 locs1 hp29 hF29 hz29 hk29 hS => ?_)
    have hM : xMo D cI o bk kp 1 n ch st rg bf kf H1 := hF29
    have hle : sz ≤ H1.size := Nat.le_trans hle hz29
    subst hp29
    have ht : tSwap (n, ch, pm, st, kf, rg) x y = 1 := if_neg (fun z => hi10 z.1)
    refine W.widen (k := 900) (n := 7200) (by omega) (by omega) ?_
    exact x_miret hx hb hr hlocks () (fun z => absurd (ht.symm.trans z) (by decide)) (by rw [ht, show nSwap (n, ch, pm, st, kf, rg) x y = (n, ch, pm, st, kf, rg) from if_neg (by rw [ht]; decide)]; exact xMW_mk hM hbr hbb) hS (fun _ h => h) dX4_swap_32
  · have hi10 := ite_pos1 c10
    refine lv_iload_n hx hb dX4_swap_13 rfl (lv_at hl 2 rfl) ?_
    refine xn_iconst (v := 0) hx hb dX4_swap_14 (by decide) ?_
    refine lv_aload_n hx hb dX4_swap_15 rfl (lv_at hl 0 rfl) ?_
    refine x_get (v := .int (nI n)) (C := RX4) (T := TX4) (N := 7) hx hb hts (by decide +kernel) hown hK hM.1 rfl 1 (by decide) (hts (.fieldLink RX4 7 "BellRanksModel" "bells" "I") (by decide +kernel)) (fun _ h9 => h9) rfl dX4_swap_16 ?_
    refine xn_iconst (v := 2) hx hb dX4_swap_19 (by decide) ?_
    refine xn_isub hx hb (by omega) dX4_swap_20 ?_
    refine xcS (As := [.int y, .int (nI 0), .int (nI (n - 2))]) (rest := []) ⟨hx, hb, hml, hown, hts⟩ (cX4_isIn_ l D cI cC y (nI 0) (nI (n - 2))) (va_cwS 3 hts gX4_swap_X4_isIn rfl rfl rfl (by decide +kernel) ⟨Nat.le_of_ble_eq_true rfl, Nat.le_of_ble_eq_true rfl⟩) hK trivial rfl hl.1 rfl (Nat.le_of_ble_eq_true rfl) dX4_swap_21 ⟨(by show 0 ≤ 900; omega), (by show 0 ≤ 7200; omega)⟩ (fun x21 e21 => ?_)
    subst e21
    refine xz_i (congrArg nI (ite10 (xin0 (N := n - 1) (by omega) (by omega)))) ?_
    refine xn_if_ne (tgt := 33) hx hb dX4_swap_24 (by decide) (by split <;> decide) (fun c24 => ?_) (fun c24 => ?_)
    · have hi24 := ite_pos1 c24
      obtain ⟨j1, hj1, hj1b, rfl⟩ := inR_of hi10
      have hl : lv_has ls 5 [(0, .ref o), (1, .int (nI j1)), (2, .int y)] := hl
      obtain ⟨j2, hj2, hj2b, rfl⟩ := inR_of hi24
      have hl : lv_has ls 5 [(0, .ref o), (1, .int (nI j1)), (2, .int (nI j2))] := hl
      refine lv_aload_n hx hb dX4_swap_33 rfl (lv_at hl 0 rfl) ?_
      refine lv_aload_n hx hb dX4_swap_34 rfl (lv_at hl 0 rfl) ?_
      refine x_get (v := .ref bk) (C := RX4) (T := TX4) (N := 7) hx hb hts (by decide +kernel) hown hK hM.1 rfl 3 (by decide) (hts (.fieldLink RX4 13 "BellRanksModel" "book" "[I") (by decide +kernel)) (fun _ h9 => h9) rfl dX4_swap_35 ?_
      refine lv_iload_n hx hb dX4_swap_38 rfl (lv_at hl 1 rfl) ?_
      refine x_iald hx hb hK hM.2.1 (by omega) (by decide) dX4_swap_39 ?_
      refine xmR (As := [.int (nI (bf j1))]) (rest := []) ⟨hx, hb, hml, hown, hts⟩ (cX4_row_ l D cI cC o bk kp 0 n ch st rg bf kf _ (by omega) (pm j1) (hpm j1 hj1) (bf j1) (hbr j1 hj1)) (cwV 1 hts gX4_swap_X4_row rfl rfl rfl (by decide +kernel) ⟨Nat.le_of_ble_eq_true rfl, Nat.le_of_ble_eq_true rfl⟩) hK ⟨rfl, hM⟩ (xRecv hK rfl hM.1) rfl hl.1 rfl (Nat.le_of_ble_eq_true rfl) dX4_swap_40 ⟨(by show 0 + 1 ≤ 900; omega), (by show 0 + 8 ≤ 7200; omega)⟩ hS (fun q h => Or.inr (Or.inr (Or.inr (Nat.le_trans hle h)))) (fun q h => Or.inr (Or.inr (Or.inr (Nat.le_trans hle h)))) (fun u40 x40 H1 locs1 hp40 hF40 hz40 hk40 hS => ?_)
      obtain ⟨hq40, hR40⟩ := hF40
      have hno40 : o ≠ x40 := Nat.ne_of_lt (Nat.lt_of_lt_of_le hM.1.lt hq40)
      have hnb40 : bk ≠ x40 := Nat.ne_of_lt (Nat.lt_of_lt_of_le hM.2.1.lt hq40)
      have hnk40 : kp ≠ x40 := Nat.ne_of_lt (Nat.lt_of_lt_of_le hM.2.2.lt hq40)
      have hsx40 : sz ≤ x40 := Nat.le_trans hle hq40
      have hM := xMo_old hM (xk_old hk40)
      have hle : sz ≤ H1.size := Nat.le_trans hle hz40
      refine lv_astore_n (lv' := [(3, .ref x40), (0, .ref o), (1, .int (nI j1)), (2, .int (nI j2))]) hx hb dX4_swap_43 rfl hl (by decide) rfl (fun ls hl => ?_)
      refine lv_aload_n hx hb dX4_swap_44 rfl (lv_at hl 0 rfl) ?_
      refine lv_iload_n hx hb dX4_swap_45 rfl (lv_at hl 3 rfl) ?_
      refine x_iald hx hb hK hR40 (by omega) (by omega) dX4_swap_46 ?_
      refine lv_istore (lv' := [(4, .int (nI (pm j1 j2))), (3, .ref x40), (0, .ref o), (1, .int (nI j1)), (2, .int (nI j2))]) hx hb dX4_swap_47 hl (by decide) rfl (fun ls hl => ?_)
      refine lv_aload_n hx hb dX4_swap_49 rfl (lv_at hl 1 rfl) ?_
      refine lv_iload_n hx hb dX4_swap_50 rfl (lv_at hl 4 rfl) ?_
      refine lv_aload_n hx hb dX4_swap_51 rfl (lv_at hl 1 rfl) ?_
      refine lv_iload_n hx hb dX4_swap_52 rfl (lv_at hl 4 rfl) ?_
      refine xn_iconst (v := 1) hx hb dX4_swap_53 (by decide) ?_
      refine xn_iadd hx hb dX4_swap_54 ?_
      refine x_iald hx hb hK hR40 (by omega) (by omega) dX4_swap_55 ?_
      refine x_iast hx hb hK hR40 hS (Or.inr (Or.inr (Or.inr hsx40))) (by omega) (by omega) dX4_swap_56 (fun H1 locs1 hN hz oq hS => ?_)
      have hR40 : xRow D cI x40 n (va_up (pm j1) j2 (pm j1 (j2 + 1))) H1 := hN
      have hM : xMo D cI o bk kp 0 n ch st rg bf kf H1 := xMo_keep hM (oq _ hno40) (oq _ hnb40) (oq _ hnk40)
      have hle : sz ≤ H1.size := by rw [hz]; exact hle
      refine lv_aload_n hx hb dX4_swap_57 rfl (lv_at hl 1 rfl) ?_
      refine lv_iload_n hx hb dX4_swap_58 rfl (lv_at hl 4 rfl) ?_
      refine xn_iconst (v := 1) hx hb dX4_swap_59 (by decide) ?_
      refine xn_iadd hx hb dX4_swap_60 ?_
      refine lv_iload hx hb dX4_swap_61 (lv_at hl 0 rfl) ?_
      refine x_iast hx hb hK hR40 hS (Or.inr (Or.inr (Or.inr hsx40))) (by omega) (by omega) dX4_swap_63 (fun H1 locs1 hN hz oq hS => ?_)
      have hR40 : xRow D cI x40 n (va_up (va_up (pm j1) j2 (pm j1 (j2 + 1))) (j2 + 1) (pm j1 j2)) H1 := hN
      have hM : xMo D cI o bk kp 0 n ch st rg bf kf H1 := xMo_keep hM (oq _ hno40) (oq _ hnb40) (oq _ hnk40)
      have hle : sz ≤ H1.size := by rw [hz]; exact hle
      have hR40 : xRow D cI x40 n (xch (pm j1) j2) H1 := hR40
      refine lv_aload_n hx hb dX4_swap_64 rfl (lv_at hl 2 rfl) ?_
      refine lv_iload_n hx hb dX4_swap_65 rfl (lv_at hl 3 rfl) ?_
      refine lv_aload_n hx hb dX4_swap_66 rfl (lv_at hl 1 rfl) ?_
      refine xmI (As := [.int (nI j1), .ref x40]) (rest := []) ⟨hx, hb, hml, hown, hts⟩ (cX4_become_ l D cI cC o bk kp 0 n ch st rg bf kf d1 d2 d3 x40 (xch (pm j1) j2) (Ne.symm hnb40) (by omega) (prm_100 ((hpm j1 hj1).xch (by omega)) hn8) j1 (by omega)) (cwV 2 hts gX4_swap_X4_become rfl rfl rfl (by decide +kernel) ⟨Nat.le_of_ble_eq_true rfl, Nat.le_of_ble_eq_true rfl⟩) hK ⟨hM, hR40⟩ (xRecv hK rfl hM.1) rfl hl.1 rfl (Nat.le_of_ble_eq_true rfl) dX4_swap_67 ⟨(by show 0 + 1 + 0 ≤ 900; omega), (by show 0 + 8 + 0 ≤ 7200; omega)⟩ hS (fun q h => Or.inr (Or.inl h)) (fun q h => Or.inr (Or.inl h)) (fun x67 u67 H1 locs1 hp67 hF67 hz67 hk67 hS => ?_)
      have hM : xMo D cI o bk kp 0 n ch st rg (va_up bf j1 (hrk (xch (pm j1) j2) n n)) kf H1 := hF67
      have hle : sz ≤ H1.size := Nat.le_trans hle hz67
      subst hp67
      have ht : tSwap (n, ch, pm, st, kf, rg) (nI j1) (nI j2) = 0 := if_pos ⟨hi10, hi24⟩
      have hnw : nSwap (n, ch, pm, st, kf, rg) (nI j1) (nI j2) = upP (n, ch, pm, st, kf, rg) j1 (xch (pm j1) j2) := (if_pos ht).trans (by simp only [xN_nI hj1b, xN_nI hj2b])
      refine W.widen (k := 900) (n := 7200) (by omega) (by omega) ?_
      exact x_miret hx hb hr hlocks () (fun _ => by show nI _ = rSwap (n, ch, pm, st, kf, rg) (nI j1) (nI j2); unfold rSwap; simp only [xN_nI hj1b, xN_nI hj2b]) (by rw [ht, hnw]; exact xMW_mk (S := upP (n, ch, pm, st, kf, rg) j1 (xch (pm j1) j2)) hM (up_rk hbr) (up_bd hbb (hrk_bd hn8))) hS (fun _ h => h) dX4_swap_70
    · have hi24 := ite_zero1 c24
      refine lv_aload_n hx hb dX4_swap_27 rfl (lv_at hl 0 rfl) ?_
      refine xn_iconst (v := 1) hx hb dX4_swap_28 (by decide) ?_
      refine xmI (As := [.int (nI 1)]) (rest := []) ⟨hx, hb, hml, hown, hts⟩ (cX4_no_ l D cI cC o bk kp 0 n ch st rg bf kf d1 d2 d3 1) (cwV 1 hts gX4_swap_X4_no rfl rfl rfl (by decide +kernel) ⟨Nat.le_of_ble_eq_true rfl, Nat.le_of_ble_eq_true rfl⟩) hK hM (xRecv hK rfl hM.1) rfl hl.1 rfl (Nat.le_of_ble_eq_true rfl) dX4_swap_29 ⟨(by show 0 + 0 ≤ 900; omega), (by show 0 + 0 ≤ 7200; omega)⟩ hS (fun q h => Or.inl h) (fun q h => Or.inl h) (fun x29 u29 H1 locs1 hp29 hF29 hz29 hk29 hS => ?_)
      have hM : xMo D cI o bk kp 1 n ch st rg bf kf H1 := hF29
      have hle : sz ≤ H1.size := Nat.le_trans hle hz29
      subst hp29
      have ht : tSwap (n, ch, pm, st, kf, rg) x y = 1 := if_neg (fun z => hi24 z.2)
      refine W.widen (k := 900) (n := 7200) (by omega) (by omega) ?_
      exact x_miret hx hb hr hlocks () (fun z => absurd (ht.symm.trans z) (by decide)) (by rw [ht, show nSwap (n, ch, pm, st, kf, rg) x y = (n, ch, pm, st, kf, rg) from if_neg (by rw [ht]; decide)]; exact xMW_mk hM hbr hbb) hS (fun _ h => h) dX4_swap_32

set_option maxRecDepth 100000 in
set_option maxHeartbeats 4000000 in
theorem mNext_ (l : Launch) (D : va_G) (cI cC : ClassId) (o bk kp : Nat) (d1 : o ≠ bk) (d2 : o ≠ kp) (d3 : bk ≠ kp) (t0 : Nat) (S : AS) (hI : AI S) (sz : Nat) (x : Int32) : Met l yX4_next wsX4_next (xRm 20 900 7200) (va_Pc [.ref o, .int x] (xB D cI cC (fun H => H.size = sz ∧ xMW D cI o bk kp t0 S H))) (xI (fun r (_ : Unit) => tIn S x = 0 → r = rNext S x) (fun _ H => xMW D cI o bk kp (tIn S x) (nNext S x) H) (xMA o bk kp sz)) 900 7200 (xMA o bk kp sz) := by
  obtain ⟨n, ch, pm, st, kf, rg⟩ := S
  obtain ⟨⟨hn2, hn8⟩, hch, hst, hpm8, hpm, hkv, hkb⟩ := id hI
  dsimp only at hn2 hn8 hch hst hpm8 hpm hkv hkb
  refine Met.ofW (cc := cX4_next) (maxL := 2) (ret := (some .int)) (by decide) rfl ?_
  intro p e s m args below meth c s₁ B hml hv
  obtain ⟨rfl, hP, hK⟩ := hv
  have hx := B.exec
  have hb := B.bytes
  have hr := B.returns
  have hts := atoms_spec (ws := wsX4_next) B.pre
  have hown : s.vm.findClass RX4 = some m.cls := findClass_of_methodNamed B.named
  have hlocks := B.notSynchronized
  obtain ⟨hsz, bf, hM, hbr, hbb⟩ := hP
  have hl := lv_entry ([.ref o, .int x]) (n := 2) (Nat.le_of_ble_eq_true rfl)
  rw [lg_entry_eq]
  generalize (lg_sl ([.ref o, .int x]) ++ List.replicate (2 - (lg_sl ([.ref o, .int x])).length) Slot.unset).toArray = ls at hl ⊢
  have hl : lv_has ls 2 [(0, .ref o), (1, .int x)] := hl
  have hM : xMo D cI o bk kp t0 n ch st rg bf kf s.heap := hM
  have hbr : ∀ k, k < ch → bf k = hrk (pm k) n n := hbr
  have hS : va_S (xMA o bk kp sz) s.heap s.heap [] := va_S.rf
  have hle : sz ≤ s.heap.size := Nat.le_of_eq hsz.symm
  refine lv_aload_n hx hb dX4_next_0 rfl (lv_at hl 0 rfl) ?_
  refine xn_iconst (v := 0) hx hb dX4_next_1 (by decide) ?_
  refine x_put (v := .int (nI 0)) (ty := .int) (C := RX4) (T := TX4) (N := 7) hx hb hts (by decide +kernel) tyX4 tyX4_ok nmX4 hown hK hM.1 hS (Or.inl rfl) rfl 0 (by decide) (hts (.fieldLink RX4 20 "BellRanksModel" "thrown" "I") (by decide +kernel)) (fun _ h9 => h9) rfl (by decide +kernel) rfl rfl (Nat.le_of_ble_eq_true rfl) dX4_next_2 (fun H1 locs1 hN hz oq hS => ?_)
  have hM : xMo D cI o bk kp 0 n ch st rg bf kf H1 := ⟨hN, hM.2.1.kept (oq _ (Ne.symm d1)), hM.2.2.kept (oq _ (Ne.symm d2))⟩
  have hle : sz ≤ H1.size := by rw [hz]; exact hle
  refine lv_aload_n hx hb dX4_next_5 rfl (lv_at hl 0 rfl) ?_
  refine lv_iload_n hx hb dX4_next_6 rfl (lv_at hl 1 rfl) ?_
  refine xcV (As := [.int x]) (rest := []) ⟨hx, hb, hml, hown, hts⟩ (cX4_isChange_ l D cI cC o bk kp 0 n ch st rg bf kf (by omega) x) (cwV 1 hts gX4_next_X4_isChange rfl rfl rfl (by decide +kernel) ⟨Nat.le_of_ble_eq_true rfl, Nat.le_of_ble_eq_true rfl⟩) hK hM (xRecv hK rfl hM.1) rfl hl.1 rfl (Nat.le_of_ble_eq_true rfl) dX4_next_7 ⟨(by show 0 ≤ 900; omega), (by show 0 ≤ 7200; omega)⟩ (fun x7 e7 => ?_)
  subst e7
  refine xn_if_ne (tgt := 19) hx hb dX4_next_10 (by decide) (by split <;> decide) (fun c10 => ?_) (fun c10 => ?_)
  · have hi10 := ite_pos1 c10
    obtain ⟨j1, hj1, hj1b, rfl⟩ := inR_of hi10
    have hl : lv_has ls 2 [(0, .ref o), (1, .int (nI j1))] := hl
    have hb1 := hbr j1 hj1
    have hf8 := fac_le n hn8
    have hfp := fac_pos n
    have hmod : (bf j1 + 1) % fac n < fac n := Nat.mod_lt _ hfp
    have hb40 := hbb j1
    refine lv_aload_n hx hb dX4_next_19 rfl (lv_at hl 0 rfl) ?_
    refine x_get (v := .ref bk) (C := RX4) (T := TX4) (N := 7) hx hb hts (by decide +kernel) hown hK hM.1 rfl 3 (by decide) (hts (.fieldLink RX4 13 "BellRanksModel" "book" "[I") (by decide +kernel)) (fun _ h9 => h9) rfl dX4_next_20 ?_
    refine lv_iload_n hx hb dX4_next_23 rfl (lv_at hl 1 rfl) ?_
    refine lv_aload_n hx hb dX4_next_24 rfl (lv_at hl 0 rfl) ?_
    refine x_get (v := .ref bk) (C := RX4) (T := TX4) (N := 7) hx hb hts (by decide +kernel) hown hK hM.1 rfl 3 (by decide) (hts (.fieldLink RX4 13 "BellRanksModel" "book" "[I") (by decide +kernel)) (fun _ h9 => h9) rfl dX4_next_25 ?_
    refine lv_iload_n hx hb dX4_next_28 rfl (lv_at hl 1 rfl) ?_
    refine x_iald hx hb hK hM.2.1 (by omega) (by decide) dX4_next_29 ?_
    refine xn_iconst (v := 1) hx hb dX4_next_30 (by decide) ?_
    refine xn_iadd hx hb dX4_next_31 ?_
    refine lv_aload_n hx hb dX4_next_32 rfl (lv_at hl 0 rfl) ?_
    refine x_get (v := .int (nI n)) (C := RX4) (T := TX4) (N := 7) hx hb hts (by decide +kernel) hown hK hM.1 rfl 1 (by decide) (hts (.fieldLink RX4 7 "BellRanksModel" "bells" "I") (by decide +kernel)) (fun _ h9 => h9) rfl dX4_next_33 ?_
    refine xcS (As := [.int (nI n)]) (rest := [.int (nI (bf j1 + 1)), .int (nI j1), .ref bk]) ⟨hx, hb, hml, hown, hts⟩ (cX4_product_ l D cI cC n (by omega)) (va_cwS 1 hts gX4_next_X4_product rfl rfl rfl (by decide +kernel) ⟨Nat.le_of_ble_eq_true rfl, Nat.le_of_ble_eq_true rfl⟩) hK trivial rfl hl.1 rfl (Nat.le_of_ble_eq_true rfl) dX4_next_36 ⟨(by show 0 ≤ 900; omega), (by show 0 ≤ 7200; omega)⟩ (fun x36 e36 => ?_)
    subst e36
    refine xn_irem hx hb (by omega) (fac_pos _) (by omega) dX4_next_39 ?_
    refine x_iast hx hb hK hM.2.1 hS (Or.inr (Or.inl rfl)) (by omega) (by decide) dX4_next_40 (fun H1 locs1 hN hz oq hS => ?_)
    have hM : xMo D cI o bk kp 0 n ch st rg (va_up bf j1 ((bf j1 + 1) % (fac n))) kf H1 := ⟨hM.1.kept (oq _ d1), hN, hM.2.2.kept (oq _ (Ne.symm d3))⟩
    have hle : sz ≤ H1.size := by rw [hz]; exact hle
    refine lv_aload_n hx hb dX4_next_41 rfl (lv_at hl 0 rfl) ?_
    refine x_get (v := .ref bk) (C := RX4) (T := TX4) (N := 7) hx hb hts (by decide +kernel) hown hK hM.1 rfl 3 (by decide) (hts (.fieldLink RX4 13 "BellRanksModel" "book" "[I") (by decide +kernel)) (fun _ h9 => h9) rfl dX4_next_42 ?_
    refine lv_iload_n hx hb dX4_next_45 rfl (lv_at hl 1 rfl) ?_
    refine x_iald hx hb hK hM.2.1 (by omega) (by decide) dX4_next_46 ?_
    have ht : tIn (n, ch, pm, st, kf, rg) (nI j1) = 0 := if_pos hi10
    have hnx : nxr (n, ch, pm, st, kf, rg) j1 = (bf j1 + 1) % fac n := by show (hrk (pm j1) n n + 1) % fac n = _; rw [hb1]
    have hnw : nNext (n, ch, pm, st, kf, rg) (nI j1) = upP (n, ch, pm, st, kf, rg) j1 (srG (pm j1) n ((bf j1 + 1) % fac n) n) := (if_pos ht).trans (by simp only [xN_nI hj1b, hnx])
    have he := (srG_hrk (f := pm j1) hmod).2
    have hbr2 := up_rk (j := j1) (f := srG (pm j1) n ((bf j1 + 1) % fac n) n) hbr
    rw [he] at hbr2
    refine W.widen (k := 900) (n := 7200) (by omega) (by omega) ?_
    exact x_miret hx hb hr hlocks () (fun _ => by show nI (va_up _ _ _ _) = rNext (n, ch, pm, st, kf, rg) (nI j1); unfold rNext; rw [va_up_self, xN_nI hj1b, hnx]) (by rw [ht, hnw]; exact xMW_mk (S := upP (n, ch, pm, st, kf, rg) j1 (srG (pm j1) n ((bf j1 + 1) % fac n) n)) hM hbr2 (up_bd hbb (by omega))) hS (fun _ h => h) dX4_next_47
  · have hi10 := ite_zero1 c10
    refine lv_aload_n hx hb dX4_next_13 rfl (lv_at hl 0 rfl) ?_
    refine xn_iconst (v := 1) hx hb dX4_next_14 (by decide) ?_
    refine xmI (As := [.int (nI 1)]) (rest := []) ⟨hx, hb, hml, hown, hts⟩ (cX4_no_ l D cI cC o bk kp 0 n ch st rg bf kf d1 d2 d3 1) (cwV 1 hts gX4_next_X4_no rfl rfl rfl (by decide +kernel) ⟨Nat.le_of_ble_eq_true rfl, Nat.le_of_ble_eq_true rfl⟩) hK hM (xRecv hK rfl hM.1) rfl hl.1 rfl (Nat.le_of_ble_eq_true rfl) dX4_next_15 ⟨(by show 0 + 0 ≤ 900; omega), (by show 0 + 0 ≤ 7200; omega)⟩ hS (fun q h => Or.inl h) (fun q h => Or.inl h) (fun x15 u15 H1 locs1 hp15 hF15 hz15 hk15 hS => ?_)
    have hM : xMo D cI o bk kp 1 n ch st rg bf kf H1 := hF15
    have hle : sz ≤ H1.size := Nat.le_trans hle hz15
    subst hp15
    have ht : tIn (n, ch, pm, st, kf, rg) x = 1 := if_neg hi10
    refine W.widen (k := 900) (n := 7200) (by omega) (by omega) ?_
    exact x_miret hx hb hr hlocks () (fun z => absurd (ht.symm.trans z) (by decide)) (by rw [ht, show nNext (n, ch, pm, st, kf, rg) x = (n, ch, pm, st, kf, rg) from if_neg (by rw [ht]; decide)]; exact xMW_mk hM hbr hbb) hS (fun _ h => h) dX4_next_18

set_option maxRecDepth 100000 in
set_option maxHeartbeats 4000000 in
theorem mBehind_ (l : Launch) (D : va_G) (cI cC : ClassId) (o bk kp : Nat) (d1 : o ≠ bk) (d2 : o ≠ kp) (d3 : bk ≠ kp) (t0 : Nat) (S : AS) (hI : AI S) (sz : Nat) (x : Int32) (y : Int32) : Met l yX4_behind wsX4_behind (xRm 20 900 7200) (va_Pc [.ref o, .int x, .int y] (xB D cI cC (fun H => H.size = sz ∧ xMW D cI o bk kp t0 S H))) (xI (fun r (_ : Unit) => tBehind S x y = 0 → r = rBehind S x y) (fun _ H => xMW D cI o bk kp (tBehind S x y) (nBehind S x y) H) (xMA o bk kp sz)) 900 7200 (xMA o bk kp sz) := by
  obtain ⟨n, ch, pm, st, kf, rg⟩ := S
  obtain ⟨⟨hn2, hn8⟩, hch, hst, hpm8, hpm, hkv, hkb⟩ := id hI
  dsimp only at hn2 hn8 hch hst hpm8 hpm hkv hkb
  refine Met.ofW (cc := cX4_behind) (maxL := 3) (ret := (some .int)) (by decide) rfl ?_
  intro p e s m args below meth c s₁ B hml hv
  obtain ⟨rfl, hP, hK⟩ := hv
  have hx := B.exec
  have hb := B.bytes
  have hr := B.returns
  have hts := atoms_spec (ws := wsX4_behind) B.pre
  have hown : s.vm.findClass RX4 = some m.cls := findClass_of_methodNamed B.named
  have hlocks := B.notSynchronized
  obtain ⟨hsz, bf, hM, hbr, hbb⟩ := hP
  have hl := lv_entry ([.ref o, .int x, .int y]) (n := 3) (Nat.le_of_ble_eq_true rfl)
  rw [lg_entry_eq]
  generalize (lg_sl ([.ref o, .int x, .int y]) ++ List.replicate (3 - (lg_sl ([.ref o, .int x, .int y])).length) Slot.unset).toArray = ls at hl ⊢
  have hl : lv_has ls 3 [(0, .ref o), (1, .int x), (2, .int y)] := hl
  have hM : xMo D cI o bk kp t0 n ch st rg bf kf s.heap := hM
  have hbr : ∀ k, k < ch → bf k = hrk (pm k) n n := hbr
  have hS : va_S (xMA o bk kp sz) s.heap s.heap [] := va_S.rf
  have hle : sz ≤ s.heap.size := Nat.le_of_eq hsz.symm
  refine lv_aload_n hx hb dX4_behind_0 rfl (lv_at hl 0 rfl) ?_
  refine xn_iconst (v := 0) hx hb dX4_behind_1 (by decide) ?_
  refine x_put (v := .int (nI 0)) (ty := .int) (C := RX4) (T := TX4) (N := 7) hx hb hts (by decide +kernel) tyX4 tyX4_ok nmX4 hown hK hM.1 hS (Or.inl rfl) rfl 0 (by decide) (hts (.fieldLink RX4 20 "BellRanksModel" "thrown" "I") (by decide +kernel)) (fun _ h9 => h9) rfl (by decide +kernel) rfl rfl (Nat.le_of_ble_eq_true rfl) dX4_behind_2 (fun H1 locs1 hN hz oq hS => ?_)
  have hM : xMo D cI o bk kp 0 n ch st rg bf kf H1 := ⟨hN, hM.2.1.kept (oq _ (Ne.symm d1)), hM.2.2.kept (oq _ (Ne.symm d2))⟩
  have hle : sz ≤ H1.size := by rw [hz]; exact hle
  refine lv_aload_n hx hb dX4_behind_5 rfl (lv_at hl 0 rfl) ?_
  refine lv_iload_n hx hb dX4_behind_6 rfl (lv_at hl 1 rfl) ?_
  refine xcV (As := [.int x]) (rest := []) ⟨hx, hb, hml, hown, hts⟩ (cX4_isChange_ l D cI cC o bk kp 0 n ch st rg bf kf (by omega) x) (cwV 1 hts gX4_behind_X4_isChange rfl rfl rfl (by decide +kernel) ⟨Nat.le_of_ble_eq_true rfl, Nat.le_of_ble_eq_true rfl⟩) hK hM (xRecv hK rfl hM.1) rfl hl.1 rfl (Nat.le_of_ble_eq_true rfl) dX4_behind_7 ⟨(by show 0 ≤ 900; omega), (by show 0 ≤ 7200; omega)⟩ (fun x7 e7 => ?_)
  subst e7
  refine xn_if_eq (tgt := 21) hx hb dX4_behind_10 (by decide) (by split <;> decide) (fun c10 => ?_) (fun c10 => ?_)
  · have hi10 := ite_zero1 c10
    refine lv_aload_n hx hb dX4_behind_21 rfl (lv_at hl 0 rfl) ?_
    refine xn_iconst (v := 1) hx hb dX4_behind_22 (by decide) ?_
    refine xmI (As := [.int (nI 1)]) (rest := []) ⟨hx, hb, hml, hown, hts⟩ (cX4_no_ l D cI cC o bk kp 0 n ch st rg bf kf d1 d2 d3 1) (cwV 1 hts gX4_behind_X4_no rfl rfl rfl (by decide +kernel) ⟨Nat.le_of_ble_eq_true rfl, Nat.le_of_ble_eq_true rfl⟩) hK hM (xRecv hK rfl hM.1) rfl hl.1 rfl (Nat.le_of_ble_eq_true rfl) dX4_behind_23 ⟨(by show 0 + 0 ≤ 900; omega), (by show 0 + 0 ≤ 7200; omega)⟩ hS (fun q h => Or.inl h) (fun q h => Or.inl h) (fun x23 u23 H1 locs1 hp23 hF23 hz23 hk23 hS => ?_)
    have hM : xMo D cI o bk kp 1 n ch st rg bf kf H1 := hF23
    have hle : sz ≤ H1.size := Nat.le_trans hle hz23
    subst hp23
    have ht : tBehind (n, ch, pm, st, kf, rg) x y = 1 := (show (if inR x ch ∧ inR y ch then (if ch = 16 then 2 else 0) else 1) = 1 by rw [if_neg (fun z => hi10 z.1)])
    refine W.widen (k := 900) (n := 7200) (by omega) (by omega) ?_
    exact x_miret hx hb hr hlocks () (fun z => absurd (ht.symm.trans z) (by decide)) (by rw [ht, show nBehind (n, ch, pm, st, kf, rg) x y = (n, ch, pm, st, kf, rg) from if_neg (by rw [ht]; decide)]; exact xMW_mk hM hbr hbb) hS (fun _ h => h) dX4_behind_26
  · have hi10 := ite_pos1 c10
    refine lv_aload_n hx hb dX4_behind_13 rfl (lv_at hl 0 rfl) ?_
    refine lv_iload_n hx hb dX4_behind_14 rfl (lv_at hl 2 rfl) ?_
    refine xcV (As := [.int y]) (rest := []) ⟨hx, hb, hml, hown, hts⟩ (cX4_isChange_ l D cI cC o bk kp 0 n ch st rg bf kf (by omega) y) (cwV 1 hts gX4_behind_X4_isChange rfl rfl rfl (by decide +kernel) ⟨Nat.le_of_ble_eq_true rfl, Nat.le_of_ble_eq_true rfl⟩) hK hM (xRecv hK rfl hM.1) rfl hl.1 rfl (Nat.le_of_ble_eq_true rfl) dX4_behind_15 ⟨(by show 0 ≤ 900; omega), (by show 0 ≤ 7200; omega)⟩ (fun x15 e15 => ?_)
    subst e15
    refine xn_if_ne (tgt := 27) hx hb dX4_behind_18 (by decide) (by split <;> decide) (fun c18 => ?_) (fun c18 => ?_)
    · have hi18 := ite_pos1 c18
      obtain ⟨j1, hj1, hj1b, rfl⟩ := inR_of hi10
      have hl : lv_has ls 3 [(0, .ref o), (1, .int (nI j1)), (2, .int y)] := hl
      obtain ⟨j2, hj2, hj2b, rfl⟩ := inR_of hi18
      have hl : lv_has ls 3 [(0, .ref o), (1, .int (nI j1)), (2, .int (nI j2))] := hl
      refine lv_aload_n hx hb dX4_behind_27 rfl (lv_at hl 0 rfl) ?_
      refine x_get (v := .int (nI ch)) (C := RX4) (T := TX4) (N := 7) hx hb hts (by decide +kernel) hown hK hM.1 rfl 2 (by decide) (hts (.fieldLink RX4 23 "BellRanksModel" "changes" "I") (by decide +kernel)) (fun _ h9 => h9) rfl dX4_behind_28 ?_
      refine xn_bipush (v := 16) hx hb dX4_behind_31 (by decide) ?_
      refine xn_icmp_ne (tgt := 44) hx hb dX4_behind_33 (by decide) (by omega) (by decide) (fun c33 => ?_) (fun c33 => ?_)
      · refine lv_aload_n hx hb dX4_behind_44 rfl (lv_at hl 0 rfl) ?_
        refine lv_aload_n hx hb dX4_behind_45 rfl (lv_at hl 0 rfl) ?_
        refine lv_aload_n hx hb dX4_behind_46 rfl (lv_at hl 0 rfl) ?_
        refine lv_aload_n hx hb dX4_behind_47 rfl (lv_at hl 0 rfl) ?_
        refine lv_aload_n hx hb dX4_behind_48 rfl (lv_at hl 0 rfl) ?_
        refine x_get (v := .ref bk) (C := RX4) (T := TX4) (N := 7) hx hb hts (by decide +kernel) hown hK hM.1 rfl 3 (by decide) (hts (.fieldLink RX4 13 "BellRanksModel" "book" "[I") (by decide +kernel)) (fun _ h9 => h9) rfl dX4_behind_49 ?_
        refine lv_iload_n hx hb dX4_behind_52 rfl (lv_at hl 1 rfl) ?_
        refine x_iald hx hb hK hM.2.1 (by omega) (by decide) dX4_behind_53 ?_
        refine xmR (As := [.int (nI (bf j1))]) (rest := [.ref o, .ref o, .ref o]) ⟨hx, hb, hml, hown, hts⟩ (cX4_row_ l D cI cC o bk kp 0 n ch st rg bf kf _ (by omega) (pm j1) (hpm j1 hj1) (bf j1) (hbr j1 hj1)) (cwV 1 hts gX4_behind_X4_row rfl rfl rfl (by decide +kernel) ⟨Nat.le_of_ble_eq_true rfl, Nat.le_of_ble_eq_true rfl⟩) hK ⟨rfl, hM⟩ (xRecv hK rfl hM.1) rfl hl.1 rfl (Nat.le_of_ble_eq_true rfl) dX4_behind_54 ⟨(by show 0 + 1 ≤ 900; omega), (by show 0 + 8 ≤ 7200; omega)⟩ hS (fun q h => Or.inr (Or.inr (Or.inr (Nat.le_trans hle h)))) (fun q h => Or.inr (Or.inr (Or.inr (Nat.le_trans hle h)))) (fun u54 x54 H1 locs1 hp54 hF54 hz54 hk54 hS => ?_)
        obtain ⟨hq54, hR54⟩ := hF54
        have hno54 : o ≠ x54 := Nat.ne_of_lt (Nat.lt_of_lt_of_le hM.1.lt hq54)
        have hnb54 : bk ≠ x54 := Nat.ne_of_lt (Nat.lt_of_lt_of_le hM.2.1.lt hq54)
        have hnk54 : kp ≠ x54 := Nat.ne_of_lt (Nat.lt_of_lt_of_le hM.2.2.lt hq54)
        have hsx54 : sz ≤ x54 := Nat.le_trans hle hq54
        have hM := xMo_old hM (xk_old hk54)
        have hle : sz ≤ H1.size := Nat.le_trans hle hz54
        refine lv_aload_n hx hb dX4_behind_57 rfl (lv_at hl 0 rfl) ?_
        refine lv_aload_n hx hb dX4_behind_58 rfl (lv_at hl 0 rfl) ?_
        refine x_get (v := .ref bk) (C := RX4) (T := TX4) (N := 7) hx hb hts (by decide +kernel) hown hK hM.1 rfl 3 (by decide) (hts (.fieldLink RX4 13 "BellRanksModel" "book" "[I") (by decide +kernel)) (fun _ h9 => h9) rfl dX4_behind_59 ?_
        refine lv_iload_n hx hb dX4_behind_62 rfl (lv_at hl 2 rfl) ?_
        refine x_iald hx hb hK hM.2.1 (by omega) (by decide) dX4_behind_63 ?_
        refine xmR (As := [.int (nI (bf j2))]) (rest := [.ref x54, .ref o, .ref o, .ref o]) ⟨hx, hb, hml, hown, hts⟩ (cX4_row_ l D cI cC o bk kp 0 n ch st rg bf kf _ (by omega) (pm j2) (hpm j2 hj2) (bf j2) (hbr j2 hj2)) (cwV 1 hts gX4_behind_X4_row rfl rfl rfl (by decide +kernel) ⟨Nat.le_of_ble_eq_true rfl, Nat.le_of_ble_eq_true rfl⟩) hK ⟨rfl, hM⟩ (xRecv hK rfl hM.1) rfl hl.1 rfl (Nat.le_of_ble_eq_true rfl) dX4_behind_64 ⟨(by show 0 + 1 + 1 ≤ 900; omega), (by show 0 + 8 + 8 ≤ 7200; omega)⟩ hS (fun q h => Or.inr (Or.inr (Or.inr (Nat.le_trans hle h)))) (fun q h => Or.inr (Or.inr (Or.inr (Nat.le_trans hle h)))) (fun u64 x64 H1 locs1 hp64 hF64 hz64 hk64 hS => ?_)
        obtain ⟨hq64, hR64⟩ := hF64
        have hno64 : o ≠ x64 := Nat.ne_of_lt (Nat.lt_of_lt_of_le hM.1.lt hq64)
        have hnb64 : bk ≠ x64 := Nat.ne_of_lt (Nat.lt_of_lt_of_le hM.2.1.lt hq64)
        have hnk64 : kp ≠ x64 := Nat.ne_of_lt (Nat.lt_of_lt_of_le hM.2.2.lt hq64)
        have hnhR54hR64 : x54 ≠ x64 := Nat.ne_of_lt (Nat.lt_of_lt_of_le (va_at.lt hR54) hq64)
        have hsx64 : sz ≤ x64 := Nat.le_trans hle hq64
        have hM := xMo_old hM (xk_old hk64)
        have hR54 : xRow D cI x54 n (pm j1) H1 := xat_old hR54 (xk_old hk64)
        have hle : sz ≤ H1.size := Nat.le_trans hle hz64
        refine xmR (As := [.ref x54, .ref x64]) (rest := [.ref o, .ref o]) ⟨hx, hb, hml, hown, hts⟩ (cX4_behindRow_ l D cI cC o bk kp 0 n ch st rg bf kf _ (by omega) x54 x64 (pm j1) (pm j2) (prm_lt (hpm j2 hj2))) (cwV 2 hts gX4_behind_X4_behindRow rfl rfl rfl (by decide +kernel) ⟨Nat.le_of_ble_eq_true rfl, Nat.le_of_ble_eq_true rfl⟩) hK ⟨rfl, hM, hR54, hR64⟩ (xRecv hK rfl hM.1) rfl hl.1 rfl (Nat.le_of_ble_eq_true rfl) dX4_behind_67 ⟨(by show 0 + 1 + 1 + 1 ≤ 900; omega), (by show 0 + 8 + 8 + 8 ≤ 7200; omega)⟩ hS (fun q h => Or.inr (Or.inr (Or.inr (Nat.le_trans hle h)))) (fun q h => Or.inr (Or.inr (Or.inr (Nat.le_trans hle h)))) (fun u67 x67 H1 locs1 hp67 hF67 hz67 hk67 hS => ?_)
        obtain ⟨hq67, hR67⟩ := hF67
        have hno67 : o ≠ x67 := Nat.ne_of_lt (Nat.lt_of_lt_of_le hM.1.lt hq67)
        have hnb67 : bk ≠ x67 := Nat.ne_of_lt (Nat.lt_of_lt_of_le hM.2.1.lt hq67)
        have hnk67 : kp ≠ x67 := Nat.ne_of_lt (Nat.lt_of_lt_of_le hM.2.2.lt hq67)
        have hnhR54hR67 : x54 ≠ x67 := Nat.ne_of_lt (Nat.lt_of_lt_of_le (va_at.lt hR54) hq67)
        have hnhR64hR67 : x64 ≠ x67 := Nat.ne_of_lt (Nat.lt_of_lt_of_le (va_at.lt hR64) hq67)
        have hsx67 : sz ≤ x67 := Nat.le_trans hle hq67
        have hM := xMo_old hM (xk_old hk67)
        have hR54 : xRow D cI x54 n (pm j1) H1 := xat_old hR54 (xk_old hk67)
        have hR64 : xRow D cI x64 n (pm j2) H1 := xat_old hR64 (xk_old hk67)
        have hle : sz ≤ H1.size := Nat.le_trans hle hz67
        refine xcV (As := [.ref x67]) (rest := [.ref o]) ⟨hx, hb, hml, hown, hts⟩ (cX4_rank_ l D cI cC o bk kp 0 n ch st rg bf kf x67 (fun x9 => pm j1 (pm j2 x9)) (by omega) (prm_100 ((hpm j1 hj1).comp (hpm j2 hj2)) hn8)) (cwV 1 hts gX4_behind_X4_rank rfl rfl rfl (by decide +kernel) ⟨Nat.le_of_ble_eq_true rfl, Nat.le_of_ble_eq_true rfl⟩) hK ⟨hM, hR67⟩ (xRecv hK rfl hM.1) rfl hl.1 rfl (Nat.le_of_ble_eq_true rfl) dX4_behind_70 ⟨(by show 0 + 1 + 1 + 1 ≤ 900; omega), (by show 0 + 8 + 8 + 8 ≤ 7200; omega)⟩ (fun x70 e70 => ?_)
        subst e70
        refine xmI (As := [.int (nI (hrk (fun x9 => pm j1 (pm j2 x9)) n n))]) (rest := []) ⟨hx, hb, hml, hown, hts⟩ (cX4_add_ l D cI cC o bk kp 0 n ch st rg bf kf d1 d2 d3 (by omega) (hrk (fun x9 => pm j1 (pm j2 x9)) n n)) (cwV 1 hts gX4_behind_X4_add rfl rfl rfl (by decide +kernel) ⟨Nat.le_of_ble_eq_true rfl, Nat.le_of_ble_eq_true rfl⟩) hK hM (xRecv hK rfl hM.1) rfl hl.1 rfl (Nat.le_of_ble_eq_true rfl) dX4_behind_73 ⟨(by show 0 + 1 + 1 + 1 + 0 ≤ 900; omega), (by show 0 + 8 + 8 + 8 + 0 ≤ 7200; omega)⟩ hS (fun q h => h.elim Or.inl (fun h => Or.inr (Or.inl h))) (fun q h => h.elim Or.inl (fun h => Or.inr (Or.inl h))) (fun x73 u73 H1 locs1 hp73 hF73 hz73 hk73 hS => ?_)
        have hM : xMo D cI o bk kp 0 n (ch + 1) st rg (va_up bf ch (hrk (fun x9 => pm j1 (pm j2 x9)) n n)) kf H1 := hF73
        have hle : sz ≤ H1.size := Nat.le_trans hle hz73
        subst hp73
        have ht : tBehind (n, ch, pm, st, kf, rg) (nI j1) (nI j2) = 0 := (show (if inR (nI j1) ch ∧ inR (nI j2) ch then (if ch = 16 then 2 else 0) else 1) = 0 by rw [if_pos ⟨hi10, hi18⟩, if_neg c33])
        have hnw : nBehind (n, ch, pm, st, kf, rg) (nI j1) (nI j2) = adP (n, ch, pm, st, kf, rg) (cpy (pm ch) (fun x9 => pm j1 (pm j2 x9)) n) := (if_pos ht).trans (by simp only [xN_nI hj1b, xN_nI hj2b]; rfl)
        have he : hrk (cpy (pm ch) (fun x9 => pm j1 (pm j2 x9)) n) n n = hrk (fun x9 => pm j1 (pm j2 x9)) n n := hrk_congr (fun i hi => cpy_lt hi) n (Nat.le_refl _)
        have hbr2 := ad_rk (f := cpy (pm ch) (fun x9 => pm j1 (pm j2 x9)) n) hbr
        rw [he] at hbr2
        refine W.widen (k := 900) (n := 7200) (by omega) (by omega) ?_
        exact x_miret hx hb hr hlocks () (fun _ => rfl) (by rw [ht, hnw]; exact xMW_mk (S := adP (n, ch, pm, st, kf, rg) (cpy (pm ch) (fun x9 => pm j1 (pm j2 x9)) n)) hM hbr2 (up_bd hbb (hrk_bd hn8))) hS (fun _ h => h) dX4_behind_76
      · refine lv_aload_n hx hb dX4_behind_36 rfl (lv_at hl 0 rfl) ?_
        refine xn_iconst (v := 2) hx hb dX4_behind_37 (by decide) ?_
        refine xmI (As := [.int (nI 2)]) (rest := []) ⟨hx, hb, hml, hown, hts⟩ (cX4_no_ l D cI cC o bk kp 0 n ch st rg bf kf d1 d2 d3 2) (cwV 1 hts gX4_behind_X4_no rfl rfl rfl (by decide +kernel) ⟨Nat.le_of_ble_eq_true rfl, Nat.le_of_ble_eq_true rfl⟩) hK hM (xRecv hK rfl hM.1) rfl hl.1 rfl (Nat.le_of_ble_eq_true rfl) dX4_behind_38 ⟨(by show 0 + 0 ≤ 900; omega), (by show 0 + 0 ≤ 7200; omega)⟩ hS (fun q h => Or.inl h) (fun q h => Or.inl h) (fun x38 u38 H1 locs1 hp38 hF38 hz38 hk38 hS => ?_)
        have hM : xMo D cI o bk kp 2 n ch st rg bf kf H1 := hF38
        have hle : sz ≤ H1.size := Nat.le_trans hle hz38
        subst hp38
        refine lv_goto (tgt := 76) hx hb dX4_behind_41 (by decide) ?_
        have ht : tBehind (n, ch, pm, st, kf, rg) (nI j1) (nI j2) = 2 := (show (if inR (nI j1) ch ∧ inR (nI j2) ch then (if ch = 16 then 2 else 0) else 1) = 2 by rw [if_pos ⟨hi10, hi18⟩, if_pos c33])
        refine W.widen (k := 900) (n := 7200) (by omega) (by omega) ?_
        exact x_miret hx hb hr hlocks () (fun z => absurd (ht.symm.trans z) (by decide)) (by rw [ht, show nBehind (n, ch, pm, st, kf, rg) (nI j1) (nI j2) = (n, ch, pm, st, kf, rg) from if_neg (by rw [ht]; decide)]; exact xMW_mk hM hbr hbb) hS (fun _ h => h) dX4_behind_76
    · have hi18 := ite_zero1 c18
      refine lv_aload_n hx hb dX4_behind_21 rfl (lv_at hl 0 rfl) ?_
      refine xn_iconst (v := 1) hx hb dX4_behind_22 (by decide) ?_
      refine xmI (As := [.int (nI 1)]) (rest := []) ⟨hx, hb, hml, hown, hts⟩ (cX4_no_ l D cI cC o bk kp 0 n ch st rg bf kf d1 d2 d3 1) (cwV 1 hts gX4_behind_X4_no rfl rfl rfl (by decide +kernel) ⟨Nat.le_of_ble_eq_true rfl, Nat.le_of_ble_eq_true rfl⟩) hK hM (xRecv hK rfl hM.1) rfl hl.1 rfl (Nat.le_of_ble_eq_true rfl) dX4_behind_23 ⟨(by show 0 + 0 ≤ 900; omega), (by show 0 + 0 ≤ 7200; omega)⟩ hS (fun q h => Or.inl h) (fun q h => Or.inl h) (fun x23 u23 H1 locs1 hp23 hF23 hz23 hk23 hS => ?_)
      have hM : xMo D cI o bk kp 1 n ch st rg bf kf H1 := hF23
      have hle : sz ≤ H1.size := Nat.le_trans hle hz23
      subst hp23
      have ht : tBehind (n, ch, pm, st, kf, rg) x y = 1 := (show (if inR x ch ∧ inR y ch then (if ch = 16 then 2 else 0) else 1) = 1 by rw [if_neg (fun z => hi18 z.2)])
      refine W.widen (k := 900) (n := 7200) (by omega) (by omega) ?_
      exact x_miret hx hb hr hlocks () (fun z => absurd (ht.symm.trans z) (by decide)) (by rw [ht, show nBehind (n, ch, pm, st, kf, rg) x y = (n, ch, pm, st, kf, rg) from if_neg (by rw [ht]; decide)]; exact xMW_mk hM hbr hbb) hS (fun _ h => h) dX4_behind_26

set_option maxRecDepth 100000 in
set_option maxHeartbeats 4000000 in
theorem mBack_ (l : Launch) (D : va_G) (cI cC : ClassId) (o bk kp : Nat) (d1 : o ≠ bk) (d2 : o ≠ kp) (d3 : bk ≠ kp) (t0 : Nat) (S : AS) (hI : AI S) (sz : Nat) (x : Int32) : Met l yX4_back wsX4_back (xRm 20 900 7200) (va_Pc [.ref o, .int x] (xB D cI cC (fun H => H.size = sz ∧ xMW D cI o bk kp t0 S H))) (xI (fun r (_ : Unit) => tIn S x = 0 → r = rBack S x) (fun _ H => xMW D cI o bk kp (tIn S x) (nBack S x) H) (xMA o bk kp sz)) 900 7200 (xMA o bk kp sz) := by
  obtain ⟨n, ch, pm, st, kf, rg⟩ := S
  obtain ⟨⟨hn2, hn8⟩, hch, hst, hpm8, hpm, hkv, hkb⟩ := id hI
  dsimp only at hn2 hn8 hch hst hpm8 hpm hkv hkb
  refine Met.ofW (cc := cX4_back) (maxL := 2) (ret := (some .int)) (by decide) rfl ?_
  intro p e s m args below meth c s₁ B hml hv
  obtain ⟨rfl, hP, hK⟩ := hv
  have hx := B.exec
  have hb := B.bytes
  have hr := B.returns
  have hts := atoms_spec (ws := wsX4_back) B.pre
  have hown : s.vm.findClass RX4 = some m.cls := findClass_of_methodNamed B.named
  have hlocks := B.notSynchronized
  obtain ⟨hsz, bf, hM, hbr, hbb⟩ := hP
  have hl := lv_entry ([.ref o, .int x]) (n := 2) (Nat.le_of_ble_eq_true rfl)
  rw [lg_entry_eq]
  generalize (lg_sl ([.ref o, .int x]) ++ List.replicate (2 - (lg_sl ([.ref o, .int x])).length) Slot.unset).toArray = ls at hl ⊢
  have hl : lv_has ls 2 [(0, .ref o), (1, .int x)] := hl
  have hM : xMo D cI o bk kp t0 n ch st rg bf kf s.heap := hM
  have hbr : ∀ k, k < ch → bf k = hrk (pm k) n n := hbr
  have hS : va_S (xMA o bk kp sz) s.heap s.heap [] := va_S.rf
  have hle : sz ≤ s.heap.size := Nat.le_of_eq hsz.symm
  refine lv_aload_n hx hb dX4_back_0 rfl (lv_at hl 0 rfl) ?_
  refine xn_iconst (v := 0) hx hb dX4_back_1 (by decide) ?_
  refine x_put (v := .int (nI 0)) (ty := .int) (C := RX4) (T := TX4) (N := 7) hx hb hts (by decide +kernel) tyX4 tyX4_ok nmX4 hown hK hM.1 hS (Or.inl rfl) rfl 0 (by decide) (hts (.fieldLink RX4 20 "BellRanksModel" "thrown" "I") (by decide +kernel)) (fun _ h9 => h9) rfl (by decide +kernel) rfl rfl (Nat.le_of_ble_eq_true rfl) dX4_back_2 (fun H1 locs1 hN hz oq hS => ?_)
  have hM : xMo D cI o bk kp 0 n ch st rg bf kf H1 := ⟨hN, hM.2.1.kept (oq _ (Ne.symm d1)), hM.2.2.kept (oq _ (Ne.symm d2))⟩
  have hle : sz ≤ H1.size := by rw [hz]; exact hle
  refine lv_aload_n hx hb dX4_back_5 rfl (lv_at hl 0 rfl) ?_
  refine lv_iload_n hx hb dX4_back_6 rfl (lv_at hl 1 rfl) ?_
  refine xcV (As := [.int x]) (rest := []) ⟨hx, hb, hml, hown, hts⟩ (cX4_isChange_ l D cI cC o bk kp 0 n ch st rg bf kf (by omega) x) (cwV 1 hts gX4_back_X4_isChange rfl rfl rfl (by decide +kernel) ⟨Nat.le_of_ble_eq_true rfl, Nat.le_of_ble_eq_true rfl⟩) hK hM (xRecv hK rfl hM.1) rfl hl.1 rfl (Nat.le_of_ble_eq_true rfl) dX4_back_7 ⟨(by show 0 ≤ 900; omega), (by show 0 ≤ 7200; omega)⟩ (fun x7 e7 => ?_)
  subst e7
  refine xn_if_eq (tgt := 35) hx hb dX4_back_10 (by decide) (by split <;> decide) (fun c10 => ?_) (fun c10 => ?_)
  · have hi10 := ite_zero1 c10
    refine lv_aload_n hx hb dX4_back_35 rfl (lv_at hl 0 rfl) ?_
    refine xn_iconst (v := 1) hx hb dX4_back_36 (by decide) ?_
    refine xmI (As := [.int (nI 1)]) (rest := []) ⟨hx, hb, hml, hown, hts⟩ (cX4_no_ l D cI cC o bk kp 0 n ch st rg bf kf d1 d2 d3 1) (cwV 1 hts gX4_back_X4_no rfl rfl rfl (by decide +kernel) ⟨Nat.le_of_ble_eq_true rfl, Nat.le_of_ble_eq_true rfl⟩) hK hM (xRecv hK rfl hM.1) rfl hl.1 rfl (Nat.le_of_ble_eq_true rfl) dX4_back_37 ⟨(by show 0 + 0 ≤ 900; omega), (by show 0 + 0 ≤ 7200; omega)⟩ hS (fun q h => Or.inl h) (fun q h => Or.inl h) (fun x37 u37 H1 locs1 hp37 hF37 hz37 hk37 hS => ?_)
    have hM : xMo D cI o bk kp 1 n ch st rg bf kf H1 := hF37
    have hle : sz ≤ H1.size := Nat.le_trans hle hz37
    subst hp37
    have ht : tIn (n, ch, pm, st, kf, rg) x = 1 := if_neg hi10
    refine W.widen (k := 900) (n := 7200) (by omega) (by omega) ?_
    exact x_miret hx hb hr hlocks () (fun z => absurd (ht.symm.trans z) (by decide)) (by rw [ht, show nBack (n, ch, pm, st, kf, rg) x = (n, ch, pm, st, kf, rg) from if_neg (by rw [ht]; decide)]; exact xMW_mk hM hbr hbb) hS (fun _ h => h) dX4_back_40
  · have hi10 := ite_pos1 c10
    obtain ⟨j1, hj1, hj1b, rfl⟩ := inR_of hi10
    have hl : lv_has ls 2 [(0, .ref o), (1, .int (nI j1))] := hl
    refine lv_aload_n hx hb dX4_back_13 rfl (lv_at hl 0 rfl) ?_
    refine lv_iload_n hx hb dX4_back_14 rfl (lv_at hl 1 rfl) ?_
    refine lv_aload_n hx hb dX4_back_15 rfl (lv_at hl 0 rfl) ?_
    refine lv_aload_n hx hb dX4_back_16 rfl (lv_at hl 0 rfl) ?_
    refine lv_aload_n hx hb dX4_back_17 rfl (lv_at hl 0 rfl) ?_
    refine x_get (v := .ref bk) (C := RX4) (T := TX4) (N := 7) hx hb hts (by decide +kernel) hown hK hM.1 rfl 3 (by decide) (hts (.fieldLink RX4 13 "BellRanksModel" "book" "[I") (by decide +kernel)) (fun _ h9 => h9) rfl dX4_back_18 ?_
    refine lv_iload_n hx hb dX4_back_21 rfl (lv_at hl 1 rfl) ?_
    refine x_iald hx hb hK hM.2.1 (by omega) (by decide) dX4_back_22 ?_
    refine xmR (As := [.int (nI (bf j1))]) (rest := [.ref o, .int (nI j1), .ref o]) ⟨hx, hb, hml, hown, hts⟩ (cX4_row_ l D cI cC o bk kp 0 n ch st rg bf kf _ (by omega) (pm j1) (hpm j1 hj1) (bf j1) (hbr j1 hj1)) (cwV 1 hts gX4_back_X4_row rfl rfl rfl (by decide +kernel) ⟨Nat.le_of_ble_eq_true rfl, Nat.le_of_ble_eq_true rfl⟩) hK ⟨rfl, hM⟩ (xRecv hK rfl hM.1) rfl hl.1 rfl (Nat.le_of_ble_eq_true rfl) dX4_back_23 ⟨(by show 0 + 1 ≤ 900; omega), (by show 0 + 8 ≤ 7200; omega)⟩ hS (fun q h => Or.inr (Or.inr (Or.inr (Nat.le_trans hle h)))) (fun q h => Or.inr (Or.inr (Or.inr (Nat.le_trans hle h)))) (fun u23 x23 H1 locs1 hp23 hF23 hz23 hk23 hS => ?_)
    obtain ⟨hq23, hR23⟩ := hF23
    have hno23 : o ≠ x23 := Nat.ne_of_lt (Nat.lt_of_lt_of_le hM.1.lt hq23)
    have hnb23 : bk ≠ x23 := Nat.ne_of_lt (Nat.lt_of_lt_of_le hM.2.1.lt hq23)
    have hnk23 : kp ≠ x23 := Nat.ne_of_lt (Nat.lt_of_lt_of_le hM.2.2.lt hq23)
    have hsx23 : sz ≤ x23 := Nat.le_trans hle hq23
    have hM := xMo_old hM (xk_old hk23)
    have hle : sz ≤ H1.size := Nat.le_trans hle hz23
    refine xmR (As := [.ref x23]) (rest := [.int (nI j1), .ref o]) ⟨hx, hb, hml, hown, hts⟩ (cX4_backRow_ l D cI cC o bk kp 0 n ch st rg bf kf _ (by omega) x23 (pm j1) (prm_lt (hpm j1 hj1))) (cwV 1 hts gX4_back_X4_backRow rfl rfl rfl (by decide +kernel) ⟨Nat.le_of_ble_eq_true rfl, Nat.le_of_ble_eq_true rfl⟩) hK ⟨rfl, hM, hR23⟩ (xRecv hK rfl hM.1) rfl hl.1 rfl (Nat.le_of_ble_eq_true rfl) dX4_back_26 ⟨(by show 0 + 1 + 1 ≤ 900; omega), (by show 0 + 8 + 8 ≤ 7200; omega)⟩ hS (fun q h => Or.inr (Or.inr (Or.inr (Nat.le_trans hle h)))) (fun q h => Or.inr (Or.inr (Or.inr (Nat.le_trans hle h)))) (fun u26 x26 H1 locs1 hp26 hF26 hz26 hk26 hS => ?_)
    obtain ⟨hq26, hR26⟩ := hF26
    have hno26 : o ≠ x26 := Nat.ne_of_lt (Nat.lt_of_lt_of_le hM.1.lt hq26)
    have hnb26 : bk ≠ x26 := Nat.ne_of_lt (Nat.lt_of_lt_of_le hM.2.1.lt hq26)
    have hnk26 : kp ≠ x26 := Nat.ne_of_lt (Nat.lt_of_lt_of_le hM.2.2.lt hq26)
    have hnhR23hR26 : x23 ≠ x26 := Nat.ne_of_lt (Nat.lt_of_lt_of_le (va_at.lt hR23) hq26)
    have hsx26 : sz ≤ x26 := Nat.le_trans hle hq26
    have hM := xMo_old hM (xk_old hk26)
    have hR23 : xRow D cI x23 n (pm j1) H1 := xat_old hR23 (xk_old hk26)
    have hle : sz ≤ H1.size := Nat.le_trans hle hz26
    refine xmI (As := [.int (nI j1), .ref x26]) (rest := []) ⟨hx, hb, hml, hown, hts⟩ (cX4_become_ l D cI cC o bk kp 0 n ch st rg bf kf d1 d2 d3 x26 (bck (fun _ => 0) (pm j1) n) (Ne.symm hnb26) (by omega) (prm_100 (Prm.bck (hpm j1 hj1)) hn8) j1 (by omega)) (cwV 2 hts gX4_back_X4_become rfl rfl rfl (by decide +kernel) ⟨Nat.le_of_ble_eq_true rfl, Nat.le_of_ble_eq_true rfl⟩) hK ⟨hM, hR26⟩ (xRecv hK rfl hM.1) rfl hl.1 rfl (Nat.le_of_ble_eq_true rfl) dX4_back_29 ⟨(by show 0 + 1 + 1 + 0 ≤ 900; omega), (by show 0 + 8 + 8 + 0 ≤ 7200; omega)⟩ hS (fun q h => Or.inr (Or.inl h)) (fun q h => Or.inr (Or.inl h)) (fun x29 u29 H1 locs1 hp29 hF29 hz29 hk29 hS => ?_)
    have hM : xMo D cI o bk kp 0 n ch st rg (va_up bf j1 (hrk (bck (fun _ => 0) (pm j1) n) n n)) kf H1 := hF29
    have hle : sz ≤ H1.size := Nat.le_trans hle hz29
    subst hp29
    refine lv_goto (tgt := 40) hx hb dX4_back_32 (by decide) ?_
    have ht : tIn (n, ch, pm, st, kf, rg) (nI j1) = 0 := if_pos hi10
    have hnw : nBack (n, ch, pm, st, kf, rg) (nI j1) = upP (n, ch, pm, st, kf, rg) j1 (bkF (n, ch, pm, st, kf, rg) j1) := (if_pos ht).trans (by simp only [xN_nI hj1b])
    have he : hrk (bck (fun _ => 0) (pm j1) n) n n = hrk (bkF (n, ch, pm, st, kf, rg) j1) n n := (hrk_congr (fun i hi => (cpy_lt hi).symm) n (Nat.le_refl _))
    rw [he] at hM
    refine W.widen (k := 900) (n := 7200) (by omega) (by omega) ?_
    exact x_miret hx hb hr hlocks () (fun _ => by show nI _ = rBack (n, ch, pm, st, kf, rg) (nI j1); unfold rBack; simp only [xN_nI hj1b]; rw [he]) (by rw [ht, hnw]; exact xMW_mk (S := upP (n, ch, pm, st, kf, rg) j1 (bkF (n, ch, pm, st, kf, rg) j1)) hM (up_rk hbr) (up_bd hbb (hrk_bd hn8))) hS (fun _ h => h) dX4_back_40

set_option maxRecDepth 100000 in
set_option maxHeartbeats 4000000 in
theorem mRepeat_ (l : Launch) (D : va_G) (cI cC : ClassId) (o bk kp : Nat) (d1 : o ≠ bk) (d2 : o ≠ kp) (d3 : bk ≠ kp) (t0 : Nat) (S : AS) (hI : AI S) (sz : Nat) (x : Int32) (y : Int32) : Met l yX4_repeat wsX4_repeat (xRm 20 900 7200) (va_Pc [.ref o, .int x, .int y] (xB D cI cC (fun H => H.size = sz ∧ xMW D cI o bk kp t0 S H))) (xI (fun r (_ : Unit) => tRepeat S x y = 0 → r = rRepeat S x y) (fun _ H => xMW D cI o bk kp (tRepeat S x y) (nRepeat S x y) H) (xMA o bk kp sz)) 900 7200 (xMA o bk kp sz) := by
  obtain ⟨n, ch, pm, st, kf, rg⟩ := S
  obtain ⟨⟨hn2, hn8⟩, hch, hst, hpm8, hpm, hkv, hkb⟩ := id hI
  dsimp only at hn2 hn8 hch hst hpm8 hpm hkv hkb
  refine Met.ofW (cc := cX4_repeat) (maxL := 6) (ret := (some .int)) (by decide) rfl ?_
  intro p e s m args below meth c s₁ B hml hv
  obtain ⟨rfl, hP, hK⟩ := hv
  have hx := B.exec
  have hb := B.bytes
  have hr := B.returns
  have hts := atoms_spec (ws := wsX4_repeat) B.pre
  have hown : s.vm.findClass RX4 = some m.cls := findClass_of_methodNamed B.named
  have hlocks := B.notSynchronized
  obtain ⟨hsz, bf, hM, hbr, hbb⟩ := hP
  have hl := lv_entry ([.ref o, .int x, .int y]) (n := 6) (Nat.le_of_ble_eq_true rfl)
  rw [lg_entry_eq]
  generalize (lg_sl ([.ref o, .int x, .int y]) ++ List.replicate (6 - (lg_sl ([.ref o, .int x, .int y])).length) Slot.unset).toArray = ls at hl ⊢
  have hl : lv_has ls 6 [(0, .ref o), (1, .int x), (2, .int y)] := hl
  have hM : xMo D cI o bk kp t0 n ch st rg bf kf s.heap := hM
  have hbr : ∀ k, k < ch → bf k = hrk (pm k) n n := hbr
  have hS : va_S (xMA o bk kp sz) s.heap s.heap [] := va_S.rf
  have hle : sz ≤ s.heap.size := Nat.le_of_eq hsz.symm
  refine lv_aload_n hx hb dX4_repeat_0 rfl (lv_at hl 0 rfl) ?_
  refine xn_iconst (v := 0) hx hb dX4_repeat_1 (by decide) ?_
  refine x_put (v := .int (nI 0)) (ty := .int) (C := RX4) (T := TX4) (N := 7) hx hb hts (by decide +kernel) tyX4 tyX4_ok nmX4 hown hK hM.1 hS (Or.inl rfl) rfl 0 (by decide) (hts (.fieldLink RX4 20 "BellRanksModel" "thrown" "I") (by decide +kernel)) (fun _ h9 => h9) rfl (by decide +kernel) rfl rfl (Nat.le_of_ble_eq_true rfl) dX4_repeat_2 (fun H1 locs1 hN hz oq hS => ?_)
  have hM : xMo D cI o bk kp 0 n ch st rg bf kf H1 := ⟨hN, hM.2.1.kept (oq _ (Ne.symm d1)), hM.2.2.kept (oq _ (Ne.symm d2))⟩
  have hle : sz ≤ H1.size := by rw [hz]; exact hle
  refine lv_aload_n hx hb dX4_repeat_5 rfl (lv_at hl 0 rfl) ?_
  refine lv_iload_n hx hb dX4_repeat_6 rfl (lv_at hl 1 rfl) ?_
  refine xcV (As := [.int x]) (rest := []) ⟨hx, hb, hml, hown, hts⟩ (cX4_isChange_ l D cI cC o bk kp 0 n ch st rg bf kf (by omega) x) (cwV 1 hts gX4_repeat_X4_isChange rfl rfl rfl (by decide +kernel) ⟨Nat.le_of_ble_eq_true rfl, Nat.le_of_ble_eq_true rfl⟩) hK hM (xRecv hK rfl hM.1) rfl hl.1 rfl (Nat.le_of_ble_eq_true rfl) dX4_repeat_7 ⟨(by show 0 ≤ 900; omega), (by show 0 ≤ 7200; omega)⟩ (fun x7 e7 => ?_)
  subst e7
  refine xn_if_ne (tgt := 19) hx hb dX4_repeat_10 (by decide) (by split <;> decide) (fun c10 => ?_) (fun c10 => ?_)
  · have hi10 := ite_pos1 c10
    refine lv_iload_n hx hb dX4_repeat_19 rfl (lv_at hl 2 rfl) ?_
    refine xn_iconst (v := 0) hx hb dX4_repeat_20 (by decide) ?_
    refine xn_sipush (v := 9999) hx hb dX4_repeat_21 (by decide) ?_
    refine xcS (As := [.int y, .int (nI 0), .int (nI 9999)]) (rest := []) ⟨hx, hb, hml, hown, hts⟩ (cX4_isIn_ l D cI cC y (nI 0) (nI 9999)) (va_cwS 3 hts gX4_repeat_X4_isIn rfl rfl rfl (by decide +kernel) ⟨Nat.le_of_ble_eq_true rfl, Nat.le_of_ble_eq_true rfl⟩) hK trivial rfl hl.1 rfl (Nat.le_of_ble_eq_true rfl) dX4_repeat_24 ⟨(by show 0 ≤ 900; omega), (by show 0 ≤ 7200; omega)⟩ (fun x24 e24 => ?_)
    subst e24
    refine xz_i (congrArg nI (ite10 (xin0 (N := 10000) (by omega) (by omega)))) ?_
    refine xn_if_ne (tgt := 36) hx hb dX4_repeat_27 (by decide) (by split <;> decide) (fun c27 => ?_) (fun c27 => ?_)
    · have hi27 := ite_pos1 c27
      obtain ⟨j1, hj1, hj1b, rfl⟩ := inR_of hi10
      have hl : lv_has ls 6 [(0, .ref o), (1, .int (nI j1)), (2, .int y)] := hl
      obtain ⟨j2, hj2, hj2b, rfl⟩ := inR_of hi27
      have hl : lv_has ls 6 [(0, .ref o), (1, .int (nI j1)), (2, .int (nI j2))] := hl
      have hor := ord_ok (a := pm j1) hn8 n (Nat.le_refl _)
      refine lv_aload_n hx hb dX4_repeat_36 rfl (lv_at hl 0 rfl) ?_
      refine lv_aload_n hx hb dX4_repeat_37 rfl (lv_at hl 0 rfl) ?_
      refine x_get (v := .ref bk) (C := RX4) (T := TX4) (N := 7) hx hb hts (by decide +kernel) hown hK hM.1 rfl 3 (by decide) (hts (.fieldLink RX4 13 "BellRanksModel" "book" "[I") (by decide +kernel)) (fun _ h9 => h9) rfl dX4_repeat_38 ?_
      refine lv_iload_n hx hb dX4_repeat_41 rfl (lv_at hl 1 rfl) ?_
      refine x_iald hx hb hK hM.2.1 (by omega) (by decide) dX4_repeat_42 ?_
      refine xmR (As := [.int (nI (bf j1))]) (rest := []) ⟨hx, hb, hml, hown, hts⟩ (cX4_row_ l D cI cC o bk kp 0 n ch st rg bf kf _ (by omega) (pm j1) (hpm j1 hj1) (bf j1) (hbr j1 hj1)) (cwV 1 hts gX4_repeat_X4_row rfl rfl rfl (by decide +kernel) ⟨Nat.le_of_ble_eq_true rfl, Nat.le_of_ble_eq_true rfl⟩) hK ⟨rfl, hM⟩ (xRecv hK rfl hM.1) rfl hl.1 rfl (Nat.le_of_ble_eq_true rfl) dX4_repeat_43 ⟨(by show 0 + 1 ≤ 900; omega), (by show 0 + 8 ≤ 7200; omega)⟩ hS (fun q h => Or.inr (Or.inr (Or.inr (Nat.le_trans hle h)))) (fun q h => Or.inr (Or.inr (Or.inr (Nat.le_trans hle h)))) (fun u43 x43 H1 locs1 hp43 hF43 hz43 hk43 hS => ?_)
      obtain ⟨hq43, hR43⟩ := hF43
      have hno43 : o ≠ x43 := Nat.ne_of_lt (Nat.lt_of_lt_of_le hM.1.lt hq43)
      have hnb43 : bk ≠ x43 := Nat.ne_of_lt (Nat.lt_of_lt_of_le hM.2.1.lt hq43)
      have hnk43 : kp ≠ x43 := Nat.ne_of_lt (Nat.lt_of_lt_of_le hM.2.2.lt hq43)
      have hsx43 : sz ≤ x43 := Nat.le_trans hle hq43
      have hM := xMo_old hM (xk_old hk43)
      have hle : sz ≤ H1.size := Nat.le_trans hle hz43
      refine lv_astore_n (lv' := [(3, .ref x43), (0, .ref o), (1, .int (nI j1)), (2, .int (nI j2))]) hx hb dX4_repeat_46 rfl hl (by decide) rfl (fun ls hl => ?_)
      refine lv_aload_n hx hb dX4_repeat_47 rfl (lv_at hl 1 rfl) ?_
      refine xn_iconst (v := 0) hx hb dX4_repeat_48 (by decide) ?_
      refine xmR (As := [.int (nI 0)]) (rest := []) ⟨hx, hb, hml, hown, hts⟩ (cX4_row_ l D cI cC o bk kp 0 n ch st rg bf kf _ (by omega) (fun i => i) (Prm.id n) 0 hrk_id.symm) (cwV 1 hts gX4_repeat_X4_row rfl rfl rfl (by decide +kernel) ⟨Nat.le_of_ble_eq_true rfl, Nat.le_of_ble_eq_true rfl⟩) hK ⟨rfl, hM⟩ (xRecv hK rfl hM.1) rfl hl.1 rfl (Nat.le_of_ble_eq_true rfl) dX4_repeat_49 ⟨(by show 0 + 1 + 1 ≤ 900; omega), (by show 0 + 8 + 8 ≤ 7200; omega)⟩ hS (fun q h => Or.inr (Or.inr (Or.inr (Nat.le_trans hle h)))) (fun q h => Or.inr (Or.inr (Or.inr (Nat.le_trans hle h)))) (fun u49 x49 H1 locs1 hp49 hF49 hz49 hk49 hS => ?_)
      obtain ⟨hq49, hR49⟩ := hF49
      have hno49 : o ≠ x49 := Nat.ne_of_lt (Nat.lt_of_lt_of_le hM.1.lt hq49)
      have hnb49 : bk ≠ x49 := Nat.ne_of_lt (Nat.lt_of_lt_of_le hM.2.1.lt hq49)
      have hnk49 : kp ≠ x49 := Nat.ne_of_lt (Nat.lt_of_lt_of_le hM.2.2.lt hq49)
      have hnhR43hR49 : x43 ≠ x49 := Nat.ne_of_lt (Nat.lt_of_lt_of_le (va_at.lt hR43) hq49)
      have hsx49 : sz ≤ x49 := Nat.le_trans hle hq49
      have hM := xMo_old hM (xk_old hk49)
      have hR43 : xRow D cI x43 n (pm j1) H1 := xat_old hR43 (xk_old hk49)
      have hle : sz ≤ H1.size := Nat.le_trans hle hz49
      refine lv_astore (lv' := [(4, .ref x49), (3, .ref x43), (0, .ref o), (1, .int (nI j1)), (2, .int (nI j2))]) hx hb dX4_repeat_52 hl (by decide) rfl (fun ls hl => ?_)
      refine lv_iload_n hx hb dX4_repeat_54 rfl (lv_at hl 4 rfl) ?_
      refine lv_aload_n hx hb dX4_repeat_55 rfl (lv_at hl 2 rfl) ?_
      refine lv_aload_n hx hb dX4_repeat_56 rfl (lv_at hl 1 rfl) ?_
      refine xcV (As := [.ref x43]) (rest := [.int (nI j2)]) ⟨hx, hb, hml, hown, hts⟩ (cX4_order_ l D cI cC o bk kp 0 n ch st rg bf kf x43 (pm j1) (by omega) (hpm j1 hj1)) (cwV 1 hts gX4_repeat_X4_order rfl rfl rfl (by decide +kernel) ⟨Nat.le_of_ble_eq_true rfl, Nat.le_of_ble_eq_true rfl⟩) hK ⟨hM, hR43⟩ (xRecv hK rfl hM.1) rfl hl.1 rfl (Nat.le_of_ble_eq_true rfl) dX4_repeat_57 ⟨(by show 0 + 1 + 1 ≤ 900; omega), (by show 0 + 8 + 8 ≤ 7200; omega)⟩ (fun x57 e57 => ?_)
      subst e57
      refine xn_irem hx hb (by omega) hor.1 (by omega) dX4_repeat_60 ?_
      refine lv_istore (lv' := [(5, .int (nI (j2 % (ord (pm j1) n n)))), (4, .ref x49), (3, .ref x43), (0, .ref o), (1, .int (nI j1)), (2, .int (nI j2))]) hx hb dX4_repeat_61 hl (by decide) rfl (fun ls hl => ?_)
      refine x_loopH (σ := Nat × Nat × Nat) (fun a => a.1) (fun a H locs cells slots ls => (a.2.2 + a.1 = j2 % ord (pm j1) n n) ∧ (sz ≤ a.2.1) ∧ (o ≠ a.2.1 ∧ bk ≠ a.2.1 ∧ kp ≠ a.2.1) ∧ (x43 ≠ a.2.1) ∧ (xMo D cI o bk kp 0 n ch st rg bf kf H) ∧ (sz ≤ H.size) ∧ (xRow D cI x43 n (pm j1) H) ∧ (xRow D cI a.2.1 n (it (pm j1) a.2.2) H) ∧ (va_S (xMA o bk kp sz) s.heap H locs) ∧ (cells ≤ 2 + a.2.2) ∧ (slots ≤ 16 + 8 * a.2.2) ∧ lv_has ls 6 [(0, .ref o), (1, .int (nI j1)), (2, .int (nI j2)), (3, .ref x43), (4, .ref a.2.1), (5, .int (nI a.1))]) ?_ (j2 % (ord (pm j1) n n), x49, 0) _ _ _ _ ls ⟨(Nat.zero_add _), hsx49, ⟨hno49, hnb49, hnk49⟩, hnhR43hR49, hM, hle, hR43, hR49, hS, (by omega), (by omega), lv_sub hl [3, 4, 5, 2, 1, 0] rfl⟩
      rintro ⟨k, q, i⟩ H locs cells slots ls ⟨hki, hsq, hqo, hq43, hM, hle, hR43, hRq, hS, hce, hse, hl⟩ ih63
      dsimp only at hki hsq hqo hq43 hM hle hR43 hRq hS hce hse hl
      have hT : j2 % ord (pm j1) n n < 841 := Nat.lt_trans (Nat.mod_lt _ hor.1) hor.2.1
      refine lv_iload hx hb dX4_repeat_63 (lv_at hl 5 rfl) ?_
      refine xn_if_le (tgt := 83) hx hb dX4_repeat_65 (by decide) (by omega) (fun c65 => ?_) (fun c65 => ?_)
      · refine lv_aload_n hx hb dX4_repeat_83 rfl (lv_at hl 0 rfl) ?_
        refine lv_iload_n hx hb dX4_repeat_84 rfl (lv_at hl 1 rfl) ?_
        refine lv_aload hx hb dX4_repeat_85 (lv_at hl 4 rfl) ?_
        refine xmI (As := [.int (nI j1), .ref q]) (rest := []) ⟨hx, hb, hml, hown, hts⟩ (cX4_become_ l D cI cC o bk kp 0 n ch st rg bf kf d1 d2 d3 q (it (pm j1) i) (Ne.symm hqo.2.1) (by omega) (prm_100 (Prm.it (hpm j1 hj1) i) hn8) j1 (by omega)) (cwV 2 hts gX4_repeat_X4_become rfl rfl rfl (by decide +kernel) ⟨Nat.le_of_ble_eq_true rfl, Nat.le_of_ble_eq_true rfl⟩) hK ⟨hM, hRq⟩ (xRecv hK rfl hM.1) rfl hl.1 rfl (Nat.le_of_ble_eq_true rfl) dX4_repeat_87 ⟨(by show cells + 0 ≤ 900; omega), (by show slots + 0 ≤ 7200; omega)⟩ hS (fun q h => Or.inr (Or.inl h)) (fun q h => Or.inr (Or.inl h)) (fun x87 u87 H1 locs1 hp87 hF87 hz87 hk87 hS => ?_)
        have hM : xMo D cI o bk kp 0 n ch st rg (va_up bf j1 (hrk (it (pm j1) i) n n)) kf H1 := hF87
        have hle : sz ≤ H1.size := Nat.le_trans hle hz87
        subst hp87
        have ht : tRepeat (n, ch, pm, st, kf, rg) (nI j1) (nI j2) = 0 := (show (if inR (nI j1) ch then (if inR (nI j2) 10000 then 0 else 2) else 1) = 0 by rw [if_pos hi10, if_pos hi27])
        have hnw : nRepeat (n, ch, pm, st, kf, rg) (nI j1) (nI j2) = upP (n, ch, pm, st, kf, rg) j1 (reF (n, ch, pm, st, kf, rg) j1 j2) := (if_pos ht).trans (by simp only [xN_nI hj1b, xN_nI hj2b])
        have he : hrk (it (pm j1) i) n n = hrk (reF (n, ch, pm, st, kf, rg) j1 j2) n n := (hrk_congr (fun z hz => by
              show it (pm j1) i z = cpy (pm j1) (rpF (pm j1) n j2) n z
              rw [cpy_lt hz, show i = j2 % ord (pm j1) n n by omega, it_ord hn8 (hpm j1 hj1) hz]; rfl) n (Nat.le_refl _))
        rw [he] at hM
        refine W.widen (k := 900) (n := 7200) (by omega) (by omega) ?_
        exact x_miret hx hb hr hlocks () (fun _ => by show nI _ = rRepeat (n, ch, pm, st, kf, rg) (nI j1) (nI j2); unfold rRepeat; simp only [xN_nI hj1b, xN_nI hj2b]; rw [he]) (by rw [ht, hnw]; exact xMW_mk (S := upP (n, ch, pm, st, kf, rg) j1 (reF (n, ch, pm, st, kf, rg) j1 j2)) hM (up_rk hbr) (up_bd hbb (hrk_bd hn8))) hS (fun _ h => h) dX4_repeat_90
      · refine lv_aload_n hx hb dX4_repeat_68 rfl (lv_at hl 0 rfl) ?_
        refine lv_aload hx hb dX4_repeat_69 (lv_at hl 4 rfl) ?_
        refine lv_aload_n hx hb dX4_repeat_71 rfl (lv_at hl 3 rfl) ?_
        refine xmR (As := [.ref q, .ref x43]) (rest := []) ⟨hx, hb, hml, hown, hts⟩ (cX4_behindRow_ l D cI cC o bk kp 0 n ch st rg bf kf _ (by omega) q x43 (it (pm j1) i) (pm j1) (prm_lt (hpm j1 hj1))) (cwV 2 hts gX4_repeat_X4_behindRow rfl rfl rfl (by decide +kernel) ⟨Nat.le_of_ble_eq_true rfl, Nat.le_of_ble_eq_true rfl⟩) hK ⟨rfl, hM, hRq, hR43⟩ (xRecv hK rfl hM.1) rfl hl.1 rfl (Nat.le_of_ble_eq_true rfl) dX4_repeat_72 ⟨(by show cells + 1 ≤ 900; omega), (by show slots + 8 ≤ 7200; omega)⟩ hS (fun q h => Or.inr (Or.inr (Or.inr (Nat.le_trans hle h)))) (fun q h => Or.inr (Or.inr (Or.inr (Nat.le_trans hle h)))) (fun u72 x72 H1 locs1 hp72 hF72 hz72 hk72 hS => ?_)
        obtain ⟨hq72, hR72⟩ := hF72
        have hno72 : o ≠ x72 := Nat.ne_of_lt (Nat.lt_of_lt_of_le hM.1.lt hq72)
        have hnb72 : bk ≠ x72 := Nat.ne_of_lt (Nat.lt_of_lt_of_le hM.2.1.lt hq72)
        have hnk72 : kp ≠ x72 := Nat.ne_of_lt (Nat.lt_of_lt_of_le hM.2.2.lt hq72)
        have hnhR43hR72 : x43 ≠ x72 := Nat.ne_of_lt (Nat.lt_of_lt_of_le (va_at.lt hR43) hq72)
        have hnhRqhR72 : q ≠ x72 := Nat.ne_of_lt (Nat.lt_of_lt_of_le (va_at.lt hRq) hq72)
        have hsx72 : sz ≤ x72 := Nat.le_trans hle hq72
        have hM := xMo_old hM (xk_old hk72)
        have hR43 : xRow D cI x43 n (pm j1) H1 := xat_old hR43 (xk_old hk72)
        have hRq : xRow D cI q n (it (pm j1) i) H1 := xat_old hRq (xk_old hk72)
        have hle : sz ≤ H1.size := Nat.le_trans hle hz72
        have hR72 : xRow D cI x72 n (it (pm j1) (i + 1)) H1 := xrow_congr (fun x9 _ => (it_add (pm j1) i 1 x9).symm) hR72
        refine lv_astore (lv' := [(4, .ref x72), (0, .ref o), (1, .int (nI j1)), (2, .int (nI j2)), (3, .ref x43), (5, .int (nI k))]) hx hb dX4_repeat_75 hl (by decide) rfl (fun ls hl => ?_)
        refine lv_iinc (v := (nI (k - 1))) (lv' := [(5, .int (nI (k - 1))), (4, .ref x72), (0, .ref o), (1, .int (nI j1)), (2, .int (nI j2)), (3, .ref x43)]) hx hb dX4_repeat_77 hl (k := 5) rfl (xdec1 c65) (by decide) rfl (fun ls hl => ?_)
        refine lv_goto (tgt := 63) hx hb dX4_repeat_80 (by decide) ?_
        exact ih63 (k - 1, x72, i + 1) _ _ _ _ ls ⟨(by dsimp only; omega), hsx72, ⟨hno72, hnb72, hnk72⟩, hnhR43hR72, hM, hle, hR43, hR72, hS, (by dsimp only; omega), (by dsimp only; omega), lv_sub hl [2, 3, 4, 5, 1, 0] rfl⟩ (by dsimp only; omega)
    · have hi27 := ite_zero1 c27
      refine lv_aload_n hx hb dX4_repeat_30 rfl (lv_at hl 0 rfl) ?_
      refine xn_iconst (v := 2) hx hb dX4_repeat_31 (by decide) ?_
      refine xmI (As := [.int (nI 2)]) (rest := []) ⟨hx, hb, hml, hown, hts⟩ (cX4_no_ l D cI cC o bk kp 0 n ch st rg bf kf d1 d2 d3 2) (cwV 1 hts gX4_repeat_X4_no rfl rfl rfl (by decide +kernel) ⟨Nat.le_of_ble_eq_true rfl, Nat.le_of_ble_eq_true rfl⟩) hK hM (xRecv hK rfl hM.1) rfl hl.1 rfl (Nat.le_of_ble_eq_true rfl) dX4_repeat_32 ⟨(by show 0 + 0 ≤ 900; omega), (by show 0 + 0 ≤ 7200; omega)⟩ hS (fun q h => Or.inl h) (fun q h => Or.inl h) (fun x32 u32 H1 locs1 hp32 hF32 hz32 hk32 hS => ?_)
      have hM : xMo D cI o bk kp 2 n ch st rg bf kf H1 := hF32
      have hle : sz ≤ H1.size := Nat.le_trans hle hz32
      subst hp32
      have ht : tRepeat (n, ch, pm, st, kf, rg) x y = 2 := (show (if inR x ch then (if inR y 10000 then 0 else 2) else 1) = 2 by rw [if_pos hi10, if_neg hi27])
      refine W.widen (k := 900) (n := 7200) (by omega) (by omega) ?_
      exact x_miret hx hb hr hlocks () (fun z => absurd (ht.symm.trans z) (by decide)) (by rw [ht, show nRepeat (n, ch, pm, st, kf, rg) x y = (n, ch, pm, st, kf, rg) from if_neg (by rw [ht]; decide)]; exact xMW_mk hM hbr hbb) hS (fun _ h => h) dX4_repeat_35
  · have hi10 := ite_zero1 c10
    refine lv_aload_n hx hb dX4_repeat_13 rfl (lv_at hl 0 rfl) ?_
    refine xn_iconst (v := 1) hx hb dX4_repeat_14 (by decide) ?_
    refine xmI (As := [.int (nI 1)]) (rest := []) ⟨hx, hb, hml, hown, hts⟩ (cX4_no_ l D cI cC o bk kp 0 n ch st rg bf kf d1 d2 d3 1) (cwV 1 hts gX4_repeat_X4_no rfl rfl rfl (by decide +kernel) ⟨Nat.le_of_ble_eq_true rfl, Nat.le_of_ble_eq_true rfl⟩) hK hM (xRecv hK rfl hM.1) rfl hl.1 rfl (Nat.le_of_ble_eq_true rfl) dX4_repeat_15 ⟨(by show 0 + 0 ≤ 900; omega), (by show 0 + 0 ≤ 7200; omega)⟩ hS (fun q h => Or.inl h) (fun q h => Or.inl h) (fun x15 u15 H1 locs1 hp15 hF15 hz15 hk15 hS => ?_)
    have hM : xMo D cI o bk kp 1 n ch st rg bf kf H1 := hF15
    have hle : sz ≤ H1.size := Nat.le_trans hle hz15
    subst hp15
    have ht : tRepeat (n, ch, pm, st, kf, rg) x y = 1 := (show (if inR x ch then (if inR y 10000 then 0 else 2) else 1) = 1 by rw [if_neg hi10])
    refine W.widen (k := 900) (n := 7200) (by omega) (by omega) ?_
    exact x_miret hx hb hr hlocks () (fun z => absurd (ht.symm.trans z) (by decide)) (by rw [ht, show nRepeat (n, ch, pm, st, kf, rg) x y = (n, ch, pm, st, kf, rg) from if_neg (by rw [ht]; decide)]; exact xMW_mk hM hbr hbb) hS (fun _ h => h) dX4_repeat_18

set_option maxRecDepth 100000 in
set_option maxHeartbeats 4000000 in
theorem mStep_ (l : Launch) (D : va_G) (cI cC : ClassId) (o bk kp : Nat) (d1 : o ≠ bk) (d2 : o ≠ kp) (d3 : bk ≠ kp) (t0 : Nat) (S : AS) (hI : AI S) (sz : Nat) (x : Int32) : Met l yX4_step wsX4_step (xRm 20 900 7200) (va_Pc [.ref o, .int x] (xB D cI cC (fun H => H.size = sz ∧ xMW D cI o bk kp t0 S H))) (xI (fun r (_ : Unit) => tStep S x = 0 → r = rStep S x) (fun _ H => xMW D cI o bk kp (tStep S x) (nStep S x) H) (xMA o bk kp sz)) 900 7200 (xMA o bk kp sz) := by
  obtain ⟨n, ch, pm, st, kf, rg⟩ := S
  obtain ⟨⟨hn2, hn8⟩, hch, hst, hpm8, hpm, hkv, hkb⟩ := id hI
  dsimp only at hn2 hn8 hch hst hpm8 hpm hkv hkb
  refine Met.ofW (cc := cX4_step) (maxL := 2) (ret := (some .int)) (by decide) rfl ?_
  intro p e s m args below meth c s₁ B hml hv
  obtain ⟨rfl, hP, hK⟩ := hv
  have hx := B.exec
  have hb := B.bytes
  have hr := B.returns
  have hts := atoms_spec (ws := wsX4_step) B.pre
  have hown : s.vm.findClass RX4 = some m.cls := findClass_of_methodNamed B.named
  have hlocks := B.notSynchronized
  obtain ⟨hsz, bf, hM, hbr, hbb⟩ := hP
  have hl := lv_entry ([.ref o, .int x]) (n := 2) (Nat.le_of_ble_eq_true rfl)
  rw [lg_entry_eq]
  generalize (lg_sl ([.ref o, .int x]) ++ List.replicate (2 - (lg_sl ([.ref o, .int x])).length) Slot.unset).toArray = ls at hl ⊢
  have hl : lv_has ls 2 [(0, .ref o), (1, .int x)] := hl
  have hM : xMo D cI o bk kp t0 n ch st rg bf kf s.heap := hM
  have hbr : ∀ k, k < ch → bf k = hrk (pm k) n n := hbr
  have hS : va_S (xMA o bk kp sz) s.heap s.heap [] := va_S.rf
  have hle : sz ≤ s.heap.size := Nat.le_of_eq hsz.symm
  refine lv_aload_n hx hb dX4_step_0 rfl (lv_at hl 0 rfl) ?_
  refine xn_iconst (v := 0) hx hb dX4_step_1 (by decide) ?_
  refine x_put (v := .int (nI 0)) (ty := .int) (C := RX4) (T := TX4) (N := 7) hx hb hts (by decide +kernel) tyX4 tyX4_ok nmX4 hown hK hM.1 hS (Or.inl rfl) rfl 0 (by decide) (hts (.fieldLink RX4 20 "BellRanksModel" "thrown" "I") (by decide +kernel)) (fun _ h9 => h9) rfl (by decide +kernel) rfl rfl (Nat.le_of_ble_eq_true rfl) dX4_step_2 (fun H1 locs1 hN hz oq hS => ?_)
  have hM : xMo D cI o bk kp 0 n ch st rg bf kf H1 := ⟨hN, hM.2.1.kept (oq _ (Ne.symm d1)), hM.2.2.kept (oq _ (Ne.symm d2))⟩
  have hle : sz ≤ H1.size := by rw [hz]; exact hle
  refine lv_aload_n hx hb dX4_step_5 rfl (lv_at hl 0 rfl) ?_
  refine lv_iload_n hx hb dX4_step_6 rfl (lv_at hl 1 rfl) ?_
  refine xcV (As := [.int x]) (rest := []) ⟨hx, hb, hml, hown, hts⟩ (cX4_isStep_ l D cI cC o bk kp 0 n ch st rg bf kf (by omega) x) (cwV 1 hts gX4_step_X4_isStep rfl rfl rfl (by decide +kernel) ⟨Nat.le_of_ble_eq_true rfl, Nat.le_of_ble_eq_true rfl⟩) hK hM (xRecv hK rfl hM.1) rfl hl.1 rfl (Nat.le_of_ble_eq_true rfl) dX4_step_7 ⟨(by show 0 ≤ 900; omega), (by show 0 ≤ 7200; omega)⟩ (fun x7 e7 => ?_)
  subst e7
  refine xn_if_ne (tgt := 19) hx hb dX4_step_10 (by decide) (Nat.lt_of_le_of_lt (istep_le (stp_le _ _ _ _)) (by decide)) (fun c10 => ?_) (fun c10 => ?_)
  · have hi10 := istep_1 c10 (stp_le _ _ _ _)
    obtain ⟨j1, hj1, hj1b, rfl⟩ := inR_of hi10.1
    have hl : lv_has ls 2 [(0, .ref o), (1, .int (nI j1))] := hl
    refine lv_aload_n hx hb dX4_step_19 rfl (lv_at hl 0 rfl) ?_
    refine x_get (v := .int (nI st)) (C := RX4) (T := TX4) (N := 7) hx hb hts (by decide +kernel) hown hK hM.1 rfl 4 (by decide) (hts (.fieldLink RX4 48 "BellRanksModel" "steps" "I") (by decide +kernel)) (fun _ h9 => h9) rfl dX4_step_20 ?_
    refine xn_bipush (v := 10) hx hb dX4_step_23 (by decide) ?_
    refine xn_icmp_ne (tgt := 34) hx hb dX4_step_25 (by decide) (by omega) (by decide) (fun c25 => ?_) (fun c25 => ?_)
    · refine lv_aload_n hx hb dX4_step_34 rfl (lv_at hl 0 rfl) ?_
      refine x_get (v := .ref kp) (C := RX4) (T := TX4) (N := 7) hx hb hts (by decide +kernel) hown hK hM.1 rfl 5 (by decide) (hts (.fieldLink RX4 17 "BellRanksModel" "kept" "[I") (by decide +kernel)) (fun _ h9 => h9) rfl dX4_step_35 ?_
      refine lv_aload_n hx hb dX4_step_38 rfl (lv_at hl 0 rfl) ?_
      refine x_get (v := .int (nI st)) (C := RX4) (T := TX4) (N := 7) hx hb hts (by decide +kernel) hown hK hM.1 rfl 4 (by decide) (hts (.fieldLink RX4 48 "BellRanksModel" "steps" "I") (by decide +kernel)) (fun _ h9 => h9) rfl dX4_step_39 ?_
      refine lv_iload_n hx hb dX4_step_42 rfl (lv_at hl 1 rfl) ?_
      refine x_iast hx hb hK hM.2.2 hS (Or.inr (Or.inr (Or.inl rfl))) (by omega) (by decide) dX4_step_43 (fun H1 locs1 hN hz oq hS => ?_)
      have hM : xMo D cI o bk kp 0 n ch st rg bf (va_up kf st j1) H1 := ⟨hM.1.kept (oq _ d2), hM.2.1.kept (oq _ d3), hN⟩
      have hle : sz ≤ H1.size := by rw [hz]; exact hle
      refine lv_aload_n hx hb dX4_step_44 rfl (lv_at hl 0 rfl) ?_
      refine lv_dup hx hb dX4_step_45 rfl ?_
      refine x_get (v := .int (nI st)) (C := RX4) (T := TX4) (N := 7) hx hb hts (by decide +kernel) hown hK hM.1 rfl 4 (by decide) (hts (.fieldLink RX4 48 "BellRanksModel" "steps" "I") (by decide +kernel)) (fun _ h9 => h9) rfl dX4_step_46 ?_
      refine xn_iconst (v := 1) hx hb dX4_step_49 (by decide) ?_
      refine xn_iadd hx hb dX4_step_50 ?_
      refine x_put (v := .int (nI (st + 1))) (ty := .int) (C := RX4) (T := TX4) (N := 7) hx hb hts (by decide +kernel) tyX4 tyX4_ok nmX4 hown hK hM.1 hS (Or.inl rfl) rfl 4 (by decide) (hts (.fieldLink RX4 48 "BellRanksModel" "steps" "I") (by decide +kernel)) (fun _ h9 => h9) rfl (by decide +kernel) rfl rfl (Nat.le_of_ble_eq_true rfl) dX4_step_51 (fun H1 locs1 hN hz oq hS => ?_)
      have hM : xMo D cI o bk kp 0 n ch (st + 1) rg bf (va_up kf st j1) H1 := ⟨hN, hM.2.1.kept (oq _ (Ne.symm d1)), hM.2.2.kept (oq _ (Ne.symm d2))⟩
      have hle : sz ≤ H1.size := by rw [hz]; exact hle
      refine lv_aload_n hx hb dX4_step_54 rfl (lv_at hl 0 rfl) ?_
      refine x_get (v := .int (nI (st + 1))) (C := RX4) (T := TX4) (N := 7) hx hb hts (by decide +kernel) hown hK hM.1 rfl 4 (by decide) (hts (.fieldLink RX4 48 "BellRanksModel" "steps" "I") (by decide +kernel)) (fun _ h9 => h9) rfl dX4_step_55 ?_
      have ht : tStep (n, ch, pm, st, kf, rg) (nI j1) = 0 := (show (if inR (nI j1) (2 ^ n) ∧ stp (xN (nI j1)) n n 0 = 1 then (if st = 10 then 2 else 0) else 1) = 0 by rw [if_pos hi10, if_neg c25])
      have hnw : nStep (n, ch, pm, st, kf, rg) (nI j1) = (n, ch, pm, st + 1, va_up kf st j1, rg) := (if_pos ht).trans (by simp only [xN_nI hj1b])
      refine W.widen (k := 900) (n := 7200) (by omega) (by omega) ?_
      exact x_miret hx hb hr hlocks () (fun _ => rfl) (by rw [ht, hnw]; exact xMW_mk (S := (n, ch, pm, st + 1, va_up kf st j1, rg)) hM hbr hbb) hS (fun _ h => h) dX4_step_58
    · refine lv_aload_n hx hb dX4_step_28 rfl (lv_at hl 0 rfl) ?_
      refine xn_iconst (v := 2) hx hb dX4_step_29 (by decide) ?_
      refine xmI (As := [.int (nI 2)]) (rest := []) ⟨hx, hb, hml, hown, hts⟩ (cX4_no_ l D cI cC o bk kp 0 n ch st rg bf kf d1 d2 d3 2) (cwV 1 hts gX4_step_X4_no rfl rfl rfl (by decide +kernel) ⟨Nat.le_of_ble_eq_true rfl, Nat.le_of_ble_eq_true rfl⟩) hK hM (xRecv hK rfl hM.1) rfl hl.1 rfl (Nat.le_of_ble_eq_true rfl) dX4_step_30 ⟨(by show 0 + 0 ≤ 900; omega), (by show 0 + 0 ≤ 7200; omega)⟩ hS (fun q h => Or.inl h) (fun q h => Or.inl h) (fun x30 u30 H1 locs1 hp30 hF30 hz30 hk30 hS => ?_)
      have hM : xMo D cI o bk kp 2 n ch st rg bf kf H1 := hF30
      have hle : sz ≤ H1.size := Nat.le_trans hle hz30
      subst hp30
      have ht : tStep (n, ch, pm, st, kf, rg) (nI j1) = 2 := (show (if inR (nI j1) (2 ^ n) ∧ stp (xN (nI j1)) n n 0 = 1 then (if st = 10 then 2 else 0) else 1) = 2 by rw [if_pos hi10, if_pos c25])
      refine W.widen (k := 900) (n := 7200) (by omega) (by omega) ?_
      exact x_miret hx hb hr hlocks () (fun z => absurd (ht.symm.trans z) (by decide)) (by rw [ht, show nStep (n, ch, pm, st, kf, rg) (nI j1) = (n, ch, pm, st, kf, rg) from if_neg (by rw [ht]; decide)]; exact xMW_mk hM hbr hbb) hS (fun _ h => h) dX4_step_33
  · have hi10 := istep_0 c10 (stp_le _ _ _ _)
    refine lv_aload_n hx hb dX4_step_13 rfl (lv_at hl 0 rfl) ?_
    refine xn_iconst (v := 1) hx hb dX4_step_14 (by decide) ?_
    refine xmI (As := [.int (nI 1)]) (rest := []) ⟨hx, hb, hml, hown, hts⟩ (cX4_no_ l D cI cC o bk kp 0 n ch st rg bf kf d1 d2 d3 1) (cwV 1 hts gX4_step_X4_no rfl rfl rfl (by decide +kernel) ⟨Nat.le_of_ble_eq_true rfl, Nat.le_of_ble_eq_true rfl⟩) hK hM (xRecv hK rfl hM.1) rfl hl.1 rfl (Nat.le_of_ble_eq_true rfl) dX4_step_15 ⟨(by show 0 + 0 ≤ 900; omega), (by show 0 + 0 ≤ 7200; omega)⟩ hS (fun q h => Or.inl h) (fun q h => Or.inl h) (fun x15 u15 H1 locs1 hp15 hF15 hz15 hk15 hS => ?_)
    have hM : xMo D cI o bk kp 1 n ch st rg bf kf H1 := hF15
    have hle : sz ≤ H1.size := Nat.le_trans hle hz15
    subst hp15
    have ht : tStep (n, ch, pm, st, kf, rg) x = 1 := (show (if inR x (2 ^ n) ∧ stp (xN x) n n 0 = 1 then (if st = 10 then 2 else 0) else 1) = 1 by rw [if_neg hi10])
    refine W.widen (k := 900) (n := 7200) (by omega) (by omega) ?_
    exact x_miret hx hb hr hlocks () (fun z => absurd (ht.symm.trans z) (by decide)) (by rw [ht, show nStep (n, ch, pm, st, kf, rg) x = (n, ch, pm, st, kf, rg) from if_neg (by rw [ht]; decide)]; exact xMW_mk hM hbr hbb) hS (fun _ h => h) dX4_step_18

set_option maxRecDepth 100000 in
set_option maxHeartbeats 4000000 in
theorem mClear_ (l : Launch) (D : va_G) (cI cC : ClassId) (o bk kp : Nat) (d1 : o ≠ bk) (d2 : o ≠ kp) (d3 : bk ≠ kp) (t0 : Nat) (S : AS) (hI : AI S) (sz : Nat) : Met l yX4_clear wsX4_clear (xRm 20 900 7200) (va_Pc [.ref o] (xB D cI cC (fun H => H.size = sz ∧ xMW D cI o bk kp t0 S H))) (xI (fun r (_ : Unit) => 0 = 0 → r = rClear S ) (fun _ H => xMW D cI o bk kp (0) (nClear S ) H) (xMA o bk kp sz)) 900 7200 (xMA o bk kp sz) := by
  obtain ⟨n, ch, pm, st, kf, rg⟩ := S
  obtain ⟨⟨hn2, hn8⟩, hch, hst, hpm8, hpm, hkv, hkb⟩ := id hI
  dsimp only at hn2 hn8 hch hst hpm8 hpm hkv hkb
  refine Met.ofW (cc := cX4_clear) (maxL := 2) (ret := (some .int)) (by decide) rfl ?_
  intro p e s m args below meth c s₁ B hml hv
  obtain ⟨rfl, hP, hK⟩ := hv
  have hx := B.exec
  have hb := B.bytes
  have hr := B.returns
  have hts := atoms_spec (ws := wsX4_clear) B.pre
  have hown : s.vm.findClass RX4 = some m.cls := findClass_of_methodNamed B.named
  have hlocks := B.notSynchronized
  obtain ⟨hsz, bf, hM, hbr, hbb⟩ := hP
  have hl := lv_entry ([.ref o]) (n := 2) (Nat.le_of_ble_eq_true rfl)
  rw [lg_entry_eq]
  generalize (lg_sl ([.ref o]) ++ List.replicate (2 - (lg_sl ([.ref o])).length) Slot.unset).toArray = ls at hl ⊢
  have hl : lv_has ls 2 [(0, .ref o)] := hl
  have hM : xMo D cI o bk kp t0 n ch st rg bf kf s.heap := hM
  have hbr : ∀ k, k < ch → bf k = hrk (pm k) n n := hbr
  have hS : va_S (xMA o bk kp sz) s.heap s.heap [] := va_S.rf
  have hle : sz ≤ s.heap.size := Nat.le_of_eq hsz.symm
  refine lv_aload_n hx hb dX4_clear_0 rfl (lv_at hl 0 rfl) ?_
  refine xn_iconst (v := 0) hx hb dX4_clear_1 (by decide) ?_
  refine x_put (v := .int (nI 0)) (ty := .int) (C := RX4) (T := TX4) (N := 7) hx hb hts (by decide +kernel) tyX4 tyX4_ok nmX4 hown hK hM.1 hS (Or.inl rfl) rfl 0 (by decide) (hts (.fieldLink RX4 20 "BellRanksModel" "thrown" "I") (by decide +kernel)) (fun _ h9 => h9) rfl (by decide +kernel) rfl rfl (Nat.le_of_ble_eq_true rfl) dX4_clear_2 (fun H1 locs1 hN hz oq hS => ?_)
  have hM : xMo D cI o bk kp 0 n ch st rg bf kf H1 := ⟨hN, hM.2.1.kept (oq _ (Ne.symm d1)), hM.2.2.kept (oq _ (Ne.symm d2))⟩
  have hle : sz ≤ H1.size := by rw [hz]; exact hle
  refine lv_aload_n hx hb dX4_clear_5 rfl (lv_at hl 0 rfl) ?_
  refine x_get (v := .int (nI st)) (C := RX4) (T := TX4) (N := 7) hx hb hts (by decide +kernel) hown hK hM.1 rfl 4 (by decide) (hts (.fieldLink RX4 48 "BellRanksModel" "steps" "I") (by decide +kernel)) (fun _ h9 => h9) rfl dX4_clear_6 ?_
  refine lv_istore_n (lv' := [(1, .int (nI st)), (0, .ref o)]) hx hb dX4_clear_9 rfl hl (by decide) rfl (fun ls hl => ?_)
  refine lv_aload_n hx hb dX4_clear_10 rfl (lv_at hl 1 rfl) ?_
  refine xn_iconst (v := 0) hx hb dX4_clear_11 (by decide) ?_
  refine x_put (v := .int (nI 0)) (ty := .int) (C := RX4) (T := TX4) (N := 7) hx hb hts (by decide +kernel) tyX4 tyX4_ok nmX4 hown hK hM.1 hS (Or.inl rfl) rfl 4 (by decide) (hts (.fieldLink RX4 48 "BellRanksModel" "steps" "I") (by decide +kernel)) (fun _ h9 => h9) rfl (by decide +kernel) rfl rfl (Nat.le_of_ble_eq_true rfl) dX4_clear_12 (fun H1 locs1 hN hz oq hS => ?_)
  have hM : xMo D cI o bk kp 0 n ch 0 rg bf kf H1 := ⟨hN, hM.2.1.kept (oq _ (Ne.symm d1)), hM.2.2.kept (oq _ (Ne.symm d2))⟩
  have hle : sz ≤ H1.size := by rw [hz]; exact hle
  refine lv_iload_n hx hb dX4_clear_15 rfl (lv_at hl 0 rfl) ?_
  refine W.widen (k := 900) (n := 7200) (by omega) (by omega) ?_
  exact x_miret hx hb hr hlocks () (fun _ => rfl) (xMW_mk (S := nClear (n, ch, pm, st, kf, rg)) hM hbr hbb) hS (fun _ h => h) dX4_clear_16

set_option maxRecDepth 100000 in
set_option maxHeartbeats 4000000 in
theorem mRing_ (l : Launch) (D : va_G) (cI cC : ClassId) (o bk kp : Nat) (d1 : o ≠ bk) (d2 : o ≠ kp) (d3 : bk ≠ kp) (t0 : Nat) (S : AS) (hI : AI S) (sz : Nat) (x : Int32) (y : Int32) : Met l yX4_ring wsX4_ring (xRm 20 900 7200) (va_Pc [.ref o, .int x, .int y] (xB D cI cC (fun H => H.size = sz ∧ xMW D cI o bk kp t0 S H))) (xI (fun r (_ : Unit) => tRing S x y = 0 → r = rRing S x y) (fun _ H => xMW D cI o bk kp (tRing S x y) (nRing S x y) H) (xMA o bk kp sz)) 900 7200 (xMA o bk kp sz) := by
  obtain ⟨n, ch, pm, st, kf, rg⟩ := S
  obtain ⟨⟨hn2, hn8⟩, hch, hst, hpm8, hpm, hkv, hkb⟩ := id hI
  dsimp only at hn2 hn8 hch hst hpm8 hpm hkv hkb
  refine Met.ofW (cc := cX4_ring) (maxL := 5) (ret := (some .int)) (by decide) rfl ?_
  intro p e s m args below meth c s₁ B hml hv
  obtain ⟨rfl, hP, hK⟩ := hv
  have hx := B.exec
  have hb := B.bytes
  have hr := B.returns
  have hts := atoms_spec (ws := wsX4_ring) B.pre
  have hown : s.vm.findClass RX4 = some m.cls := findClass_of_methodNamed B.named
  have hlocks := B.notSynchronized
  obtain ⟨hsz, bf, hM, hbr, hbb⟩ := hP
  have hl := lv_entry ([.ref o, .int x, .int y]) (n := 5) (Nat.le_of_ble_eq_true rfl)
  rw [lg_entry_eq]
  generalize (lg_sl ([.ref o, .int x, .int y]) ++ List.replicate (5 - (lg_sl ([.ref o, .int x, .int y])).length) Slot.unset).toArray = ls at hl ⊢
  have hl : lv_has ls 5 [(0, .ref o), (1, .int x), (2, .int y)] := hl
  have hM : xMo D cI o bk kp t0 n ch st rg bf kf s.heap := hM
  have hbr : ∀ k, k < ch → bf k = hrk (pm k) n n := hbr
  have hS : va_S (xMA o bk kp sz) s.heap s.heap [] := va_S.rf
  have hle : sz ≤ s.heap.size := Nat.le_of_eq hsz.symm
  refine lv_aload_n hx hb dX4_ring_0 rfl (lv_at hl 0 rfl) ?_
  refine xn_iconst (v := 0) hx hb dX4_ring_1 (by decide) ?_
  refine x_put (v := .int (nI 0)) (ty := .int) (C := RX4) (T := TX4) (N := 7) hx hb hts (by decide +kernel) tyX4 tyX4_ok nmX4 hown hK hM.1 hS (Or.inl rfl) rfl 0 (by decide) (hts (.fieldLink RX4 20 "BellRanksModel" "thrown" "I") (by decide +kernel)) (fun _ h9 => h9) rfl (by decide +kernel) rfl rfl (Nat.le_of_ble_eq_true rfl) dX4_ring_2 (fun H1 locs1 hN hz oq hS => ?_)
  have hM : xMo D cI o bk kp 0 n ch st rg bf kf H1 := ⟨hN, hM.2.1.kept (oq _ (Ne.symm d1)), hM.2.2.kept (oq _ (Ne.symm d2))⟩
  have hle : sz ≤ H1.size := by rw [hz]; exact hle
  refine lv_aload_n hx hb dX4_ring_5 rfl (lv_at hl 0 rfl) ?_
  refine lv_iload_n hx hb dX4_ring_6 rfl (lv_at hl 1 rfl) ?_
  refine xcV (As := [.int x]) (rest := []) ⟨hx, hb, hml, hown, hts⟩ (cX4_isChange_ l D cI cC o bk kp 0 n ch st rg bf kf (by omega) x) (cwV 1 hts gX4_ring_X4_isChange rfl rfl rfl (by decide +kernel) ⟨Nat.le_of_ble_eq_true rfl, Nat.le_of_ble_eq_true rfl⟩) hK hM (xRecv hK rfl hM.1) rfl hl.1 rfl (Nat.le_of_ble_eq_true rfl) dX4_ring_7 ⟨(by show 0 ≤ 900; omega), (by show 0 ≤ 7200; omega)⟩ (fun x7 e7 => ?_)
  subst e7
  refine xn_if_ne (tgt := 19) hx hb dX4_ring_10 (by decide) (by split <;> decide) (fun c10 => ?_) (fun c10 => ?_)
  · have hi10 := ite_pos1 c10
    refine lv_iload_n hx hb dX4_ring_19 rfl (lv_at hl 2 rfl) ?_
    refine xn_iconst (v := 1) hx hb dX4_ring_20 (by decide) ?_
    refine xn_sipush (v := 200) hx hb dX4_ring_21 (by decide) ?_
    refine xcS (As := [.int y, .int (nI 1), .int (nI 200)]) (rest := []) ⟨hx, hb, hml, hown, hts⟩ (cX4_isIn_ l D cI cC y (nI 1) (nI 200)) (va_cwS 3 hts gX4_ring_X4_isIn rfl rfl rfl (by decide +kernel) ⟨Nat.le_of_ble_eq_true rfl, Nat.le_of_ble_eq_true rfl⟩) hK trivial rfl hl.1 rfl (Nat.le_of_ble_eq_true rfl) dX4_ring_24 ⟨(by show 0 ≤ 900; omega), (by show 0 ≤ 7200; omega)⟩ (fun x24 e24 => ?_)
    subst e24
    refine xz_i (congrArg nI (ite10 (xin_rng (by omega) (by omega)))) ?_
    refine xn_if_ne (tgt := 36) hx hb dX4_ring_27 (by decide) (by split <;> decide) (fun c27 => ?_) (fun c27 => ?_)
    · have hi27 := ite_pos1 c27
      obtain ⟨j1, hj1, hj1b, rfl⟩ := inR_of hi10
      have hl : lv_has ls 5 [(0, .ref o), (1, .int (nI j1)), (2, .int y)] := hl
      obtain ⟨j2, hj2, hj2b, rfl⟩ := inR_of hi27.1
      have hl : lv_has ls 5 [(0, .ref o), (1, .int (nI j1)), (2, .int (nI j2))] := hl
      refine lv_aload_n hx hb dX4_ring_36 rfl (lv_at hl 0 rfl) ?_
      refine x_get (v := .int (nI st)) (C := RX4) (T := TX4) (N := 7) hx hb hts (by decide +kernel) hown hK hM.1 rfl 4 (by decide) (hts (.fieldLink RX4 48 "BellRanksModel" "steps" "I") (by decide +kernel)) (fun _ h9 => h9) rfl dX4_ring_37 ?_
      refine xn_if_ne (tgt := 50) hx hb dX4_ring_40 (by decide) (by omega) (fun c40 => ?_) (fun c40 => ?_)
      · have hst0 : 0 < st := c40
        refine lv_aload_n hx hb dX4_ring_50 rfl (lv_at hl 0 rfl) ?_
        refine lv_aload_n hx hb dX4_ring_51 rfl (lv_at hl 0 rfl) ?_
        refine x_get (v := .ref bk) (C := RX4) (T := TX4) (N := 7) hx hb hts (by decide +kernel) hown hK hM.1 rfl 3 (by decide) (hts (.fieldLink RX4 13 "BellRanksModel" "book" "[I") (by decide +kernel)) (fun _ h9 => h9) rfl dX4_ring_52 ?_
        refine lv_iload_n hx hb dX4_ring_55 rfl (lv_at hl 1 rfl) ?_
        refine x_iald hx hb hK hM.2.1 (by omega) (by decide) dX4_ring_56 ?_
        refine xmR (As := [.int (nI (bf j1))]) (rest := []) ⟨hx, hb, hml, hown, hts⟩ (cX4_row_ l D cI cC o bk kp 0 n ch st rg bf kf _ (by omega) (pm j1) (hpm j1 hj1) (bf j1) (hbr j1 hj1)) (cwV 1 hts gX4_ring_X4_row rfl rfl rfl (by decide +kernel) ⟨Nat.le_of_ble_eq_true rfl, Nat.le_of_ble_eq_true rfl⟩) hK ⟨rfl, hM⟩ (xRecv hK rfl hM.1) rfl hl.1 rfl (Nat.le_of_ble_eq_true rfl) dX4_ring_57 ⟨(by show 0 + 1 ≤ 900; omega), (by show 0 + 8 ≤ 7200; omega)⟩ hS (fun q h => Or.inr (Or.inr (Or.inr (Nat.le_trans hle h)))) (fun q h => Or.inr (Or.inr (Or.inr (Nat.le_trans hle h)))) (fun u57 x57 H1 locs1 hp57 hF57 hz57 hk57 hS => ?_)
        obtain ⟨hq57, hR57⟩ := hF57
        have hno57 : o ≠ x57 := Nat.ne_of_lt (Nat.lt_of_lt_of_le hM.1.lt hq57)
        have hnb57 : bk ≠ x57 := Nat.ne_of_lt (Nat.lt_of_lt_of_le hM.2.1.lt hq57)
        have hnk57 : kp ≠ x57 := Nat.ne_of_lt (Nat.lt_of_lt_of_le hM.2.2.lt hq57)
        have hsx57 : sz ≤ x57 := Nat.le_trans hle hq57
        have hM := xMo_old hM (xk_old hk57)
        have hle : sz ≤ H1.size := Nat.le_trans hle hz57
        refine lv_astore_n (lv' := [(3, .ref x57), (0, .ref o), (1, .int (nI j1)), (2, .int (nI j2))]) hx hb dX4_ring_60 rfl hl (by decide) rfl (fun ls hl => ?_)
        refine xn_iconst (v := 0) hx hb dX4_ring_61 (by decide) ?_
        refine lv_istore (lv' := [(4, .int (nI 0)), (3, .ref x57), (0, .ref o), (1, .int (nI j1)), (2, .int (nI j2))]) hx hb dX4_ring_62 hl (by decide) rfl (fun ls hl => ?_)
        refine x_loopH (σ := Nat) (fun a => j2 - a) (fun a H locs cells slots ls => (a ≤ j2) ∧ (xMo D cI o bk kp 0 n ch st rg bf kf H) ∧ (sz ≤ H.size) ∧ (xRow D cI x57 n (rgs kf st n (pm j1) a) H) ∧ (va_S (xMA o bk kp sz) s.heap H locs) ∧ (cells ≤ 1) ∧ (slots ≤ 8) ∧ lv_has ls 5 [(0, .ref o), (1, .int (nI j1)), (2, .int (nI j2)), (3, .ref x57), (4, .int (nI a))]) ?_ 0 _ _ _ _ ls ⟨(Nat.zero_le _), hM, hle, hR57, hS, (by omega), (by omega), lv_sub hl [2, 3, 4, 1, 0] rfl⟩
        rintro i H locs cells slots ls ⟨h2, hM, hle, hR57, hS, hce, hse, hl⟩ ih64
        
        refine lv_iload hx hb dX4_ring_64 (lv_at hl 4 rfl) ?_
        refine lv_iload_n hx hb dX4_ring_66 rfl (lv_at hl 2 rfl) ?_
        refine xn_icmp_ge (tgt := 83) hx hb dX4_ring_67 (by decide) (by omega) (by omega) (fun c67 => ?_) (fun c67 => ?_)
        · refine lv_aload_n hx hb dX4_ring_83 rfl (lv_at hl 0 rfl) ?_
          refine lv_dup hx hb dX4_ring_84 rfl ?_
          refine x_get (v := .int (nI rg)) (C := RX4) (T := TX4) (N := 7) hx hb hts (by decide +kernel) hown hK hM.1 rfl 6 (by decide) (hts (.fieldLink RX4 91 "BellRanksModel" "rung" "I") (by decide +kernel)) (fun _ h9 => h9) rfl dX4_ring_85 ?_
          refine lv_iload_n hx hb dX4_ring_88 rfl (lv_at hl 2 rfl) ?_
          refine xn_iadd hx hb dX4_ring_89 ?_
          refine x_put (v := .int (nI (rg + j2))) (ty := .int) (C := RX4) (T := TX4) (N := 7) hx hb hts (by decide +kernel) tyX4 tyX4_ok nmX4 hown hK hM.1 hS (Or.inl rfl) rfl 6 (by decide) (hts (.fieldLink RX4 91 "BellRanksModel" "rung" "I") (by decide +kernel)) (fun _ h9 => h9) rfl (by decide +kernel) rfl rfl (Nat.le_of_ble_eq_true rfl) dX4_ring_90 (fun H1 locs1 hN hz oq hS => ?_)
          have hM : xMo D cI o bk kp 0 n ch st (rg + j2) bf kf H1 := ⟨hN, hM.2.1.kept (oq _ (Ne.symm d1)), hM.2.2.kept (oq _ (Ne.symm d2))⟩
          have hR57 : xRow D cI x57 n (rgs kf st n (pm j1) i) H1 := va_at.kept hR57 (oq _ (Ne.symm hno57))
          have hle : sz ≤ H1.size := by rw [hz]; exact hle
          refine lv_aload_n hx hb dX4_ring_93 rfl (lv_at hl 0 rfl) ?_
          refine lv_iload_n hx hb dX4_ring_94 rfl (lv_at hl 1 rfl) ?_
          refine lv_aload_n hx hb dX4_ring_95 rfl (lv_at hl 3 rfl) ?_
          refine xmI (As := [.int (nI j1), .ref x57]) (rest := []) ⟨hx, hb, hml, hown, hts⟩ (cX4_become_ l D cI cC o bk kp 0 n ch st (rg + j2) bf kf d1 d2 d3 x57 (rgs kf st n (pm j1) i) (Ne.symm hnb57) (by omega) (prm_100 (Prm.rgs (hpm j1 hj1) i) hn8) j1 (by omega)) (cwV 2 hts gX4_ring_X4_become rfl rfl rfl (by decide +kernel) ⟨Nat.le_of_ble_eq_true rfl, Nat.le_of_ble_eq_true rfl⟩) hK ⟨hM, hR57⟩ (xRecv hK rfl hM.1) rfl hl.1 rfl (Nat.le_of_ble_eq_true rfl) dX4_ring_96 ⟨(by show cells + 0 ≤ 900; omega), (by show slots + 0 ≤ 7200; omega)⟩ hS (fun q h => Or.inr (Or.inl h)) (fun q h => Or.inr (Or.inl h)) (fun x96 u96 H1 locs1 hp96 hF96 hz96 hk96 hS => ?_)
          have hM : xMo D cI o bk kp 0 n ch st (rg + j2) (va_up bf j1 (hrk (rgs kf st n (pm j1) i) n n)) kf H1 := hF96
          have hle : sz ≤ H1.size := Nat.le_trans hle hz96
          subst hp96
          have ht : tRing (n, ch, pm, st, kf, rg) (nI j1) (nI j2) = 0 := (show (if inR (nI j1) ch then (if inR (nI j2) 201 ∧ 1 ≤ xN (nI j2) then 0 else 2) else 1) = 0 by rw [if_pos hi10, if_pos hi27])
          have hi9 : i = j2 := (by omega)
          rw [hi9] at hM
          have hrg : rgF (n, ch, pm, st, kf, rg) j1 j2 = rgs kf st n (pm j1) j2 := if_neg (show ¬ st = 0 by omega)
          have hnw : nRing (n, ch, pm, st, kf, rg) (nI j1) (nI j2) = (n, ch, va_up pm j1 (rgs kf st n (pm j1) j2), st, kf, rg + j2) := (if_pos ht).trans (by simp only [xN_nI hj1b, xN_nI hj2b, hrg, if_neg (show ¬ st = 0 by omega)])
          refine W.widen (k := 900) (n := 7200) (by omega) (by omega) ?_
          exact x_miret hx hb hr hlocks () (fun _ => by show nI _ = rRing (n, ch, pm, st, kf, rg) (nI j1) (nI j2); unfold rRing; rw [xN_nI hj1b, xN_nI hj2b, hrg, hi9]) (by rw [ht, hnw]; exact xMW_mk (S := (n, ch, va_up pm j1 (rgs kf st n (pm j1) j2), st, kf, rg + j2)) hM (up_rk hbr) (up_bd hbb (hrk_bd hn8))) hS (fun _ h => h) dX4_ring_99
        · refine lv_aload_n hx hb dX4_ring_70 rfl (lv_at hl 0 rfl) ?_
          refine lv_aload_n hx hb dX4_ring_71 rfl (lv_at hl 3 rfl) ?_
          refine lv_iload hx hb dX4_ring_72 (lv_at hl 4 rfl) ?_
          refine xmV (As := [.ref x57, .int (nI i)]) (rest := []) ⟨hx, hb, hml, hown, hts⟩ (cX4_ringStep_ l D cI cC o bk kp 0 n ch st rg bf kf x57 (rgs kf st n (pm j1) i) (by omega) (by omega) hst hkb hno57 hnb57 hnk57 i (by omega) (hkv _ (Nat.mod_lt _ (by omega)))) (cwV 2 hts gX4_ring_X4_ringStep rfl rfl rfl (by decide +kernel) ⟨Nat.le_of_ble_eq_true rfl, Nat.le_of_ble_eq_true rfl⟩) hK ⟨hM, hR57⟩ (xRecv hK rfl hM.1) rfl hl.1 rfl (Nat.le_of_ble_eq_true rfl) dX4_ring_74 ⟨(by show cells + 0 ≤ 900; omega), (by show slots + 0 ≤ 7200; omega)⟩ hS (fun q h => Or.inr (Or.inr (Or.inr (by rw [h]; exact hsx57)))) (fun q h => Or.inr (Or.inr (Or.inr (by rw [h]; exact hsx57)))) (fun u74 H1 locs1 hp74 hF74 hz74 hk74 hS => ?_)
          have hM := xMo_keep hM (hk74 _ hM.1.lt hno57) (hk74 _ hM.2.1.lt hnb57) (hk74 _ hM.2.2.lt hnk57)
          have hR57 : xRow D cI x57 n (rst (kf (i % st)) n n 0 (rgs kf st n (pm j1) i)) H1 := hF74
          have hle : sz ≤ H1.size := Nat.le_trans hle hz74
          refine xn_iinc (v := i + 1) (lv' := [(4, .int (nI (i + 1))), (0, .ref o), (1, .int (nI j1)), (2, .int (nI j2)), (3, .ref x57)]) hx hb dX4_ring_77 hl (k := 4) rfl (xinc1 _) (by decide) rfl (fun ls hl => ?_)
          refine lv_goto (tgt := 64) hx hb dX4_ring_80 (by decide) ?_
          exact ih64 (i + 1) _ _ _ _ ls ⟨(by omega), hM, hle, hR57, hS, hce, hse, lv_sub hl [1, 2, 3, 4, 0] rfl⟩ (by omega)
      · refine lv_aload_n hx hb dX4_ring_43 rfl (lv_at hl 0 rfl) ?_
        refine x_get (v := .ref bk) (C := RX4) (T := TX4) (N := 7) hx hb hts (by decide +kernel) hown hK hM.1 rfl 3 (by decide) (hts (.fieldLink RX4 13 "BellRanksModel" "book" "[I") (by decide +kernel)) (fun _ h9 => h9) rfl dX4_ring_44 ?_
        refine lv_iload_n hx hb dX4_ring_47 rfl (lv_at hl 1 rfl) ?_
        refine x_iald hx hb hK hM.2.1 (by omega) (by decide) dX4_ring_48 ?_
        have ht : tRing (n, ch, pm, st, kf, rg) (nI j1) (nI j2) = 0 := (show (if inR (nI j1) ch then (if inR (nI j2) 201 ∧ 1 ≤ xN (nI j2) then 0 else 2) else 1) = 0 by rw [if_pos hi10, if_pos hi27])
        have hrg : rgF (n, ch, pm, st, kf, rg) j1 j2 = pm j1 := if_pos c40
        have hnw : nRing (n, ch, pm, st, kf, rg) (nI j1) (nI j2) = (n, ch, va_up pm j1 (pm j1), st, kf, rg) := (if_pos ht).trans (by simp only [xN_nI hj1b, xN_nI hj2b, hrg, if_pos c40])
        refine W.widen (k := 900) (n := 7200) (by omega) (by omega) ?_
        exact x_miret hx hb hr hlocks () (fun _ => by show nI (bf j1) = rRing (n, ch, pm, st, kf, rg) (nI j1) (nI j2); unfold rRing; rw [xN_nI hj1b, xN_nI hj2b, hrg, hbr j1 hj1]) (by rw [ht, hnw]; exact xMW_mk (S := (n, ch, va_up pm j1 (pm j1), st, kf, rg)) hM (by rw [va_up_same]; exact hbr) hbb) hS (fun _ h => h) dX4_ring_49
    · have hi27 := ite_zero1 c27
      refine lv_aload_n hx hb dX4_ring_30 rfl (lv_at hl 0 rfl) ?_
      refine xn_iconst (v := 2) hx hb dX4_ring_31 (by decide) ?_
      refine xmI (As := [.int (nI 2)]) (rest := []) ⟨hx, hb, hml, hown, hts⟩ (cX4_no_ l D cI cC o bk kp 0 n ch st rg bf kf d1 d2 d3 2) (cwV 1 hts gX4_ring_X4_no rfl rfl rfl (by decide +kernel) ⟨Nat.le_of_ble_eq_true rfl, Nat.le_of_ble_eq_true rfl⟩) hK hM (xRecv hK rfl hM.1) rfl hl.1 rfl (Nat.le_of_ble_eq_true rfl) dX4_ring_32 ⟨(by show 0 + 0 ≤ 900; omega), (by show 0 + 0 ≤ 7200; omega)⟩ hS (fun q h => Or.inl h) (fun q h => Or.inl h) (fun x32 u32 H1 locs1 hp32 hF32 hz32 hk32 hS => ?_)
      have hM : xMo D cI o bk kp 2 n ch st rg bf kf H1 := hF32
      have hle : sz ≤ H1.size := Nat.le_trans hle hz32
      subst hp32
      have ht : tRing (n, ch, pm, st, kf, rg) x y = 2 := (show (if inR x ch then (if inR y 201 ∧ 1 ≤ xN y then 0 else 2) else 1) = 2 by rw [if_pos hi10, if_neg hi27])
      refine W.widen (k := 900) (n := 7200) (by omega) (by omega) ?_
      exact x_miret hx hb hr hlocks () (fun z => absurd (ht.symm.trans z) (by decide)) (by rw [ht, show nRing (n, ch, pm, st, kf, rg) x y = (n, ch, pm, st, kf, rg) from if_neg (by rw [ht]; decide)]; exact xMW_mk hM hbr hbb) hS (fun _ h => h) dX4_ring_35
  · have hi10 := ite_zero1 c10
    refine lv_aload_n hx hb dX4_ring_13 rfl (lv_at hl 0 rfl) ?_
    refine xn_iconst (v := 1) hx hb dX4_ring_14 (by decide) ?_
    refine xmI (As := [.int (nI 1)]) (rest := []) ⟨hx, hb, hml, hown, hts⟩ (cX4_no_ l D cI cC o bk kp 0 n ch st rg bf kf d1 d2 d3 1) (cwV 1 hts gX4_ring_X4_no rfl rfl rfl (by decide +kernel) ⟨Nat.le_of_ble_eq_true rfl, Nat.le_of_ble_eq_true rfl⟩) hK hM (xRecv hK rfl hM.1) rfl hl.1 rfl (Nat.le_of_ble_eq_true rfl) dX4_ring_15 ⟨(by show 0 + 0 ≤ 900; omega), (by show 0 + 0 ≤ 7200; omega)⟩ hS (fun q h => Or.inl h) (fun q h => Or.inl h) (fun x15 u15 H1 locs1 hp15 hF15 hz15 hk15 hS => ?_)
    have hM : xMo D cI o bk kp 1 n ch st rg bf kf H1 := hF15
    have hle : sz ≤ H1.size := Nat.le_trans hle hz15
    subst hp15
    have ht : tRing (n, ch, pm, st, kf, rg) x y = 1 := (show (if inR x ch then (if inR y 201 ∧ 1 ≤ xN y then 0 else 2) else 1) = 1 by rw [if_neg hi10])
    refine W.widen (k := 900) (n := 7200) (by omega) (by omega) ?_
    exact x_miret hx hb hr hlocks () (fun z => absurd (ht.symm.trans z) (by decide)) (by rw [ht, show nRing (n, ch, pm, st, kf, rg) x y = (n, ch, pm, st, kf, rg) from if_neg (by rw [ht]; decide)]; exact xMW_mk hM hbr hbb) hS (fun _ h => h) dX4_ring_18

set_option maxRecDepth 100000 in
set_option maxHeartbeats 4000000 in
theorem mBell_ (l : Launch) (D : va_G) (cI cC : ClassId) (o bk kp : Nat) (d1 : o ≠ bk) (d2 : o ≠ kp) (d3 : bk ≠ kp) (t0 : Nat) (S : AS) (hI : AI S) (sz : Nat) (x : Int32) (y : Int32) : Met l yX4_bell wsX4_bell (xRm 20 900 7200) (va_Pc [.ref o, .int x, .int y] (xB D cI cC (fun H => H.size = sz ∧ xMW D cI o bk kp t0 S H))) (xI (fun r (_ : Unit) => tBell S x y = 0 → r = rBell S x y) (fun _ H => xMW D cI o bk kp (tBell S x y) (S) H) (xMA o bk kp sz)) 900 7200 (xMA o bk kp sz) := by
  obtain ⟨n, ch, pm, st, kf, rg⟩ := S
  obtain ⟨⟨hn2, hn8⟩, hch, hst, hpm8, hpm, hkv, hkb⟩ := id hI
  dsimp only at hn2 hn8 hch hst hpm8 hpm hkv hkb
  refine Met.ofW (cc := cX4_bell) (maxL := 3) (ret := (some .int)) (by decide) rfl ?_
  intro p e s m args below meth c s₁ B hml hv
  obtain ⟨rfl, hP, hK⟩ := hv
  have hx := B.exec
  have hb := B.bytes
  have hr := B.returns
  have hts := atoms_spec (ws := wsX4_bell) B.pre
  have hown : s.vm.findClass RX4 = some m.cls := findClass_of_methodNamed B.named
  have hlocks := B.notSynchronized
  obtain ⟨hsz, bf, hM, hbr, hbb⟩ := hP
  have hl := lv_entry ([.ref o, .int x, .int y]) (n := 3) (Nat.le_of_ble_eq_true rfl)
  rw [lg_entry_eq]
  generalize (lg_sl ([.ref o, .int x, .int y]) ++ List.replicate (3 - (lg_sl ([.ref o, .int x, .int y])).length) Slot.unset).toArray = ls at hl ⊢
  have hl : lv_has ls 3 [(0, .ref o), (1, .int x), (2, .int y)] := hl
  have hM : xMo D cI o bk kp t0 n ch st rg bf kf s.heap := hM
  have hbr : ∀ k, k < ch → bf k = hrk (pm k) n n := hbr
  have hS : va_S (xMA o bk kp sz) s.heap s.heap [] := va_S.rf
  have hle : sz ≤ s.heap.size := Nat.le_of_eq hsz.symm
  refine lv_aload_n hx hb dX4_bell_0 rfl (lv_at hl 0 rfl) ?_
  refine xn_iconst (v := 0) hx hb dX4_bell_1 (by decide) ?_
  refine x_put (v := .int (nI 0)) (ty := .int) (C := RX4) (T := TX4) (N := 7) hx hb hts (by decide +kernel) tyX4 tyX4_ok nmX4 hown hK hM.1 hS (Or.inl rfl) rfl 0 (by decide) (hts (.fieldLink RX4 20 "BellRanksModel" "thrown" "I") (by decide +kernel)) (fun _ h9 => h9) rfl (by decide +kernel) rfl rfl (Nat.le_of_ble_eq_true rfl) dX4_bell_2 (fun H1 locs1 hN hz oq hS => ?_)
  have hM : xMo D cI o bk kp 0 n ch st rg bf kf H1 := ⟨hN, hM.2.1.kept (oq _ (Ne.symm d1)), hM.2.2.kept (oq _ (Ne.symm d2))⟩
  have hle : sz ≤ H1.size := by rw [hz]; exact hle
  refine lv_aload_n hx hb dX4_bell_5 rfl (lv_at hl 0 rfl) ?_
  refine lv_iload_n hx hb dX4_bell_6 rfl (lv_at hl 1 rfl) ?_
  refine xcV (As := [.int x]) (rest := []) ⟨hx, hb, hml, hown, hts⟩ (cX4_isChange_ l D cI cC o bk kp 0 n ch st rg bf kf (by omega) x) (cwV 1 hts gX4_bell_X4_isChange rfl rfl rfl (by decide +kernel) ⟨Nat.le_of_ble_eq_true rfl, Nat.le_of_ble_eq_true rfl⟩) hK hM (xRecv hK rfl hM.1) rfl hl.1 rfl (Nat.le_of_ble_eq_true rfl) dX4_bell_7 ⟨(by show 0 ≤ 900; omega), (by show 0 ≤ 7200; omega)⟩ (fun x7 e7 => ?_)
  subst e7
  refine xn_if_eq (tgt := 36) hx hb dX4_bell_10 (by decide) (by split <;> decide) (fun c10 => ?_) (fun c10 => ?_)
  · have hi10 := ite_zero1 c10
    refine lv_aload_n hx hb dX4_bell_36 rfl (lv_at hl 0 rfl) ?_
    refine xn_iconst (v := 1) hx hb dX4_bell_37 (by decide) ?_
    refine xmI (As := [.int (nI 1)]) (rest := []) ⟨hx, hb, hml, hown, hts⟩ (cX4_no_ l D cI cC o bk kp 0 n ch st rg bf kf d1 d2 d3 1) (cwV 1 hts gX4_bell_X4_no rfl rfl rfl (by decide +kernel) ⟨Nat.le_of_ble_eq_true rfl, Nat.le_of_ble_eq_true rfl⟩) hK hM (xRecv hK rfl hM.1) rfl hl.1 rfl (Nat.le_of_ble_eq_true rfl) dX4_bell_38 ⟨(by show 0 + 0 ≤ 900; omega), (by show 0 + 0 ≤ 7200; omega)⟩ hS (fun q h => Or.inl h) (fun q h => Or.inl h) (fun x38 u38 H1 locs1 hp38 hF38 hz38 hk38 hS => ?_)
    have hM : xMo D cI o bk kp 1 n ch st rg bf kf H1 := hF38
    have hle : sz ≤ H1.size := Nat.le_trans hle hz38
    subst hp38
    have ht : tBell (n, ch, pm, st, kf, rg) x y = 1 := if_neg (fun z => hi10 z.1)
    refine W.widen (k := 900) (n := 7200) (by omega) (by omega) ?_
    exact x_miret hx hb hr hlocks () (fun z => absurd (ht.symm.trans z) (by decide)) (by rw [ht]; exact xMW_mk (S := (n, ch, pm, st, kf, rg)) hM hbr hbb) hS (fun _ h => h) dX4_bell_41
  · have hi10 := ite_pos1 c10
    refine lv_aload_n hx hb dX4_bell_13 rfl (lv_at hl 0 rfl) ?_
    refine lv_iload_n hx hb dX4_bell_14 rfl (lv_at hl 2 rfl) ?_
    refine xcV (As := [.int y]) (rest := []) ⟨hx, hb, hml, hown, hts⟩ (cX4_isPlace_ l D cI cC o bk kp 0 n ch st rg bf kf (by omega) y) (cwV 1 hts gX4_bell_X4_isPlace rfl rfl rfl (by decide +kernel) ⟨Nat.le_of_ble_eq_true rfl, Nat.le_of_ble_eq_true rfl⟩) hK hM (xRecv hK rfl hM.1) rfl hl.1 rfl (Nat.le_of_ble_eq_true rfl) dX4_bell_15 ⟨(by show 0 ≤ 900; omega), (by show 0 ≤ 7200; omega)⟩ (fun x15 e15 => ?_)
    subst e15
    refine xn_if_eq (tgt := 36) hx hb dX4_bell_18 (by decide) (by split <;> decide) (fun c18 => ?_) (fun c18 => ?_)
    · have hi18 := ite_zero1 c18
      refine lv_aload_n hx hb dX4_bell_36 rfl (lv_at hl 0 rfl) ?_
      refine xn_iconst (v := 1) hx hb dX4_bell_37 (by decide) ?_
      refine xmI (As := [.int (nI 1)]) (rest := []) ⟨hx, hb, hml, hown, hts⟩ (cX4_no_ l D cI cC o bk kp 0 n ch st rg bf kf d1 d2 d3 1) (cwV 1 hts gX4_bell_X4_no rfl rfl rfl (by decide +kernel) ⟨Nat.le_of_ble_eq_true rfl, Nat.le_of_ble_eq_true rfl⟩) hK hM (xRecv hK rfl hM.1) rfl hl.1 rfl (Nat.le_of_ble_eq_true rfl) dX4_bell_38 ⟨(by show 0 + 0 ≤ 900; omega), (by show 0 + 0 ≤ 7200; omega)⟩ hS (fun q h => Or.inl h) (fun q h => Or.inl h) (fun x38 u38 H1 locs1 hp38 hF38 hz38 hk38 hS => ?_)
      have hM : xMo D cI o bk kp 1 n ch st rg bf kf H1 := hF38
      have hle : sz ≤ H1.size := Nat.le_trans hle hz38
      subst hp38
      have ht : tBell (n, ch, pm, st, kf, rg) x y = 1 := if_neg (fun z => hi18 z.2)
      refine W.widen (k := 900) (n := 7200) (by omega) (by omega) ?_
      exact x_miret hx hb hr hlocks () (fun z => absurd (ht.symm.trans z) (by decide)) (by rw [ht]; exact xMW_mk (S := (n, ch, pm, st, kf, rg)) hM hbr hbb) hS (fun _ h => h) dX4_bell_41
    · have hi18 := ite_pos1 c18
      obtain ⟨j1, hj1, hj1b, rfl⟩ := inR_of hi10
      have hl : lv_has ls 3 [(0, .ref o), (1, .int (nI j1)), (2, .int y)] := hl
      obtain ⟨j2, hj2, hj2b, rfl⟩ := inR_of hi18
      have hl : lv_has ls 3 [(0, .ref o), (1, .int (nI j1)), (2, .int (nI j2))] := hl
      refine lv_aload_n hx hb dX4_bell_21 rfl (lv_at hl 0 rfl) ?_
      refine lv_aload_n hx hb dX4_bell_22 rfl (lv_at hl 0 rfl) ?_
      refine x_get (v := .ref bk) (C := RX4) (T := TX4) (N := 7) hx hb hts (by decide +kernel) hown hK hM.1 rfl 3 (by decide) (hts (.fieldLink RX4 13 "BellRanksModel" "book" "[I") (by decide +kernel)) (fun _ h9 => h9) rfl dX4_bell_23 ?_
      refine lv_iload_n hx hb dX4_bell_26 rfl (lv_at hl 1 rfl) ?_
      refine x_iald hx hb hK hM.2.1 (by omega) (by decide) dX4_bell_27 ?_
      refine xmR (As := [.int (nI (bf j1))]) (rest := []) ⟨hx, hb, hml, hown, hts⟩ (cX4_row_ l D cI cC o bk kp 0 n ch st rg bf kf _ (by omega) (pm j1) (hpm j1 hj1) (bf j1) (hbr j1 hj1)) (cwV 1 hts gX4_bell_X4_row rfl rfl rfl (by decide +kernel) ⟨Nat.le_of_ble_eq_true rfl, Nat.le_of_ble_eq_true rfl⟩) hK ⟨rfl, hM⟩ (xRecv hK rfl hM.1) rfl hl.1 rfl (Nat.le_of_ble_eq_true rfl) dX4_bell_28 ⟨(by show 0 + 1 ≤ 900; omega), (by show 0 + 8 ≤ 7200; omega)⟩ hS (fun q h => Or.inr (Or.inr (Or.inr (Nat.le_trans hle h)))) (fun q h => Or.inr (Or.inr (Or.inr (Nat.le_trans hle h)))) (fun u28 x28 H1 locs1 hp28 hF28 hz28 hk28 hS => ?_)
      obtain ⟨hq28, hR28⟩ := hF28
      have hno28 : o ≠ x28 := Nat.ne_of_lt (Nat.lt_of_lt_of_le hM.1.lt hq28)
      have hnb28 : bk ≠ x28 := Nat.ne_of_lt (Nat.lt_of_lt_of_le hM.2.1.lt hq28)
      have hnk28 : kp ≠ x28 := Nat.ne_of_lt (Nat.lt_of_lt_of_le hM.2.2.lt hq28)
      have hsx28 : sz ≤ x28 := Nat.le_trans hle hq28
      have hM := xMo_old hM (xk_old hk28)
      have hle : sz ≤ H1.size := Nat.le_trans hle hz28
      refine lv_iload_n hx hb dX4_bell_31 rfl (lv_at hl 2 rfl) ?_
      refine x_iald hx hb hK hR28 (by omega) (by omega) dX4_bell_32 ?_
      refine lv_goto (tgt := 41) hx hb dX4_bell_33 (by decide) ?_
      have ht : tBell (n, ch, pm, st, kf, rg) (nI j1) (nI j2) = 0 := if_pos ⟨hi10, hi18⟩
      refine W.widen (k := 900) (n := 7200) (by omega) (by omega) ?_
      exact x_miret hx hb hr hlocks () (fun _ => (by show nI _ = rBell (n, ch, pm, st, kf, rg) (nI j1) (nI j2); unfold rBell; simp only [xN_nI hj1b, xN_nI hj2b])) (by rw [ht]; exact xMW_mk (S := (n, ch, pm, st, kf, rg)) hM hbr hbb) hS (fun _ h => h) dX4_bell_41

set_option maxRecDepth 100000 in
set_option maxHeartbeats 4000000 in
theorem mTold_ (l : Launch) (D : va_G) (cI cC : ClassId) (o bk kp : Nat) (d1 : o ≠ bk) (d2 : o ≠ kp) (d3 : bk ≠ kp) (t0 : Nat) (S : AS) (hI : AI S) (sz : Nat) (x : Int32) (y : Int32) : Met l yX4_told wsX4_told (xRm 20 900 7200) (va_Pc [.ref o, .int x, .int y] (xB D cI cC (fun H => H.size = sz ∧ xMW D cI o bk kp t0 S H))) (xI (fun r (_ : Unit) => tTold S x y = 0 → r = rTold S x y) (fun _ H => xMW D cI o bk kp (tTold S x y) (S) H) (xMA o bk kp sz)) 900 7200 (xMA o bk kp sz) := by
  obtain ⟨n, ch, pm, st, kf, rg⟩ := S
  obtain ⟨⟨hn2, hn8⟩, hch, hst, hpm8, hpm, hkv, hkb⟩ := id hI
  dsimp only at hn2 hn8 hch hst hpm8 hpm hkv hkb
  refine Met.ofW (cc := cX4_told) (maxL := 3) (ret := (some .int)) (by decide) rfl ?_
  intro p e s m args below meth c s₁ B hml hv
  obtain ⟨rfl, hP, hK⟩ := hv
  have hx := B.exec
  have hb := B.bytes
  have hr := B.returns
  have hts := atoms_spec (ws := wsX4_told) B.pre
  have hown : s.vm.findClass RX4 = some m.cls := findClass_of_methodNamed B.named
  have hlocks := B.notSynchronized
  obtain ⟨hsz, bf, hM, hbr, hbb⟩ := hP
  have hl := lv_entry ([.ref o, .int x, .int y]) (n := 3) (Nat.le_of_ble_eq_true rfl)
  rw [lg_entry_eq]
  generalize (lg_sl ([.ref o, .int x, .int y]) ++ List.replicate (3 - (lg_sl ([.ref o, .int x, .int y])).length) Slot.unset).toArray = ls at hl ⊢
  have hl : lv_has ls 3 [(0, .ref o), (1, .int x), (2, .int y)] := hl
  have hM : xMo D cI o bk kp t0 n ch st rg bf kf s.heap := hM
  have hbr : ∀ k, k < ch → bf k = hrk (pm k) n n := hbr
  have hS : va_S (xMA o bk kp sz) s.heap s.heap [] := va_S.rf
  have hle : sz ≤ s.heap.size := Nat.le_of_eq hsz.symm
  refine lv_aload_n hx hb dX4_told_0 rfl (lv_at hl 0 rfl) ?_
  refine xn_iconst (v := 0) hx hb dX4_told_1 (by decide) ?_
  refine x_put (v := .int (nI 0)) (ty := .int) (C := RX4) (T := TX4) (N := 7) hx hb hts (by decide +kernel) tyX4 tyX4_ok nmX4 hown hK hM.1 hS (Or.inl rfl) rfl 0 (by decide) (hts (.fieldLink RX4 20 "BellRanksModel" "thrown" "I") (by decide +kernel)) (fun _ h9 => h9) rfl (by decide +kernel) rfl rfl (Nat.le_of_ble_eq_true rfl) dX4_told_2 (fun H1 locs1 hN hz oq hS => ?_)
  have hM : xMo D cI o bk kp 0 n ch st rg bf kf H1 := ⟨hN, hM.2.1.kept (oq _ (Ne.symm d1)), hM.2.2.kept (oq _ (Ne.symm d2))⟩
  have hle : sz ≤ H1.size := by rw [hz]; exact hle
  refine lv_aload_n hx hb dX4_told_5 rfl (lv_at hl 0 rfl) ?_
  refine lv_iload_n hx hb dX4_told_6 rfl (lv_at hl 1 rfl) ?_
  refine xcV (As := [.int x]) (rest := []) ⟨hx, hb, hml, hown, hts⟩ (cX4_isChange_ l D cI cC o bk kp 0 n ch st rg bf kf (by omega) x) (cwV 1 hts gX4_told_X4_isChange rfl rfl rfl (by decide +kernel) ⟨Nat.le_of_ble_eq_true rfl, Nat.le_of_ble_eq_true rfl⟩) hK hM (xRecv hK rfl hM.1) rfl hl.1 rfl (Nat.le_of_ble_eq_true rfl) dX4_told_7 ⟨(by show 0 ≤ 900; omega), (by show 0 ≤ 7200; omega)⟩ (fun x7 e7 => ?_)
  subst e7
  refine xn_if_eq (tgt := 41) hx hb dX4_told_10 (by decide) (by split <;> decide) (fun c10 => ?_) (fun c10 => ?_)
  · have hi10 := ite_zero1 c10
    refine lv_aload_n hx hb dX4_told_41 rfl (lv_at hl 0 rfl) ?_
    refine xn_iconst (v := 1) hx hb dX4_told_42 (by decide) ?_
    refine xmI (As := [.int (nI 1)]) (rest := []) ⟨hx, hb, hml, hown, hts⟩ (cX4_no_ l D cI cC o bk kp 0 n ch st rg bf kf d1 d2 d3 1) (cwV 1 hts gX4_told_X4_no rfl rfl rfl (by decide +kernel) ⟨Nat.le_of_ble_eq_true rfl, Nat.le_of_ble_eq_true rfl⟩) hK hM (xRecv hK rfl hM.1) rfl hl.1 rfl (Nat.le_of_ble_eq_true rfl) dX4_told_43 ⟨(by show 0 + 0 ≤ 900; omega), (by show 0 + 0 ≤ 7200; omega)⟩ hS (fun q h => Or.inl h) (fun q h => Or.inl h) (fun x43 u43 H1 locs1 hp43 hF43 hz43 hk43 hS => ?_)
    have hM : xMo D cI o bk kp 1 n ch st rg bf kf H1 := hF43
    have hle : sz ≤ H1.size := Nat.le_trans hle hz43
    subst hp43
    have ht : tTold (n, ch, pm, st, kf, rg) x y = 1 := if_neg (fun z => hi10 z.1)
    refine W.widen (k := 900) (n := 7200) (by omega) (by omega) ?_
    exact x_miret hx hb hr hlocks () (fun z => absurd (ht.symm.trans z) (by decide)) (by rw [ht]; exact xMW_mk (S := (n, ch, pm, st, kf, rg)) hM hbr hbb) hS (fun _ h => h) dX4_told_46
  · have hi10 := ite_pos1 c10
    refine lv_iload_n hx hb dX4_told_13 rfl (lv_at hl 2 rfl) ?_
    refine xn_iconst (v := 0) hx hb dX4_told_14 (by decide) ?_
    refine xn_bipush (v := 7) hx hb dX4_told_15 (by decide) ?_
    refine xcS (As := [.int y, .int (nI 0), .int (nI 7)]) (rest := []) ⟨hx, hb, hml, hown, hts⟩ (cX4_isIn_ l D cI cC y (nI 0) (nI 7)) (va_cwS 3 hts gX4_told_X4_isIn rfl rfl rfl (by decide +kernel) ⟨Nat.le_of_ble_eq_true rfl, Nat.le_of_ble_eq_true rfl⟩) hK trivial rfl hl.1 rfl (Nat.le_of_ble_eq_true rfl) dX4_told_17 ⟨(by show 0 ≤ 900; omega), (by show 0 ≤ 7200; omega)⟩ (fun x17 e17 => ?_)
    subst e17
    refine xz_i (congrArg nI (ite10 (xin0 (N := 8) (by omega) (by omega)))) ?_
    refine xn_if_eq (tgt := 41) hx hb dX4_told_20 (by decide) (by split <;> decide) (fun c20 => ?_) (fun c20 => ?_)
    · have hi20 := ite_zero1 c20
      refine lv_aload_n hx hb dX4_told_41 rfl (lv_at hl 0 rfl) ?_
      refine xn_iconst (v := 1) hx hb dX4_told_42 (by decide) ?_
      refine xmI (As := [.int (nI 1)]) (rest := []) ⟨hx, hb, hml, hown, hts⟩ (cX4_no_ l D cI cC o bk kp 0 n ch st rg bf kf d1 d2 d3 1) (cwV 1 hts gX4_told_X4_no rfl rfl rfl (by decide +kernel) ⟨Nat.le_of_ble_eq_true rfl, Nat.le_of_ble_eq_true rfl⟩) hK hM (xRecv hK rfl hM.1) rfl hl.1 rfl (Nat.le_of_ble_eq_true rfl) dX4_told_43 ⟨(by show 0 + 0 ≤ 900; omega), (by show 0 + 0 ≤ 7200; omega)⟩ hS (fun q h => Or.inl h) (fun q h => Or.inl h) (fun x43 u43 H1 locs1 hp43 hF43 hz43 hk43 hS => ?_)
      have hM : xMo D cI o bk kp 1 n ch st rg bf kf H1 := hF43
      have hle : sz ≤ H1.size := Nat.le_trans hle hz43
      subst hp43
      have ht : tTold (n, ch, pm, st, kf, rg) x y = 1 := if_neg (fun z => hi20 z.2)
      refine W.widen (k := 900) (n := 7200) (by omega) (by omega) ?_
      exact x_miret hx hb hr hlocks () (fun z => absurd (ht.symm.trans z) (by decide)) (by rw [ht]; exact xMW_mk (S := (n, ch, pm, st, kf, rg)) hM hbr hbb) hS (fun _ h => h) dX4_told_46
    · have hi20 := ite_pos1 c20
      obtain ⟨j1, hj1, hj1b, rfl⟩ := inR_of hi10
      have hl : lv_has ls 3 [(0, .ref o), (1, .int (nI j1)), (2, .int y)] := hl
      obtain ⟨j2, hj2, hj2b, rfl⟩ := inR_of hi20
      have hl : lv_has ls 3 [(0, .ref o), (1, .int (nI j1)), (2, .int (nI j2))] := hl
      refine lv_aload_n hx hb dX4_told_23 rfl (lv_at hl 0 rfl) ?_
      refine lv_aload_n hx hb dX4_told_24 rfl (lv_at hl 0 rfl) ?_
      refine lv_aload_n hx hb dX4_told_25 rfl (lv_at hl 0 rfl) ?_
      refine x_get (v := .ref bk) (C := RX4) (T := TX4) (N := 7) hx hb hts (by decide +kernel) hown hK hM.1 rfl 3 (by decide) (hts (.fieldLink RX4 13 "BellRanksModel" "book" "[I") (by decide +kernel)) (fun _ h9 => h9) rfl dX4_told_26 ?_
      refine lv_iload_n hx hb dX4_told_29 rfl (lv_at hl 1 rfl) ?_
      refine x_iald hx hb hK hM.2.1 (by omega) (by decide) dX4_told_30 ?_
      refine xmR (As := [.int (nI (bf j1))]) (rest := [.ref o]) ⟨hx, hb, hml, hown, hts⟩ (cX4_row_ l D cI cC o bk kp 0 n ch st rg bf kf _ (by omega) (pm j1) (hpm j1 hj1) (bf j1) (hbr j1 hj1)) (cwV 1 hts gX4_told_X4_row rfl rfl rfl (by decide +kernel) ⟨Nat.le_of_ble_eq_true rfl, Nat.le_of_ble_eq_true rfl⟩) hK ⟨rfl, hM⟩ (xRecv hK rfl hM.1) rfl hl.1 rfl (Nat.le_of_ble_eq_true rfl) dX4_told_31 ⟨(by show 0 + 1 ≤ 900; omega), (by show 0 + 8 ≤ 7200; omega)⟩ hS (fun q h => Or.inr (Or.inr (Or.inr (Nat.le_trans hle h)))) (fun q h => Or.inr (Or.inr (Or.inr (Nat.le_trans hle h)))) (fun u31 x31 H1 locs1 hp31 hF31 hz31 hk31 hS => ?_)
      obtain ⟨hq31, hR31⟩ := hF31
      have hno31 : o ≠ x31 := Nat.ne_of_lt (Nat.lt_of_lt_of_le hM.1.lt hq31)
      have hnb31 : bk ≠ x31 := Nat.ne_of_lt (Nat.lt_of_lt_of_le hM.2.1.lt hq31)
      have hnk31 : kp ≠ x31 := Nat.ne_of_lt (Nat.lt_of_lt_of_le hM.2.2.lt hq31)
      have hsx31 : sz ≤ x31 := Nat.le_trans hle hq31
      have hM := xMo_old hM (xk_old hk31)
      have hle : sz ≤ H1.size := Nat.le_trans hle hz31
      refine lv_iload_n hx hb dX4_told_34 rfl (lv_at hl 2 rfl) ?_
      refine xmI (As := [.ref x31, .int (nI j2)]) (rest := []) ⟨hx, hb, hml, hown, hts⟩ (cX4_toldOf_ l D cI cC o bk kp 0 n ch st rg bf kf _ x31 (pm j1) (by omega) (by omega) (hpm j1 hj1) (prm_100 (hpm j1 hj1) hn8) j2 (by omega)) (cwV 2 hts gX4_told_X4_toldOf rfl rfl rfl (by decide +kernel) ⟨Nat.le_of_ble_eq_true rfl, Nat.le_of_ble_eq_true rfl⟩) hK ⟨rfl, hM, hR31⟩ (xRecv hK rfl hM.1) rfl hl.1 rfl (Nat.le_of_ble_eq_true rfl) dX4_told_35 ⟨(by show 0 + 1 + 1 ≤ 900; omega), (by show 0 + 8 + 8 ≤ 7200; omega)⟩ hS (fun q h => Or.inr (Or.inr (Or.inr (Nat.le_trans hle h)))) (fun q h => Or.inr (Or.inr (Or.inr (Nat.le_trans hle h)))) (fun x35 u35 H1 locs1 hp35 hF35 hz35 hk35 hS => ?_)
      have hM := xMo_old hM (xk_old hk35)
      have hR31 : xRow D cI x31 n (pm j1) H1 := xat_old hR31 (xk_old hk35)
      have hle : sz ≤ H1.size := Nat.le_trans hle hz35
      subst hp35
      refine lv_goto (tgt := 46) hx hb dX4_told_38 (by decide) ?_
      have ht : tTold (n, ch, pm, st, kf, rg) (nI j1) (nI j2) = 0 := if_pos ⟨hi10, hi20⟩
      refine W.widen (k := 900) (n := 7200) (by omega) (by omega) ?_
      exact x_miret hx hb hr hlocks () (fun _ => (by show nI _ = rTold (n, ch, pm, st, kf, rg) (nI j1) (nI j2); unfold rTold; simp only [xN_nI hj1b, xN_nI hj2b])) (by rw [ht]; exact xMW_mk (S := (n, ch, pm, st, kf, rg)) hM hbr hbb) hS (fun _ h => h) dX4_told_46

set_option maxRecDepth 100000 in
set_option maxHeartbeats 4000000 in
theorem mRound_ (l : Launch) (D : va_G) (cI cC : ClassId) (o bk kp : Nat) (d1 : o ≠ bk) (d2 : o ≠ kp) (d3 : bk ≠ kp) (t0 : Nat) (S : AS) (hI : AI S) (sz : Nat) (x : Int32) (y : Int32) : Met l yX4_round wsX4_round (xRm 20 900 7200) (va_Pc [.ref o, .int x, .int y] (xB D cI cC (fun H => H.size = sz ∧ xMW D cI o bk kp t0 S H))) (xI (fun r (_ : Unit) => tBell S x y = 0 → r = rRound S x y) (fun _ H => xMW D cI o bk kp (tBell S x y) (S) H) (xMA o bk kp sz)) 900 7200 (xMA o bk kp sz) := by
  obtain ⟨n, ch, pm, st, kf, rg⟩ := S
  obtain ⟨⟨hn2, hn8⟩, hch, hst, hpm8, hpm, hkv, hkb⟩ := id hI
  dsimp only at hn2 hn8 hch hst hpm8 hpm hkv hkb
  refine Met.ofW (cc := cX4_round) (maxL := 3) (ret := (some .int)) (by decide) rfl ?_
  intro p e s m args below meth c s₁ B hml hv
  obtain ⟨rfl, hP, hK⟩ := hv
  have hx := B.exec
  have hb := B.bytes
  have hr := B.returns
  have hts := atoms_spec (ws := wsX4_round) B.pre
  have hown : s.vm.findClass RX4 = some m.cls := findClass_of_methodNamed B.named
  have hlocks := B.notSynchronized
  obtain ⟨hsz, bf, hM, hbr, hbb⟩ := hP
  have hl := lv_entry ([.ref o, .int x, .int y]) (n := 3) (Nat.le_of_ble_eq_true rfl)
  rw [lg_entry_eq]
  generalize (lg_sl ([.ref o, .int x, .int y]) ++ List.replicate (3 - (lg_sl ([.ref o, .int x, .int y])).length) Slot.unset).toArray = ls at hl ⊢
  have hl : lv_has ls 3 [(0, .ref o), (1, .int x), (2, .int y)] := hl
  have hM : xMo D cI o bk kp t0 n ch st rg bf kf s.heap := hM
  have hbr : ∀ k, k < ch → bf k = hrk (pm k) n n := hbr
  have hS : va_S (xMA o bk kp sz) s.heap s.heap [] := va_S.rf
  have hle : sz ≤ s.heap.size := Nat.le_of_eq hsz.symm
  refine lv_aload_n hx hb dX4_round_0 rfl (lv_at hl 0 rfl) ?_
  refine xn_iconst (v := 0) hx hb dX4_round_1 (by decide) ?_
  refine x_put (v := .int (nI 0)) (ty := .int) (C := RX4) (T := TX4) (N := 7) hx hb hts (by decide +kernel) tyX4 tyX4_ok nmX4 hown hK hM.1 hS (Or.inl rfl) rfl 0 (by decide) (hts (.fieldLink RX4 20 "BellRanksModel" "thrown" "I") (by decide +kernel)) (fun _ h9 => h9) rfl (by decide +kernel) rfl rfl (Nat.le_of_ble_eq_true rfl) dX4_round_2 (fun H1 locs1 hN hz oq hS => ?_)
  have hM : xMo D cI o bk kp 0 n ch st rg bf kf H1 := ⟨hN, hM.2.1.kept (oq _ (Ne.symm d1)), hM.2.2.kept (oq _ (Ne.symm d2))⟩
  have hle : sz ≤ H1.size := by rw [hz]; exact hle
  refine lv_aload_n hx hb dX4_round_5 rfl (lv_at hl 0 rfl) ?_
  refine lv_iload_n hx hb dX4_round_6 rfl (lv_at hl 1 rfl) ?_
  refine xcV (As := [.int x]) (rest := []) ⟨hx, hb, hml, hown, hts⟩ (cX4_isChange_ l D cI cC o bk kp 0 n ch st rg bf kf (by omega) x) (cwV 1 hts gX4_round_X4_isChange rfl rfl rfl (by decide +kernel) ⟨Nat.le_of_ble_eq_true rfl, Nat.le_of_ble_eq_true rfl⟩) hK hM (xRecv hK rfl hM.1) rfl hl.1 rfl (Nat.le_of_ble_eq_true rfl) dX4_round_7 ⟨(by show 0 ≤ 900; omega), (by show 0 ≤ 7200; omega)⟩ (fun x7 e7 => ?_)
  subst e7
  refine xn_if_eq (tgt := 39) hx hb dX4_round_10 (by decide) (by split <;> decide) (fun c10 => ?_) (fun c10 => ?_)
  · have hi10 := ite_zero1 c10
    refine lv_aload_n hx hb dX4_round_39 rfl (lv_at hl 0 rfl) ?_
    refine xn_iconst (v := 1) hx hb dX4_round_40 (by decide) ?_
    refine xmI (As := [.int (nI 1)]) (rest := []) ⟨hx, hb, hml, hown, hts⟩ (cX4_no_ l D cI cC o bk kp 0 n ch st rg bf kf d1 d2 d3 1) (cwV 1 hts gX4_round_X4_no rfl rfl rfl (by decide +kernel) ⟨Nat.le_of_ble_eq_true rfl, Nat.le_of_ble_eq_true rfl⟩) hK hM (xRecv hK rfl hM.1) rfl hl.1 rfl (Nat.le_of_ble_eq_true rfl) dX4_round_41 ⟨(by show 0 + 0 ≤ 900; omega), (by show 0 + 0 ≤ 7200; omega)⟩ hS (fun q h => Or.inl h) (fun q h => Or.inl h) (fun x41 u41 H1 locs1 hp41 hF41 hz41 hk41 hS => ?_)
    have hM : xMo D cI o bk kp 1 n ch st rg bf kf H1 := hF41
    have hle : sz ≤ H1.size := Nat.le_trans hle hz41
    subst hp41
    have ht : tBell (n, ch, pm, st, kf, rg) x y = 1 := if_neg (fun z => hi10 z.1)
    refine W.widen (k := 900) (n := 7200) (by omega) (by omega) ?_
    exact x_miret hx hb hr hlocks () (fun z => absurd (ht.symm.trans z) (by decide)) (by rw [ht]; exact xMW_mk (S := (n, ch, pm, st, kf, rg)) hM hbr hbb) hS (fun _ h => h) dX4_round_44
  · have hi10 := ite_pos1 c10
    refine lv_aload_n hx hb dX4_round_13 rfl (lv_at hl 0 rfl) ?_
    refine lv_iload_n hx hb dX4_round_14 rfl (lv_at hl 2 rfl) ?_
    refine xcV (As := [.int y]) (rest := []) ⟨hx, hb, hml, hown, hts⟩ (cX4_isPlace_ l D cI cC o bk kp 0 n ch st rg bf kf (by omega) y) (cwV 1 hts gX4_round_X4_isPlace rfl rfl rfl (by decide +kernel) ⟨Nat.le_of_ble_eq_true rfl, Nat.le_of_ble_eq_true rfl⟩) hK hM (xRecv hK rfl hM.1) rfl hl.1 rfl (Nat.le_of_ble_eq_true rfl) dX4_round_15 ⟨(by show 0 ≤ 900; omega), (by show 0 ≤ 7200; omega)⟩ (fun x15 e15 => ?_)
    subst e15
    refine xn_if_eq (tgt := 39) hx hb dX4_round_18 (by decide) (by split <;> decide) (fun c18 => ?_) (fun c18 => ?_)
    · have hi18 := ite_zero1 c18
      refine lv_aload_n hx hb dX4_round_39 rfl (lv_at hl 0 rfl) ?_
      refine xn_iconst (v := 1) hx hb dX4_round_40 (by decide) ?_
      refine xmI (As := [.int (nI 1)]) (rest := []) ⟨hx, hb, hml, hown, hts⟩ (cX4_no_ l D cI cC o bk kp 0 n ch st rg bf kf d1 d2 d3 1) (cwV 1 hts gX4_round_X4_no rfl rfl rfl (by decide +kernel) ⟨Nat.le_of_ble_eq_true rfl, Nat.le_of_ble_eq_true rfl⟩) hK hM (xRecv hK rfl hM.1) rfl hl.1 rfl (Nat.le_of_ble_eq_true rfl) dX4_round_41 ⟨(by show 0 + 0 ≤ 900; omega), (by show 0 + 0 ≤ 7200; omega)⟩ hS (fun q h => Or.inl h) (fun q h => Or.inl h) (fun x41 u41 H1 locs1 hp41 hF41 hz41 hk41 hS => ?_)
      have hM : xMo D cI o bk kp 1 n ch st rg bf kf H1 := hF41
      have hle : sz ≤ H1.size := Nat.le_trans hle hz41
      subst hp41
      have ht : tBell (n, ch, pm, st, kf, rg) x y = 1 := if_neg (fun z => hi18 z.2)
      refine W.widen (k := 900) (n := 7200) (by omega) (by omega) ?_
      exact x_miret hx hb hr hlocks () (fun z => absurd (ht.symm.trans z) (by decide)) (by rw [ht]; exact xMW_mk (S := (n, ch, pm, st, kf, rg)) hM hbr hbb) hS (fun _ h => h) dX4_round_44
    · have hi18 := ite_pos1 c18
      obtain ⟨j1, hj1, hj1b, rfl⟩ := inR_of hi10
      have hl : lv_has ls 3 [(0, .ref o), (1, .int (nI j1)), (2, .int y)] := hl
      obtain ⟨j2, hj2, hj2b, rfl⟩ := inR_of hi18
      have hl : lv_has ls 3 [(0, .ref o), (1, .int (nI j1)), (2, .int (nI j2))] := hl
      refine lv_aload_n hx hb dX4_round_21 rfl (lv_at hl 0 rfl) ?_
      refine lv_aload_n hx hb dX4_round_22 rfl (lv_at hl 0 rfl) ?_
      refine lv_aload_n hx hb dX4_round_23 rfl (lv_at hl 0 rfl) ?_
      refine x_get (v := .ref bk) (C := RX4) (T := TX4) (N := 7) hx hb hts (by decide +kernel) hown hK hM.1 rfl 3 (by decide) (hts (.fieldLink RX4 13 "BellRanksModel" "book" "[I") (by decide +kernel)) (fun _ h9 => h9) rfl dX4_round_24 ?_
      refine lv_iload_n hx hb dX4_round_27 rfl (lv_at hl 1 rfl) ?_
      refine x_iald hx hb hK hM.2.1 (by omega) (by decide) dX4_round_28 ?_
      refine xmR (As := [.int (nI (bf j1))]) (rest := [.ref o]) ⟨hx, hb, hml, hown, hts⟩ (cX4_row_ l D cI cC o bk kp 0 n ch st rg bf kf _ (by omega) (pm j1) (hpm j1 hj1) (bf j1) (hbr j1 hj1)) (cwV 1 hts gX4_round_X4_row rfl rfl rfl (by decide +kernel) ⟨Nat.le_of_ble_eq_true rfl, Nat.le_of_ble_eq_true rfl⟩) hK ⟨rfl, hM⟩ (xRecv hK rfl hM.1) rfl hl.1 rfl (Nat.le_of_ble_eq_true rfl) dX4_round_29 ⟨(by show 0 + 1 ≤ 900; omega), (by show 0 + 8 ≤ 7200; omega)⟩ hS (fun q h => Or.inr (Or.inr (Or.inr (Nat.le_trans hle h)))) (fun q h => Or.inr (Or.inr (Or.inr (Nat.le_trans hle h)))) (fun u29 x29 H1 locs1 hp29 hF29 hz29 hk29 hS => ?_)
      obtain ⟨hq29, hR29⟩ := hF29
      have hno29 : o ≠ x29 := Nat.ne_of_lt (Nat.lt_of_lt_of_le hM.1.lt hq29)
      have hnb29 : bk ≠ x29 := Nat.ne_of_lt (Nat.lt_of_lt_of_le hM.2.1.lt hq29)
      have hnk29 : kp ≠ x29 := Nat.ne_of_lt (Nat.lt_of_lt_of_le hM.2.2.lt hq29)
      have hsx29 : sz ≤ x29 := Nat.le_trans hle hq29
      have hM := xMo_old hM (xk_old hk29)
      have hle : sz ≤ H1.size := Nat.le_trans hle hz29
      refine lv_iload_n hx hb dX4_round_32 rfl (lv_at hl 2 rfl) ?_
      refine xcV (As := [.ref x29, .int (nI j2)]) (rest := []) ⟨hx, hb, hml, hown, hts⟩ (cX4_ringOf_ l D cI cC o bk kp 0 n ch st rg bf kf x29 (pm j1) (by omega) (hpm j1 hj1) j2 (by omega)) (cwV 2 hts gX4_round_X4_ringOf rfl rfl rfl (by decide +kernel) ⟨Nat.le_of_ble_eq_true rfl, Nat.le_of_ble_eq_true rfl⟩) hK ⟨hM, hR29⟩ (xRecv hK rfl hM.1) rfl hl.1 rfl (Nat.le_of_ble_eq_true rfl) dX4_round_33 ⟨(by show 0 + 1 ≤ 900; omega), (by show 0 + 8 ≤ 7200; omega)⟩ (fun x33 e33 => ?_)
      subst e33
      refine lv_goto (tgt := 44) hx hb dX4_round_36 (by decide) ?_
      have ht : tBell (n, ch, pm, st, kf, rg) (nI j1) (nI j2) = 0 := if_pos ⟨hi10, hi18⟩
      refine W.widen (k := 900) (n := 7200) (by omega) (by omega) ?_
      exact x_miret hx hb hr hlocks () (fun _ => (by show nI _ = rRound (n, ch, pm, st, kf, rg) (nI j1) (nI j2); unfold rRound; simp only [xN_nI hj1b, xN_nI hj2b])) (by rw [ht]; exact xMW_mk (S := (n, ch, pm, st, kf, rg)) hM hbr hbb) hS (fun _ h => h) dX4_round_44

set_option maxRecDepth 100000 in
set_option maxHeartbeats 4000000 in
theorem mApart_ (l : Launch) (D : va_G) (cI cC : ClassId) (o bk kp : Nat) (d1 : o ≠ bk) (d2 : o ≠ kp) (d3 : bk ≠ kp) (t0 : Nat) (S : AS) (hI : AI S) (sz : Nat) (x : Int32) (y : Int32) : Met l yX4_apart wsX4_apart (xRm 20 900 7200) (va_Pc [.ref o, .int x, .int y] (xB D cI cC (fun H => H.size = sz ∧ xMW D cI o bk kp t0 S H))) (xI (fun r (_ : Unit) => tTwo S x y = 0 → r = rApart S x y) (fun _ H => xMW D cI o bk kp (tTwo S x y) (S) H) (xMA o bk kp sz)) 900 7200 (xMA o bk kp sz) := by
  obtain ⟨n, ch, pm, st, kf, rg⟩ := S
  obtain ⟨⟨hn2, hn8⟩, hch, hst, hpm8, hpm, hkv, hkb⟩ := id hI
  dsimp only at hn2 hn8 hch hst hpm8 hpm hkv hkb
  refine Met.ofW (cc := cX4_apart) (maxL := 3) (ret := (some .int)) (by decide) rfl ?_
  intro p e s m args below meth c s₁ B hml hv
  obtain ⟨rfl, hP, hK⟩ := hv
  have hx := B.exec
  have hb := B.bytes
  have hr := B.returns
  have hts := atoms_spec (ws := wsX4_apart) B.pre
  have hown : s.vm.findClass RX4 = some m.cls := findClass_of_methodNamed B.named
  have hlocks := B.notSynchronized
  obtain ⟨hsz, bf, hM, hbr, hbb⟩ := hP
  have hl := lv_entry ([.ref o, .int x, .int y]) (n := 3) (Nat.le_of_ble_eq_true rfl)
  rw [lg_entry_eq]
  generalize (lg_sl ([.ref o, .int x, .int y]) ++ List.replicate (3 - (lg_sl ([.ref o, .int x, .int y])).length) Slot.unset).toArray = ls at hl ⊢
  have hl : lv_has ls 3 [(0, .ref o), (1, .int x), (2, .int y)] := hl
  have hM : xMo D cI o bk kp t0 n ch st rg bf kf s.heap := hM
  have hbr : ∀ k, k < ch → bf k = hrk (pm k) n n := hbr
  have hS : va_S (xMA o bk kp sz) s.heap s.heap [] := va_S.rf
  have hle : sz ≤ s.heap.size := Nat.le_of_eq hsz.symm
  refine lv_aload_n hx hb dX4_apart_0 rfl (lv_at hl 0 rfl) ?_
  refine xn_iconst (v := 0) hx hb dX4_apart_1 (by decide) ?_
  refine x_put (v := .int (nI 0)) (ty := .int) (C := RX4) (T := TX4) (N := 7) hx hb hts (by decide +kernel) tyX4 tyX4_ok nmX4 hown hK hM.1 hS (Or.inl rfl) rfl 0 (by decide) (hts (.fieldLink RX4 20 "BellRanksModel" "thrown" "I") (by decide +kernel)) (fun _ h9 => h9) rfl (by decide +kernel) rfl rfl (Nat.le_of_ble_eq_true rfl) dX4_apart_2 (fun H1 locs1 hN hz oq hS => ?_)
  have hM : xMo D cI o bk kp 0 n ch st rg bf kf H1 := ⟨hN, hM.2.1.kept (oq _ (Ne.symm d1)), hM.2.2.kept (oq _ (Ne.symm d2))⟩
  have hle : sz ≤ H1.size := by rw [hz]; exact hle
  refine lv_aload_n hx hb dX4_apart_5 rfl (lv_at hl 0 rfl) ?_
  refine lv_iload_n hx hb dX4_apart_6 rfl (lv_at hl 1 rfl) ?_
  refine xcV (As := [.int x]) (rest := []) ⟨hx, hb, hml, hown, hts⟩ (cX4_isChange_ l D cI cC o bk kp 0 n ch st rg bf kf (by omega) x) (cwV 1 hts gX4_apart_X4_isChange rfl rfl rfl (by decide +kernel) ⟨Nat.le_of_ble_eq_true rfl, Nat.le_of_ble_eq_true rfl⟩) hK hM (xRecv hK rfl hM.1) rfl hl.1 rfl (Nat.le_of_ble_eq_true rfl) dX4_apart_7 ⟨(by show 0 ≤ 900; omega), (by show 0 ≤ 7200; omega)⟩ (fun x7 e7 => ?_)
  subst e7
  refine xn_if_eq (tgt := 21) hx hb dX4_apart_10 (by decide) (by split <;> decide) (fun c10 => ?_) (fun c10 => ?_)
  · have hi10 := ite_zero1 c10
    refine lv_aload_n hx hb dX4_apart_21 rfl (lv_at hl 0 rfl) ?_
    refine xn_iconst (v := 1) hx hb dX4_apart_22 (by decide) ?_
    refine xmI (As := [.int (nI 1)]) (rest := []) ⟨hx, hb, hml, hown, hts⟩ (cX4_no_ l D cI cC o bk kp 0 n ch st rg bf kf d1 d2 d3 1) (cwV 1 hts gX4_apart_X4_no rfl rfl rfl (by decide +kernel) ⟨Nat.le_of_ble_eq_true rfl, Nat.le_of_ble_eq_true rfl⟩) hK hM (xRecv hK rfl hM.1) rfl hl.1 rfl (Nat.le_of_ble_eq_true rfl) dX4_apart_23 ⟨(by show 0 + 0 ≤ 900; omega), (by show 0 + 0 ≤ 7200; omega)⟩ hS (fun q h => Or.inl h) (fun q h => Or.inl h) (fun x23 u23 H1 locs1 hp23 hF23 hz23 hk23 hS => ?_)
    have hM : xMo D cI o bk kp 1 n ch st rg bf kf H1 := hF23
    have hle : sz ≤ H1.size := Nat.le_trans hle hz23
    subst hp23
    have ht : tTwo (n, ch, pm, st, kf, rg) x y = 1 := if_neg (fun z => hi10 z.1)
    refine W.widen (k := 900) (n := 7200) (by omega) (by omega) ?_
    exact x_miret hx hb hr hlocks () (fun z => absurd (ht.symm.trans z) (by decide)) (by rw [ht]; exact xMW_mk (S := (n, ch, pm, st, kf, rg)) hM hbr hbb) hS (fun _ h => h) dX4_apart_26
  · have hi10 := ite_pos1 c10
    refine lv_aload_n hx hb dX4_apart_13 rfl (lv_at hl 0 rfl) ?_
    refine lv_iload_n hx hb dX4_apart_14 rfl (lv_at hl 2 rfl) ?_
    refine xcV (As := [.int y]) (rest := []) ⟨hx, hb, hml, hown, hts⟩ (cX4_isChange_ l D cI cC o bk kp 0 n ch st rg bf kf (by omega) y) (cwV 1 hts gX4_apart_X4_isChange rfl rfl rfl (by decide +kernel) ⟨Nat.le_of_ble_eq_true rfl, Nat.le_of_ble_eq_true rfl⟩) hK hM (xRecv hK rfl hM.1) rfl hl.1 rfl (Nat.le_of_ble_eq_true rfl) dX4_apart_15 ⟨(by show 0 ≤ 900; omega), (by show 0 ≤ 7200; omega)⟩ (fun x15 e15 => ?_)
    subst e15
    refine xn_if_ne (tgt := 27) hx hb dX4_apart_18 (by decide) (by split <;> decide) (fun c18 => ?_) (fun c18 => ?_)
    · have hi18 := ite_pos1 c18
      obtain ⟨j1, hj1, hj1b, rfl⟩ := inR_of hi10
      have hl : lv_has ls 3 [(0, .ref o), (1, .int (nI j1)), (2, .int y)] := hl
      obtain ⟨j2, hj2, hj2b, rfl⟩ := inR_of hi18
      have hl : lv_has ls 3 [(0, .ref o), (1, .int (nI j1)), (2, .int (nI j2))] := hl
      refine lv_aload_n hx hb dX4_apart_27 rfl (lv_at hl 0 rfl) ?_
      refine lv_aload_n hx hb dX4_apart_28 rfl (lv_at hl 0 rfl) ?_
      refine lv_aload_n hx hb dX4_apart_29 rfl (lv_at hl 0 rfl) ?_
      refine lv_aload_n hx hb dX4_apart_30 rfl (lv_at hl 0 rfl) ?_
      refine lv_aload_n hx hb dX4_apart_31 rfl (lv_at hl 0 rfl) ?_
      refine x_get (v := .ref bk) (C := RX4) (T := TX4) (N := 7) hx hb hts (by decide +kernel) hown hK hM.1 rfl 3 (by decide) (hts (.fieldLink RX4 13 "BellRanksModel" "book" "[I") (by decide +kernel)) (fun _ h9 => h9) rfl dX4_apart_32 ?_
      refine lv_iload_n hx hb dX4_apart_35 rfl (lv_at hl 2 rfl) ?_
      refine x_iald hx hb hK hM.2.1 (by omega) (by decide) dX4_apart_36 ?_
      refine xmR (As := [.int (nI (bf j2))]) (rest := [.ref o, .ref o, .ref o]) ⟨hx, hb, hml, hown, hts⟩ (cX4_row_ l D cI cC o bk kp 0 n ch st rg bf kf _ (by omega) (pm j2) (hpm j2 hj2) (bf j2) (hbr j2 hj2)) (cwV 1 hts gX4_apart_X4_row rfl rfl rfl (by decide +kernel) ⟨Nat.le_of_ble_eq_true rfl, Nat.le_of_ble_eq_true rfl⟩) hK ⟨rfl, hM⟩ (xRecv hK rfl hM.1) rfl hl.1 rfl (Nat.le_of_ble_eq_true rfl) dX4_apart_37 ⟨(by show 0 + 1 ≤ 900; omega), (by show 0 + 8 ≤ 7200; omega)⟩ hS (fun q h => Or.inr (Or.inr (Or.inr (Nat.le_trans hle h)))) (fun q h => Or.inr (Or.inr (Or.inr (Nat.le_trans hle h)))) (fun u37 x37 H1 locs1 hp37 hF37 hz37 hk37 hS => ?_)
      obtain ⟨hq37, hR37⟩ := hF37
      have hno37 : o ≠ x37 := Nat.ne_of_lt (Nat.lt_of_lt_of_le hM.1.lt hq37)
      have hnb37 : bk ≠ x37 := Nat.ne_of_lt (Nat.lt_of_lt_of_le hM.2.1.lt hq37)
      have hnk37 : kp ≠ x37 := Nat.ne_of_lt (Nat.lt_of_lt_of_le hM.2.2.lt hq37)
      have hsx37 : sz ≤ x37 := Nat.le_trans hle hq37
      have hM := xMo_old hM (xk_old hk37)
      have hle : sz ≤ H1.size := Nat.le_trans hle hz37
      refine xmR (As := [.ref x37]) (rest := [.ref o, .ref o]) ⟨hx, hb, hml, hown, hts⟩ (cX4_backRow_ l D cI cC o bk kp 0 n ch st rg bf kf _ (by omega) x37 (pm j2) (prm_lt (hpm j2 hj2))) (cwV 1 hts gX4_apart_X4_backRow rfl rfl rfl (by decide +kernel) ⟨Nat.le_of_ble_eq_true rfl, Nat.le_of_ble_eq_true rfl⟩) hK ⟨rfl, hM, hR37⟩ (xRecv hK rfl hM.1) rfl hl.1 rfl (Nat.le_of_ble_eq_true rfl) dX4_apart_40 ⟨(by show 0 + 1 + 1 ≤ 900; omega), (by show 0 + 8 + 8 ≤ 7200; omega)⟩ hS (fun q h => Or.inr (Or.inr (Or.inr (Nat.le_trans hle h)))) (fun q h => Or.inr (Or.inr (Or.inr (Nat.le_trans hle h)))) (fun u40 x40 H1 locs1 hp40 hF40 hz40 hk40 hS => ?_)
      obtain ⟨hq40, hR40⟩ := hF40
      have hno40 : o ≠ x40 := Nat.ne_of_lt (Nat.lt_of_lt_of_le hM.1.lt hq40)
      have hnb40 : bk ≠ x40 := Nat.ne_of_lt (Nat.lt_of_lt_of_le hM.2.1.lt hq40)
      have hnk40 : kp ≠ x40 := Nat.ne_of_lt (Nat.lt_of_lt_of_le hM.2.2.lt hq40)
      have hnhR37hR40 : x37 ≠ x40 := Nat.ne_of_lt (Nat.lt_of_lt_of_le (va_at.lt hR37) hq40)
      have hsx40 : sz ≤ x40 := Nat.le_trans hle hq40
      have hM := xMo_old hM (xk_old hk40)
      have hR37 : xRow D cI x37 n (pm j2) H1 := xat_old hR37 (xk_old hk40)
      have hle : sz ≤ H1.size := Nat.le_trans hle hz40
      refine lv_aload_n hx hb dX4_apart_43 rfl (lv_at hl 0 rfl) ?_
      refine lv_aload_n hx hb dX4_apart_44 rfl (lv_at hl 0 rfl) ?_
      refine x_get (v := .ref bk) (C := RX4) (T := TX4) (N := 7) hx hb hts (by decide +kernel) hown hK hM.1 rfl 3 (by decide) (hts (.fieldLink RX4 13 "BellRanksModel" "book" "[I") (by decide +kernel)) (fun _ h9 => h9) rfl dX4_apart_45 ?_
      refine lv_iload_n hx hb dX4_apart_48 rfl (lv_at hl 1 rfl) ?_
      refine x_iald hx hb hK hM.2.1 (by omega) (by decide) dX4_apart_49 ?_
      refine xmR (As := [.int (nI (bf j1))]) (rest := [.ref x40, .ref o, .ref o]) ⟨hx, hb, hml, hown, hts⟩ (cX4_row_ l D cI cC o bk kp 0 n ch st rg bf kf _ (by omega) (pm j1) (hpm j1 hj1) (bf j1) (hbr j1 hj1)) (cwV 1 hts gX4_apart_X4_row rfl rfl rfl (by decide +kernel) ⟨Nat.le_of_ble_eq_true rfl, Nat.le_of_ble_eq_true rfl⟩) hK ⟨rfl, hM⟩ (xRecv hK rfl hM.1) rfl hl.1 rfl (Nat.le_of_ble_eq_true rfl) dX4_apart_50 ⟨(by show 0 + 1 + 1 + 1 ≤ 900; omega), (by show 0 + 8 + 8 + 8 ≤ 7200; omega)⟩ hS (fun q h => Or.inr (Or.inr (Or.inr (Nat.le_trans hle h)))) (fun q h => Or.inr (Or.inr (Or.inr (Nat.le_trans hle h)))) (fun u50 x50 H1 locs1 hp50 hF50 hz50 hk50 hS => ?_)
      obtain ⟨hq50, hR50⟩ := hF50
      have hno50 : o ≠ x50 := Nat.ne_of_lt (Nat.lt_of_lt_of_le hM.1.lt hq50)
      have hnb50 : bk ≠ x50 := Nat.ne_of_lt (Nat.lt_of_lt_of_le hM.2.1.lt hq50)
      have hnk50 : kp ≠ x50 := Nat.ne_of_lt (Nat.lt_of_lt_of_le hM.2.2.lt hq50)
      have hnhR37hR50 : x37 ≠ x50 := Nat.ne_of_lt (Nat.lt_of_lt_of_le (va_at.lt hR37) hq50)
      have hnhR40hR50 : x40 ≠ x50 := Nat.ne_of_lt (Nat.lt_of_lt_of_le (va_at.lt hR40) hq50)
      have hsx50 : sz ≤ x50 := Nat.le_trans hle hq50
      have hM := xMo_old hM (xk_old hk50)
      have hR37 : xRow D cI x37 n (pm j2) H1 := xat_old hR37 (xk_old hk50)
      have hR40 : xRow D cI x40 n (bck (fun _ => 0) (pm j2) n) H1 := xat_old hR40 (xk_old hk50)
      have hle : sz ≤ H1.size := Nat.le_trans hle hz50
      refine xmR (As := [.ref x40, .ref x50]) (rest := [.ref o]) ⟨hx, hb, hml, hown, hts⟩ (cX4_behindRow_ l D cI cC o bk kp 0 n ch st rg bf kf _ (by omega) x40 x50 (bck (fun _ => 0) (pm j2) n) (pm j1) (prm_lt (hpm j1 hj1))) (cwV 2 hts gX4_apart_X4_behindRow rfl rfl rfl (by decide +kernel) ⟨Nat.le_of_ble_eq_true rfl, Nat.le_of_ble_eq_true rfl⟩) hK ⟨rfl, hM, hR40, hR50⟩ (xRecv hK rfl hM.1) rfl hl.1 rfl (Nat.le_of_ble_eq_true rfl) dX4_apart_53 ⟨(by show 0 + 1 + 1 + 1 + 1 ≤ 900; omega), (by show 0 + 8 + 8 + 8 + 8 ≤ 7200; omega)⟩ hS (fun q h => Or.inr (Or.inr (Or.inr (Nat.le_trans hle h)))) (fun q h => Or.inr (Or.inr (Or.inr (Nat.le_trans hle h)))) (fun u53 x53 H1 locs1 hp53 hF53 hz53 hk53 hS => ?_)
      obtain ⟨hq53, hR53⟩ := hF53
      have hno53 : o ≠ x53 := Nat.ne_of_lt (Nat.lt_of_lt_of_le hM.1.lt hq53)
      have hnb53 : bk ≠ x53 := Nat.ne_of_lt (Nat.lt_of_lt_of_le hM.2.1.lt hq53)
      have hnk53 : kp ≠ x53 := Nat.ne_of_lt (Nat.lt_of_lt_of_le hM.2.2.lt hq53)
      have hnhR37hR53 : x37 ≠ x53 := Nat.ne_of_lt (Nat.lt_of_lt_of_le (va_at.lt hR37) hq53)
      have hnhR40hR53 : x40 ≠ x53 := Nat.ne_of_lt (Nat.lt_of_lt_of_le (va_at.lt hR40) hq53)
      have hnhR50hR53 : x50 ≠ x53 := Nat.ne_of_lt (Nat.lt_of_lt_of_le (va_at.lt hR50) hq53)
      have hsx53 : sz ≤ x53 := Nat.le_trans hle hq53
      have hM := xMo_old hM (xk_old hk53)
      have hR37 : xRow D cI x37 n (pm j2) H1 := xat_old hR37 (xk_old hk53)
      have hR40 : xRow D cI x40 n (bck (fun _ => 0) (pm j2) n) H1 := xat_old hR40 (xk_old hk53)
      have hR50 : xRow D cI x50 n (pm j1) H1 := xat_old hR50 (xk_old hk53)
      have hle : sz ≤ H1.size := Nat.le_trans hle hz53
      refine xcV (As := [.ref x53]) (rest := []) ⟨hx, hb, hml, hown, hts⟩ (cX4_inversions_ l D cI cC o bk kp 0 n ch st rg bf kf x53 (fun x9 => (bck (fun _ => 0) (pm j2) n) (pm j1 x9)) (by omega) (prm_100 (Prm.comp (Prm.bck (hpm j2 hj2)) (hpm j1 hj1)) hn8)) (cwV 1 hts gX4_apart_X4_inversions rfl rfl rfl (by decide +kernel) ⟨Nat.le_of_ble_eq_true rfl, Nat.le_of_ble_eq_true rfl⟩) hK ⟨hM, hR53⟩ (xRecv hK rfl hM.1) rfl hl.1 rfl (Nat.le_of_ble_eq_true rfl) dX4_apart_56 ⟨(by show 0 + 1 + 1 + 1 + 1 ≤ 900; omega), (by show 0 + 8 + 8 + 8 + 8 ≤ 7200; omega)⟩ (fun x56 e56 => ?_)
      subst e56
      have ht : tTwo (n, ch, pm, st, kf, rg) (nI j1) (nI j2) = 0 := if_pos ⟨hi10, hi18⟩
      refine W.widen (k := 900) (n := 7200) (by omega) (by omega) ?_
      exact x_miret hx hb hr hlocks () (fun _ => (by show nI _ = rApart (n, ch, pm, st, kf, rg) (nI j1) (nI j2); unfold rApart; simp only [xN_nI hj1b, xN_nI hj2b]; exact congrArg nI (ivs_congr (fun i hi => bck_inv (hpm j2 hj2) ((hpm j1 hj1).1 i hi))))) (by rw [ht]; exact xMW_mk (S := (n, ch, pm, st, kf, rg)) hM hbr hbb) hS (fun _ h => h) dX4_apart_59
    · have hi18 := ite_zero1 c18
      refine lv_aload_n hx hb dX4_apart_21 rfl (lv_at hl 0 rfl) ?_
      refine xn_iconst (v := 1) hx hb dX4_apart_22 (by decide) ?_
      refine xmI (As := [.int (nI 1)]) (rest := []) ⟨hx, hb, hml, hown, hts⟩ (cX4_no_ l D cI cC o bk kp 0 n ch st rg bf kf d1 d2 d3 1) (cwV 1 hts gX4_apart_X4_no rfl rfl rfl (by decide +kernel) ⟨Nat.le_of_ble_eq_true rfl, Nat.le_of_ble_eq_true rfl⟩) hK hM (xRecv hK rfl hM.1) rfl hl.1 rfl (Nat.le_of_ble_eq_true rfl) dX4_apart_23 ⟨(by show 0 + 0 ≤ 900; omega), (by show 0 + 0 ≤ 7200; omega)⟩ hS (fun q h => Or.inl h) (fun q h => Or.inl h) (fun x23 u23 H1 locs1 hp23 hF23 hz23 hk23 hS => ?_)
      have hM : xMo D cI o bk kp 1 n ch st rg bf kf H1 := hF23
      have hle : sz ≤ H1.size := Nat.le_trans hle hz23
      subst hp23
      have ht : tTwo (n, ch, pm, st, kf, rg) x y = 1 := if_neg (fun z => hi18 z.2)
      refine W.widen (k := 900) (n := 7200) (by omega) (by omega) ?_
      exact x_miret hx hb hr hlocks () (fun z => absurd (ht.symm.trans z) (by decide)) (by rw [ht]; exact xMW_mk (S := (n, ch, pm, st, kf, rg)) hM hbr hbb) hS (fun _ h => h) dX4_apart_26

set_option maxRecDepth 100000 in
set_option maxHeartbeats 4000000 in
theorem mCount_ (l : Launch) (D : va_G) (cI cC : ClassId) (o bk kp : Nat) (d1 : o ≠ bk) (d2 : o ≠ kp) (d3 : bk ≠ kp) (t0 : Nat) (S : AS) (hI : AI S) (sz : Nat) (x : Int32) : Met l yX4_count wsX4_count (xRm 20 900 7200) (va_Pc [.ref o, .int x] (xB D cI cC (fun H => H.size = sz ∧ xMW D cI o bk kp t0 S H))) (xI (fun r (_ : Unit) => tCount S x = 0 → r = rCount S x) (fun _ H => xMW D cI o bk kp (tCount S x) (S) H) (xMA o bk kp sz)) 900 7200 (xMA o bk kp sz) := by
  obtain ⟨n, ch, pm, st, kf, rg⟩ := S
  obtain ⟨⟨hn2, hn8⟩, hch, hst, hpm8, hpm, hkv, hkb⟩ := id hI
  dsimp only at hn2 hn8 hch hst hpm8 hpm hkv hkb
  refine Met.ofW (cc := cX4_count) (maxL := 2) (ret := (some .int)) (by decide) rfl ?_
  intro p e s m args below meth c s₁ B hml hv
  obtain ⟨rfl, hP, hK⟩ := hv
  have hx := B.exec
  have hb := B.bytes
  have hr := B.returns
  have hts := atoms_spec (ws := wsX4_count) B.pre
  have hown : s.vm.findClass RX4 = some m.cls := findClass_of_methodNamed B.named
  have hlocks := B.notSynchronized
  obtain ⟨hsz, bf, hM, hbr, hbb⟩ := hP
  have hl := lv_entry ([.ref o, .int x]) (n := 2) (Nat.le_of_ble_eq_true rfl)
  rw [lg_entry_eq]
  generalize (lg_sl ([.ref o, .int x]) ++ List.replicate (2 - (lg_sl ([.ref o, .int x])).length) Slot.unset).toArray = ls at hl ⊢
  have hl : lv_has ls 2 [(0, .ref o), (1, .int x)] := hl
  have hM : xMo D cI o bk kp t0 n ch st rg bf kf s.heap := hM
  have hbr : ∀ k, k < ch → bf k = hrk (pm k) n n := hbr
  have hS : va_S (xMA o bk kp sz) s.heap s.heap [] := va_S.rf
  have hle : sz ≤ s.heap.size := Nat.le_of_eq hsz.symm
  refine lv_aload_n hx hb dX4_count_0 rfl (lv_at hl 0 rfl) ?_
  refine xn_iconst (v := 0) hx hb dX4_count_1 (by decide) ?_
  refine x_put (v := .int (nI 0)) (ty := .int) (C := RX4) (T := TX4) (N := 7) hx hb hts (by decide +kernel) tyX4 tyX4_ok nmX4 hown hK hM.1 hS (Or.inl rfl) rfl 0 (by decide) (hts (.fieldLink RX4 20 "BellRanksModel" "thrown" "I") (by decide +kernel)) (fun _ h9 => h9) rfl (by decide +kernel) rfl rfl (Nat.le_of_ble_eq_true rfl) dX4_count_2 (fun H1 locs1 hN hz oq hS => ?_)
  have hM : xMo D cI o bk kp 0 n ch st rg bf kf H1 := ⟨hN, hM.2.1.kept (oq _ (Ne.symm d1)), hM.2.2.kept (oq _ (Ne.symm d2))⟩
  have hle : sz ≤ H1.size := by rw [hz]; exact hle
  refine lv_iload_n hx hb dX4_count_5 rfl (lv_at hl 1 rfl) ?_
  refine xn_iconst (v := 0) hx hb dX4_count_6 (by decide) ?_
  refine xn_iconst (v := 5) hx hb dX4_count_7 (by decide) ?_
  refine xcS (As := [.int x, .int (nI 0), .int (nI 5)]) (rest := []) ⟨hx, hb, hml, hown, hts⟩ (cX4_isIn_ l D cI cC x (nI 0) (nI 5)) (va_cwS 3 hts gX4_count_X4_isIn rfl rfl rfl (by decide +kernel) ⟨Nat.le_of_ble_eq_true rfl, Nat.le_of_ble_eq_true rfl⟩) hK trivial rfl hl.1 rfl (Nat.le_of_ble_eq_true rfl) dX4_count_8 ⟨(by show 0 ≤ 900; omega), (by show 0 ≤ 7200; omega)⟩ (fun x8 e8 => ?_)
  subst e8
  refine xz_i (congrArg nI (ite10 (xin0 (N := 6) (by omega) (by omega)))) ?_
  refine xn_if_eq (tgt := 22) hx hb dX4_count_11 (by decide) (by split <;> decide) (fun c11 => ?_) (fun c11 => ?_)
  · have hi11 := ite_zero1 c11
    refine lv_aload_n hx hb dX4_count_22 rfl (lv_at hl 0 rfl) ?_
    refine xn_iconst (v := 1) hx hb dX4_count_23 (by decide) ?_
    refine xmI (As := [.int (nI 1)]) (rest := []) ⟨hx, hb, hml, hown, hts⟩ (cX4_no_ l D cI cC o bk kp 0 n ch st rg bf kf d1 d2 d3 1) (cwV 1 hts gX4_count_X4_no rfl rfl rfl (by decide +kernel) ⟨Nat.le_of_ble_eq_true rfl, Nat.le_of_ble_eq_true rfl⟩) hK hM (xRecv hK rfl hM.1) rfl hl.1 rfl (Nat.le_of_ble_eq_true rfl) dX4_count_24 ⟨(by show 0 + 0 ≤ 900; omega), (by show 0 + 0 ≤ 7200; omega)⟩ hS (fun q h => Or.inl h) (fun q h => Or.inl h) (fun x24 u24 H1 locs1 hp24 hF24 hz24 hk24 hS => ?_)
    have hM : xMo D cI o bk kp 1 n ch st rg bf kf H1 := hF24
    have hle : sz ≤ H1.size := Nat.le_trans hle hz24
    subst hp24
    have ht : tCount (n, ch, pm, st, kf, rg) x = 1 := if_neg hi11
    refine W.widen (k := 900) (n := 7200) (by omega) (by omega) ?_
    exact x_miret hx hb hr hlocks () (fun z => absurd (ht.symm.trans z) (by decide)) (by rw [ht]; exact xMW_mk (S := (n, ch, pm, st, kf, rg)) hM hbr hbb) hS (fun _ h => h) dX4_count_27
  · have hi11 := ite_pos1 c11
    obtain ⟨j1, hj1, hj1b, rfl⟩ := inR_of hi11
    have hl : lv_has ls 2 [(0, .ref o), (1, .int (nI j1))] := hl
    refine lv_aload_n hx hb dX4_count_14 rfl (lv_at hl 0 rfl) ?_
    refine lv_iload_n hx hb dX4_count_15 rfl (lv_at hl 1 rfl) ?_
    refine xcV (As := [.int (nI j1)]) (rest := []) ⟨hx, hb, hml, hown, hts⟩ (cX4_counted_ l D cI cC o bk kp 0 n ch st rg bf kf (by omega) (by omega) (fun i => Nat.lt_trans (hbb i) (by decide)) j1 (by omega)) (cwV 1 hts gX4_count_X4_counted rfl rfl rfl (by decide +kernel) ⟨Nat.le_of_ble_eq_true rfl, Nat.le_of_ble_eq_true rfl⟩) hK hM (xRecv hK rfl hM.1) rfl hl.1 rfl (Nat.le_of_ble_eq_true rfl) dX4_count_16 ⟨(by show 0 ≤ 900; omega), (by show 0 ≤ 7200; omega)⟩ (fun x16 e16 => ?_)
    subst e16
    refine lv_goto (tgt := 27) hx hb dX4_count_19 (by decide) ?_
    have ht : tCount (n, ch, pm, st, kf, rg) (nI j1) = 0 := if_pos hi11
    refine W.widen (k := 900) (n := 7200) (by omega) (by omega) ?_
    exact x_miret hx hb hr hlocks () (fun _ => (by show nI _ = rCount (n, ch, pm, st, kf, rg) (nI j1); unfold rCount; simp only [xN_nI hj1b]; exact congrArg nI (by show cvl n ch st rg _ j1 = cvl n ch st rg (dsS (n, ch, pm, st, kf, rg)) j1; rw [show sm (nwf bf) ch = dsS (n, ch, pm, st, kf, rg) from nwf_congr hbr]))) (by rw [ht]; exact xMW_mk (S := (n, ch, pm, st, kf, rg)) hM hbr hbb) hS (fun _ h => h) dX4_count_27

set_option maxRecDepth 100000 in
set_option maxHeartbeats 4000000 in
theorem mKept_ (l : Launch) (D : va_G) (cI cC : ClassId) (o bk kp : Nat) (d1 : o ≠ bk) (d2 : o ≠ kp) (d3 : bk ≠ kp) (t0 : Nat) (S : AS) (hI : AI S) (sz : Nat) (x : Int32) : Met l yX4_kept wsX4_kept (xRm 20 900 7200) (va_Pc [.ref o, .int x] (xB D cI cC (fun H => H.size = sz ∧ xMW D cI o bk kp t0 S H))) (xI (fun r (_ : Unit) => tKept S x = 0 → r = rKept S x) (fun _ H => xMW D cI o bk kp (tKept S x) (S) H) (xMA o bk kp sz)) 900 7200 (xMA o bk kp sz) := by
  obtain ⟨n, ch, pm, st, kf, rg⟩ := S
  obtain ⟨⟨hn2, hn8⟩, hch, hst, hpm8, hpm, hkv, hkb⟩ := id hI
  dsimp only at hn2 hn8 hch hst hpm8 hpm hkv hkb
  refine Met.ofW (cc := cX4_kept) (maxL := 2) (ret := (some .int)) (by decide) rfl ?_
  intro p e s m args below meth c s₁ B hml hv
  obtain ⟨rfl, hP, hK⟩ := hv
  have hx := B.exec
  have hb := B.bytes
  have hr := B.returns
  have hts := atoms_spec (ws := wsX4_kept) B.pre
  have hown : s.vm.findClass RX4 = some m.cls := findClass_of_methodNamed B.named
  have hlocks := B.notSynchronized
  obtain ⟨hsz, bf, hM, hbr, hbb⟩ := hP
  have hl := lv_entry ([.ref o, .int x]) (n := 2) (Nat.le_of_ble_eq_true rfl)
  rw [lg_entry_eq]
  generalize (lg_sl ([.ref o, .int x]) ++ List.replicate (2 - (lg_sl ([.ref o, .int x])).length) Slot.unset).toArray = ls at hl ⊢
  have hl : lv_has ls 2 [(0, .ref o), (1, .int x)] := hl
  have hM : xMo D cI o bk kp t0 n ch st rg bf kf s.heap := hM
  have hbr : ∀ k, k < ch → bf k = hrk (pm k) n n := hbr
  have hS : va_S (xMA o bk kp sz) s.heap s.heap [] := va_S.rf
  have hle : sz ≤ s.heap.size := Nat.le_of_eq hsz.symm
  refine lv_aload_n hx hb dX4_kept_0 rfl (lv_at hl 0 rfl) ?_
  refine xn_iconst (v := 0) hx hb dX4_kept_1 (by decide) ?_
  refine x_put (v := .int (nI 0)) (ty := .int) (C := RX4) (T := TX4) (N := 7) hx hb hts (by decide +kernel) tyX4 tyX4_ok nmX4 hown hK hM.1 hS (Or.inl rfl) rfl 0 (by decide) (hts (.fieldLink RX4 20 "BellRanksModel" "thrown" "I") (by decide +kernel)) (fun _ h9 => h9) rfl (by decide +kernel) rfl rfl (Nat.le_of_ble_eq_true rfl) dX4_kept_2 (fun H1 locs1 hN hz oq hS => ?_)
  have hM : xMo D cI o bk kp 0 n ch st rg bf kf H1 := ⟨hN, hM.2.1.kept (oq _ (Ne.symm d1)), hM.2.2.kept (oq _ (Ne.symm d2))⟩
  have hle : sz ≤ H1.size := by rw [hz]; exact hle
  refine lv_iload_n hx hb dX4_kept_5 rfl (lv_at hl 1 rfl) ?_
  refine xn_iconst (v := 0) hx hb dX4_kept_6 (by decide) ?_
  refine lv_aload_n hx hb dX4_kept_7 rfl (lv_at hl 0 rfl) ?_
  refine x_get (v := .int (nI st)) (C := RX4) (T := TX4) (N := 7) hx hb hts (by decide +kernel) hown hK hM.1 rfl 4 (by decide) (hts (.fieldLink RX4 48 "BellRanksModel" "steps" "I") (by decide +kernel)) (fun _ h9 => h9) rfl dX4_kept_8 ?_
  refine xn_iconst (v := 1) hx hb dX4_kept_11 (by decide) ?_
  refine lv_isub hx hb dX4_kept_12 ?_
  refine xcS (As := [.int x, .int (nI 0), .int (nI st - nI 1)]) (rest := []) ⟨hx, hb, hml, hown, hts⟩ (cX4_isIn_ l D cI cC x (nI 0) (nI st - nI 1)) (va_cwS 3 hts gX4_kept_X4_isIn rfl rfl rfl (by decide +kernel) ⟨Nat.le_of_ble_eq_true rfl, Nat.le_of_ble_eq_true rfl⟩) hK trivial rfl hl.1 rfl (Nat.le_of_ble_eq_true rfl) dX4_kept_13 ⟨(by show 0 ≤ 900; omega), (by show 0 ≤ 7200; omega)⟩ (fun x13 e13 => ?_)
  subst e13
  refine xz_i (congrArg nI (ite10 (inR_in (by omega)))) ?_
  refine xn_if_eq (tgt := 28) hx hb dX4_kept_16 (by decide) (by split <;> decide) (fun c16 => ?_) (fun c16 => ?_)
  · have hi16 := ite_zero1 c16
    refine lv_aload_n hx hb dX4_kept_28 rfl (lv_at hl 0 rfl) ?_
    refine xn_iconst (v := 1) hx hb dX4_kept_29 (by decide) ?_
    refine xmI (As := [.int (nI 1)]) (rest := []) ⟨hx, hb, hml, hown, hts⟩ (cX4_no_ l D cI cC o bk kp 0 n ch st rg bf kf d1 d2 d3 1) (cwV 1 hts gX4_kept_X4_no rfl rfl rfl (by decide +kernel) ⟨Nat.le_of_ble_eq_true rfl, Nat.le_of_ble_eq_true rfl⟩) hK hM (xRecv hK rfl hM.1) rfl hl.1 rfl (Nat.le_of_ble_eq_true rfl) dX4_kept_30 ⟨(by show 0 + 0 ≤ 900; omega), (by show 0 + 0 ≤ 7200; omega)⟩ hS (fun q h => Or.inl h) (fun q h => Or.inl h) (fun x30 u30 H1 locs1 hp30 hF30 hz30 hk30 hS => ?_)
    have hM : xMo D cI o bk kp 1 n ch st rg bf kf H1 := hF30
    have hle : sz ≤ H1.size := Nat.le_trans hle hz30
    subst hp30
    have ht : tKept (n, ch, pm, st, kf, rg) x = 1 := if_neg hi16
    refine W.widen (k := 900) (n := 7200) (by omega) (by omega) ?_
    exact x_miret hx hb hr hlocks () (fun z => absurd (ht.symm.trans z) (by decide)) (by rw [ht]; exact xMW_mk (S := (n, ch, pm, st, kf, rg)) hM hbr hbb) hS (fun _ h => h) dX4_kept_33
  · have hi16 := ite_pos1 c16
    obtain ⟨j1, hj1, hj1b, rfl⟩ := inR_of hi16
    have hl : lv_has ls 2 [(0, .ref o), (1, .int (nI j1))] := hl
    refine lv_aload_n hx hb dX4_kept_19 rfl (lv_at hl 0 rfl) ?_
    refine x_get (v := .ref kp) (C := RX4) (T := TX4) (N := 7) hx hb hts (by decide +kernel) hown hK hM.1 rfl 5 (by decide) (hts (.fieldLink RX4 17 "BellRanksModel" "kept" "[I") (by decide +kernel)) (fun _ h9 => h9) rfl dX4_kept_20 ?_
    refine lv_iload_n hx hb dX4_kept_23 rfl (lv_at hl 1 rfl) ?_
    refine x_iald hx hb hK hM.2.2 (by omega) (by decide) dX4_kept_24 ?_
    refine lv_goto (tgt := 33) hx hb dX4_kept_25 (by decide) ?_
    have ht : tKept (n, ch, pm, st, kf, rg) (nI j1) = 0 := if_pos hi16
    refine W.widen (k := 900) (n := 7200) (by omega) (by omega) ?_
    exact x_miret hx hb hr hlocks () (fun _ => (by show nI _ = rKept (n, ch, pm, st, kf, rg) (nI j1); unfold rKept; simp only [xN_nI hj1b])) (by rw [ht]; exact xMW_mk (S := (n, ch, pm, st, kf, rg)) hM hbr hbb) hS (fun _ h => h) dX4_kept_33

set_option maxRecDepth 100000 in
set_option maxHeartbeats 4000000 in
theorem mComes_ (l : Launch) (D : va_G) (cI cC : ClassId) (o bk kp : Nat) (d1 : o ≠ bk) (d2 : o ≠ kp) (d3 : bk ≠ kp) (t0 : Nat) (S : AS) (hI : AI S) (sz : Nat) (x : Int32) : Met l yX4_comes wsX4_comes (xRm 20 900 7200) (va_Pc [.ref o, .int x] (xB D cI cC (fun H => H.size = sz ∧ xMW D cI o bk kp t0 S H))) (xI (fun r (_ : Unit) => tIn S x = 0 → r = rComes S x) (fun _ H => xMW D cI o bk kp (tIn S x) (S) H) (xMA o bk kp sz)) 900 7200 (xMA o bk kp sz) := by
  obtain ⟨n, ch, pm, st, kf, rg⟩ := S
  obtain ⟨⟨hn2, hn8⟩, hch, hst, hpm8, hpm, hkv, hkb⟩ := id hI
  dsimp only at hn2 hn8 hch hst hpm8 hpm hkv hkb
  refine Met.ofW (cc := cX4_comes) (maxL := 4) (ret := (some .int)) (by decide) rfl ?_
  intro p e s m args below meth c s₁ B hml hv
  obtain ⟨rfl, hP, hK⟩ := hv
  have hx := B.exec
  have hb := B.bytes
  have hr := B.returns
  have hts := atoms_spec (ws := wsX4_comes) B.pre
  have hown : s.vm.findClass RX4 = some m.cls := findClass_of_methodNamed B.named
  have hlocks := B.notSynchronized
  obtain ⟨hsz, bf, hM, hbr, hbb⟩ := hP
  have hl := lv_entry ([.ref o, .int x]) (n := 4) (Nat.le_of_ble_eq_true rfl)
  rw [lg_entry_eq]
  generalize (lg_sl ([.ref o, .int x]) ++ List.replicate (4 - (lg_sl ([.ref o, .int x])).length) Slot.unset).toArray = ls at hl ⊢
  have hl : lv_has ls 4 [(0, .ref o), (1, .int x)] := hl
  have hM : xMo D cI o bk kp t0 n ch st rg bf kf s.heap := hM
  have hbr : ∀ k, k < ch → bf k = hrk (pm k) n n := hbr
  have hS : va_S (xMA o bk kp sz) s.heap s.heap [] := va_S.rf
  have hle : sz ≤ s.heap.size := Nat.le_of_eq hsz.symm
  refine lv_aload_n hx hb dX4_comes_0 rfl (lv_at hl 0 rfl) ?_
  refine xn_iconst (v := 0) hx hb dX4_comes_1 (by decide) ?_
  refine x_put (v := .int (nI 0)) (ty := .int) (C := RX4) (T := TX4) (N := 7) hx hb hts (by decide +kernel) tyX4 tyX4_ok nmX4 hown hK hM.1 hS (Or.inl rfl) rfl 0 (by decide) (hts (.fieldLink RX4 20 "BellRanksModel" "thrown" "I") (by decide +kernel)) (fun _ h9 => h9) rfl (by decide +kernel) rfl rfl (Nat.le_of_ble_eq_true rfl) dX4_comes_2 (fun H1 locs1 hN hz oq hS => ?_)
  have hM : xMo D cI o bk kp 0 n ch st rg bf kf H1 := ⟨hN, hM.2.1.kept (oq _ (Ne.symm d1)), hM.2.2.kept (oq _ (Ne.symm d2))⟩
  have hle : sz ≤ H1.size := by rw [hz]; exact hle
  refine lv_aload_n hx hb dX4_comes_5 rfl (lv_at hl 0 rfl) ?_
  refine lv_iload_n hx hb dX4_comes_6 rfl (lv_at hl 1 rfl) ?_
  refine xcV (As := [.int x]) (rest := []) ⟨hx, hb, hml, hown, hts⟩ (cX4_isChange_ l D cI cC o bk kp 0 n ch st rg bf kf (by omega) x) (cwV 1 hts gX4_comes_X4_isChange rfl rfl rfl (by decide +kernel) ⟨Nat.le_of_ble_eq_true rfl, Nat.le_of_ble_eq_true rfl⟩) hK hM (xRecv hK rfl hM.1) rfl hl.1 rfl (Nat.le_of_ble_eq_true rfl) dX4_comes_7 ⟨(by show 0 ≤ 900; omega), (by show 0 ≤ 7200; omega)⟩ (fun x7 e7 => ?_)
  subst e7
  refine xn_if_ne (tgt := 19) hx hb dX4_comes_10 (by decide) (by split <;> decide) (fun c10 => ?_) (fun c10 => ?_)
  · have hi10 := ite_pos1 c10
    obtain ⟨j1, hj1, hj1b, rfl⟩ := inR_of hi10
    have hl : lv_has ls 4 [(0, .ref o), (1, .int (nI j1))] := hl
    refine lv_aload_n hx hb dX4_comes_19 rfl (lv_at hl 0 rfl) ?_
    refine x_get (v := .int (nI st)) (C := RX4) (T := TX4) (N := 7) hx hb hts (by decide +kernel) hown hK hM.1 rfl 4 (by decide) (hts (.fieldLink RX4 48 "BellRanksModel" "steps" "I") (by decide +kernel)) (fun _ h9 => h9) rfl dX4_comes_20 ?_
    refine xn_if_ne (tgt := 28) hx hb dX4_comes_23 (by decide) (by omega) (fun c23 => ?_) (fun c23 => ?_)
    · have hst0 : 0 < st := c23
      refine lv_aload_n hx hb dX4_comes_28 rfl (lv_at hl 0 rfl) ?_
      refine lv_aload_n hx hb dX4_comes_29 rfl (lv_at hl 0 rfl) ?_
      refine x_get (v := .ref bk) (C := RX4) (T := TX4) (N := 7) hx hb hts (by decide +kernel) hown hK hM.1 rfl 3 (by decide) (hts (.fieldLink RX4 13 "BellRanksModel" "book" "[I") (by decide +kernel)) (fun _ h9 => h9) rfl dX4_comes_30 ?_
      refine lv_iload_n hx hb dX4_comes_33 rfl (lv_at hl 1 rfl) ?_
      refine x_iald hx hb hK hM.2.1 (by omega) (by decide) dX4_comes_34 ?_
      refine xmR (As := [.int (nI (bf j1))]) (rest := []) ⟨hx, hb, hml, hown, hts⟩ (cX4_row_ l D cI cC o bk kp 0 n ch st rg bf kf _ (by omega) (pm j1) (hpm j1 hj1) (bf j1) (hbr j1 hj1)) (cwV 1 hts gX4_comes_X4_row rfl rfl rfl (by decide +kernel) ⟨Nat.le_of_ble_eq_true rfl, Nat.le_of_ble_eq_true rfl⟩) hK ⟨rfl, hM⟩ (xRecv hK rfl hM.1) rfl hl.1 rfl (Nat.le_of_ble_eq_true rfl) dX4_comes_35 ⟨(by show 0 + 1 ≤ 900; omega), (by show 0 + 8 ≤ 7200; omega)⟩ hS (fun q h => Or.inr (Or.inr (Or.inr (Nat.le_trans hle h)))) (fun q h => Or.inr (Or.inr (Or.inr (Nat.le_trans hle h)))) (fun u35 x35 H1 locs1 hp35 hF35 hz35 hk35 hS => ?_)
      obtain ⟨hq35, hR35⟩ := hF35
      have hno35 : o ≠ x35 := Nat.ne_of_lt (Nat.lt_of_lt_of_le hM.1.lt hq35)
      have hnb35 : bk ≠ x35 := Nat.ne_of_lt (Nat.lt_of_lt_of_le hM.2.1.lt hq35)
      have hnk35 : kp ≠ x35 := Nat.ne_of_lt (Nat.lt_of_lt_of_le hM.2.2.lt hq35)
      have hsx35 : sz ≤ x35 := Nat.le_trans hle hq35
      have hM := xMo_old hM (xk_old hk35)
      have hle : sz ≤ H1.size := Nat.le_trans hle hz35
      refine lv_astore_n (lv' := [(2, .ref x35), (0, .ref o), (1, .int (nI j1))]) hx hb dX4_comes_38 rfl hl (by decide) rfl (fun ls hl => ?_)
      refine xn_iconst (v := 0) hx hb dX4_comes_39 (by decide) ?_
      refine lv_istore_n (lv' := [(3, .int (nI 0)), (2, .ref x35), (0, .ref o), (1, .int (nI j1))]) hx hb dX4_comes_40 rfl hl (by decide) rfl (fun ls hl => ?_)
      refine x_loopH (σ := Nat) (fun a => 400 - a) (fun a H locs cells slots ls => (a ≤ 400) ∧ (∀ q8, q8 < a → cmP (n, ch, pm, st, kf, rg) j1 q8 = false) ∧ (xMo D cI o bk kp 0 n ch st rg bf kf H) ∧ (sz ≤ H.size) ∧ (xRow D cI x35 n (rgs kf st n (pm j1) a) H) ∧ (va_S (xMA o bk kp sz) s.heap H locs) ∧ (cells ≤ 1) ∧ (slots ≤ 8) ∧ lv_has ls 4 [(0, .ref o), (1, .int (nI j1)), (2, .ref x35), (3, .int (nI a))]) ?_ 0 _ _ _ _ ls ⟨(Nat.zero_le _), (fun q8 h => absurd h (Nat.not_lt_zero _)), hM, hle, hR35, hS, (by omega), (by omega), lv_sub hl [2, 3, 1, 0] rfl⟩
      rintro i H locs cells slots ls ⟨h2, h3, hM, hle, hR35, hS, hce, hse, hl⟩ ih41
      
      refine lv_iload_n hx hb dX4_comes_41 rfl (lv_at hl 3 rfl) ?_
      refine xn_sipush (v := 400) hx hb dX4_comes_42 (by decide) ?_
      refine xn_icmp_ge (tgt := 78) hx hb dX4_comes_45 (by decide) (by omega) (by decide) (fun c45 => ?_) (fun c45 => ?_)
      · refine lv_iconst (v := -1) hx hb dX4_comes_78 (by decide) ?_
        have ht : tIn (n, ch, pm, st, kf, rg) (nI j1) = 0 := if_pos hi10
        refine W.widen (k := 900) (n := 7200) (by omega) (by omega) ?_
        exact x_miret hx hb hr hlocks () (fun _ => (by show _ = rComes (n, ch, pm, st, kf, rg) (nI j1); unfold rComes cmF; simp only [xN_nI hj1b]; rw [if_neg (show ¬ st = 0 by omega), fnd_eq (k := 400) (Nat.le_refl _) (fun q8 hq => h3 q8 (by omega)) (fun z => absurd z (Nat.lt_irrefl _)), if_neg (Nat.lt_irrefl _)])) (by rw [ht]; exact xMW_mk (S := (n, ch, pm, st, kf, rg)) hM hbr hbb) hS (fun _ h => h) dX4_comes_79
      · refine lv_aload_n hx hb dX4_comes_48 rfl (lv_at hl 0 rfl) ?_
        refine lv_aload_n hx hb dX4_comes_49 rfl (lv_at hl 2 rfl) ?_
        refine lv_iload_n hx hb dX4_comes_50 rfl (lv_at hl 3 rfl) ?_
        refine xmV (As := [.ref x35, .int (nI i)]) (rest := []) ⟨hx, hb, hml, hown, hts⟩ (cX4_ringStep_ l D cI cC o bk kp 0 n ch st rg bf kf x35 (rgs kf st n (pm j1) i) (by omega) (by omega) hst hkb hno35 hnb35 hnk35 i (by omega) (hkv _ (Nat.mod_lt _ (by omega)))) (cwV 2 hts gX4_comes_X4_ringStep rfl rfl rfl (by decide +kernel) ⟨Nat.le_of_ble_eq_true rfl, Nat.le_of_ble_eq_true rfl⟩) hK ⟨hM, hR35⟩ (xRecv hK rfl hM.1) rfl hl.1 rfl (Nat.le_of_ble_eq_true rfl) dX4_comes_51 ⟨(by show cells + 0 ≤ 900; omega), (by show slots + 0 ≤ 7200; omega)⟩ hS (fun q h => Or.inr (Or.inr (Or.inr (by rw [h]; exact hsx35)))) (fun q h => Or.inr (Or.inr (Or.inr (by rw [h]; exact hsx35)))) (fun u51 H1 locs1 hp51 hF51 hz51 hk51 hS => ?_)
        have hM := xMo_keep hM (hk51 _ hM.1.lt hno35) (hk51 _ hM.2.1.lt hnb35) (hk51 _ hM.2.2.lt hnk35)
        have hR35 : xRow D cI x35 n (rst (kf (i % st)) n n 0 (rgs kf st n (pm j1) i)) H1 := hF51
        have hle : sz ≤ H1.size := Nat.le_trans hle hz51
        refine lv_aload_n hx hb dX4_comes_54 rfl (lv_at hl 0 rfl) ?_
        refine lv_aload_n hx hb dX4_comes_55 rfl (lv_at hl 2 rfl) ?_
        refine xcV (As := [.ref x35]) (rest := []) ⟨hx, hb, hml, hown, hts⟩ (cX4_rank_ l D cI cC o bk kp 0 n ch st rg bf kf x35 (rst (kf (i % st)) n n 0 (rgs kf st n (pm j1) i)) (by omega) (prm_100 (Prm.rgs (hpm j1 hj1) (i + 1)) hn8)) (cwV 1 hts gX4_comes_X4_rank rfl rfl rfl (by decide +kernel) ⟨Nat.le_of_ble_eq_true rfl, Nat.le_of_ble_eq_true rfl⟩) hK ⟨hM, hR35⟩ (xRecv hK rfl hM.1) rfl hl.1 rfl (Nat.le_of_ble_eq_true rfl) dX4_comes_56 ⟨(by show cells ≤ 900; omega), (by show slots ≤ 7200; omega)⟩ (fun x56 e56 => ?_)
        subst e56
        refine lv_aload_n hx hb dX4_comes_59 rfl (lv_at hl 0 rfl) ?_
        refine x_get (v := .ref bk) (C := RX4) (T := TX4) (N := 7) hx hb hts (by decide +kernel) hown hK hM.1 rfl 3 (by decide) (hts (.fieldLink RX4 13 "BellRanksModel" "book" "[I") (by decide +kernel)) (fun _ h9 => h9) rfl dX4_comes_60 ?_
        refine lv_iload_n hx hb dX4_comes_63 rfl (lv_at hl 1 rfl) ?_
        refine x_iald hx hb hK hM.2.1 (by omega) (by decide) dX4_comes_64 ?_
        refine xn_icmp_ne (tgt := 72) hx hb dX4_comes_65 (by decide) (Nat.lt_trans (hrk_bd hn8) (by decide)) (Nat.lt_trans (hbb _) (by decide)) (fun c65 => ?_) (fun c65 => ?_)
        · refine xn_iinc (v := i + 1) (lv' := [(3, .int (nI (i + 1))), (0, .ref o), (1, .int (nI j1)), (2, .ref x35)]) hx hb dX4_comes_72 hl (k := 3) rfl (xinc1 _) (by decide) rfl (fun ls hl => ?_)
          refine lv_goto (tgt := 41) hx hb dX4_comes_75 (by decide) ?_
          exact ih41 (i + 1) _ _ _ _ ls ⟨(by omega), (fun q8 hq => by
                by_cases h9 : q8 = i
                · subst h9; show (hrk (rgs kf st n (pm j1) (q8 + 1)) n n == hrk (pm j1) n n) = false; rw [← hbr j1 hj1]; exact neq_b c65
                · exact h3 q8 (by omega)), hM, hle, hR35, hS, hce, hse, lv_sub hl [1, 2, 3, 0] rfl⟩ (by omega)
        · refine lv_iload_n hx hb dX4_comes_68 rfl (lv_at hl 3 rfl) ?_
          refine xn_iconst (v := 1) hx hb dX4_comes_69 (by decide) ?_
          refine xn_iadd hx hb dX4_comes_70 ?_
          have ht : tIn (n, ch, pm, st, kf, rg) (nI j1) = 0 := if_pos hi10
          refine W.widen (k := 900) (n := 7200) (by omega) (by omega) ?_
          exact x_miret hx hb hr hlocks () (fun _ => (by show nI (i + 1) = rComes (n, ch, pm, st, kf, rg) (nI j1); unfold rComes cmF; simp only [xN_nI hj1b]; rw [if_neg (show ¬ st = 0 by omega), fnd_eq (k := i) h2 h3 (fun _ => by show (hrk (rgs kf st n (pm j1) (i + 1)) n n == hrk (pm j1) n n) = true; rw [← hbr j1 hj1]; exact eq_b c65), if_pos c45])) (by rw [ht]; exact xMW_mk (S := (n, ch, pm, st, kf, rg)) hM hbr hbb) hS (fun _ h => h) dX4_comes_71
    · refine lv_iconst (v := -1) hx hb dX4_comes_26 (by decide) ?_
      have ht : tIn (n, ch, pm, st, kf, rg) (nI j1) = 0 := if_pos hi10
      refine W.widen (k := 900) (n := 7200) (by omega) (by omega) ?_
      exact x_miret hx hb hr hlocks () (fun _ => (by show _ = rComes (n, ch, pm, st, kf, rg) (nI j1); unfold rComes cmF; simp only [xN_nI hj1b]; rw [if_pos c23])) (by rw [ht]; exact xMW_mk (S := (n, ch, pm, st, kf, rg)) hM hbr hbb) hS (fun _ h => h) dX4_comes_27
  · have hi10 := ite_zero1 c10
    refine lv_aload_n hx hb dX4_comes_13 rfl (lv_at hl 0 rfl) ?_
    refine xn_iconst (v := 1) hx hb dX4_comes_14 (by decide) ?_
    refine xmI (As := [.int (nI 1)]) (rest := []) ⟨hx, hb, hml, hown, hts⟩ (cX4_no_ l D cI cC o bk kp 0 n ch st rg bf kf d1 d2 d3 1) (cwV 1 hts gX4_comes_X4_no rfl rfl rfl (by decide +kernel) ⟨Nat.le_of_ble_eq_true rfl, Nat.le_of_ble_eq_true rfl⟩) hK hM (xRecv hK rfl hM.1) rfl hl.1 rfl (Nat.le_of_ble_eq_true rfl) dX4_comes_15 ⟨(by show 0 + 0 ≤ 900; omega), (by show 0 + 0 ≤ 7200; omega)⟩ hS (fun q h => Or.inl h) (fun q h => Or.inl h) (fun x15 u15 H1 locs1 hp15 hF15 hz15 hk15 hS => ?_)
    have hM : xMo D cI o bk kp 1 n ch st rg bf kf H1 := hF15
    have hle : sz ≤ H1.size := Nat.le_trans hle hz15
    subst hp15
    have ht : tIn (n, ch, pm, st, kf, rg) x = 1 := if_neg hi10
    refine W.widen (k := 900) (n := 7200) (by omega) (by omega) ?_
    exact x_miret hx hb hr hlocks () (fun z => absurd (ht.symm.trans z) (by decide)) (by rw [ht]; exact xMW_mk (S := (n, ch, pm, st, kf, rg)) hM hbr hbb) hS (fun _ h => h) dX4_comes_18

set_option maxRecDepth 100000 in
set_option maxHeartbeats 4000000 in
theorem mAdvise_ (l : Launch) (D : va_G) (cI cC : ClassId) (o bk kp : Nat) (d1 : o ≠ bk) (d2 : o ≠ kp) (d3 : bk ≠ kp) (t0 : Nat) (S : AS) (hI : AI S) (sz : Nat) (x : Int32) : Met l yX4_advise wsX4_advise (xRm 20 900 7200) (va_Pc [.ref o, .int x] (xB D cI cC (fun H => H.size = sz ∧ xMW D cI o bk kp t0 S H))) (xI (fun r (_ : Unit) => tIn S x = 0 → r = rAdvise S x) (fun _ H => xMW D cI o bk kp (tIn S x) (S) H) (xMA o bk kp sz)) 900 7200 (xMA o bk kp sz) := by
  obtain ⟨n, ch, pm, st, kf, rg⟩ := S
  obtain ⟨⟨hn2, hn8⟩, hch, hst, hpm8, hpm, hkv, hkb⟩ := id hI
  dsimp only at hn2 hn8 hch hst hpm8 hpm hkv hkb
  refine Met.ofW (cc := cX4_advise) (maxL := 7) (ret := (some .int)) (by decide) rfl ?_
  intro p e s m args below meth c s₁ B hml hv
  obtain ⟨rfl, hP, hK⟩ := hv
  have hx := B.exec
  have hb := B.bytes
  have hr := B.returns
  have hts := atoms_spec (ws := wsX4_advise) B.pre
  have hown : s.vm.findClass RX4 = some m.cls := findClass_of_methodNamed B.named
  have hlocks := B.notSynchronized
  obtain ⟨hsz, bf, hM, hbr, hbb⟩ := hP
  have hl := lv_entry ([.ref o, .int x]) (n := 7) (Nat.le_of_ble_eq_true rfl)
  rw [lg_entry_eq]
  generalize (lg_sl ([.ref o, .int x]) ++ List.replicate (7 - (lg_sl ([.ref o, .int x])).length) Slot.unset).toArray = ls at hl ⊢
  have hl : lv_has ls 7 [(0, .ref o), (1, .int x)] := hl
  have hM : xMo D cI o bk kp t0 n ch st rg bf kf s.heap := hM
  have hbr : ∀ k, k < ch → bf k = hrk (pm k) n n := hbr
  have hS : va_S (xMA o bk kp sz) s.heap s.heap [] := va_S.rf
  have hle : sz ≤ s.heap.size := Nat.le_of_eq hsz.symm
  refine lv_aload_n hx hb dX4_advise_0 rfl (lv_at hl 0 rfl) ?_
  refine xn_iconst (v := 0) hx hb dX4_advise_1 (by decide) ?_
  refine x_put (v := .int (nI 0)) (ty := .int) (C := RX4) (T := TX4) (N := 7) hx hb hts (by decide +kernel) tyX4 tyX4_ok nmX4 hown hK hM.1 hS (Or.inl rfl) rfl 0 (by decide) (hts (.fieldLink RX4 20 "BellRanksModel" "thrown" "I") (by decide +kernel)) (fun _ h9 => h9) rfl (by decide +kernel) rfl rfl (Nat.le_of_ble_eq_true rfl) dX4_advise_2 (fun H1 locs1 hN hz oq hS => ?_)
  have hM : xMo D cI o bk kp 0 n ch st rg bf kf H1 := ⟨hN, hM.2.1.kept (oq _ (Ne.symm d1)), hM.2.2.kept (oq _ (Ne.symm d2))⟩
  have hle : sz ≤ H1.size := by rw [hz]; exact hle
  refine lv_aload_n hx hb dX4_advise_5 rfl (lv_at hl 0 rfl) ?_
  refine lv_iload_n hx hb dX4_advise_6 rfl (lv_at hl 1 rfl) ?_
  refine xcV (As := [.int x]) (rest := []) ⟨hx, hb, hml, hown, hts⟩ (cX4_isChange_ l D cI cC o bk kp 0 n ch st rg bf kf (by omega) x) (cwV 1 hts gX4_advise_X4_isChange rfl rfl rfl (by decide +kernel) ⟨Nat.le_of_ble_eq_true rfl, Nat.le_of_ble_eq_true rfl⟩) hK hM (xRecv hK rfl hM.1) rfl hl.1 rfl (Nat.le_of_ble_eq_true rfl) dX4_advise_7 ⟨(by show 0 ≤ 900; omega), (by show 0 ≤ 7200; omega)⟩ (fun x7 e7 => ?_)
  subst e7
  refine xn_if_ne (tgt := 19) hx hb dX4_advise_10 (by decide) (by split <;> decide) (fun c10 => ?_) (fun c10 => ?_)
  · have hi10 := ite_pos1 c10
    obtain ⟨j1, hj1, hj1b, rfl⟩ := inR_of hi10
    have hl : lv_has ls 7 [(0, .ref o), (1, .int (nI j1))] := hl
    refine lv_aload_n hx hb dX4_advise_19 rfl (lv_at hl 0 rfl) ?_
    refine lv_aload_n hx hb dX4_advise_20 rfl (lv_at hl 0 rfl) ?_
    refine x_get (v := .ref bk) (C := RX4) (T := TX4) (N := 7) hx hb hts (by decide +kernel) hown hK hM.1 rfl 3 (by decide) (hts (.fieldLink RX4 13 "BellRanksModel" "book" "[I") (by decide +kernel)) (fun _ h9 => h9) rfl dX4_advise_21 ?_
    refine lv_iload_n hx hb dX4_advise_24 rfl (lv_at hl 1 rfl) ?_
    refine x_iald hx hb hK hM.2.1 (by omega) (by decide) dX4_advise_25 ?_
    refine xmR (As := [.int (nI (bf j1))]) (rest := []) ⟨hx, hb, hml, hown, hts⟩ (cX4_row_ l D cI cC o bk kp 0 n ch st rg bf kf _ (by omega) (pm j1) (hpm j1 hj1) (bf j1) (hbr j1 hj1)) (cwV 1 hts gX4_advise_X4_row rfl rfl rfl (by decide +kernel) ⟨Nat.le_of_ble_eq_true rfl, Nat.le_of_ble_eq_true rfl⟩) hK ⟨rfl, hM⟩ (xRecv hK rfl hM.1) rfl hl.1 rfl (Nat.le_of_ble_eq_true rfl) dX4_advise_26 ⟨(by show 0 + 1 ≤ 900; omega), (by show 0 + 8 ≤ 7200; omega)⟩ hS (fun q h => Or.inr (Or.inr (Or.inr (Nat.le_trans hle h)))) (fun q h => Or.inr (Or.inr (Or.inr (Nat.le_trans hle h)))) (fun u26 x26 H1 locs1 hp26 hF26 hz26 hk26 hS => ?_)
    obtain ⟨hq26, hR26⟩ := hF26
    have hno26 : o ≠ x26 := Nat.ne_of_lt (Nat.lt_of_lt_of_le hM.1.lt hq26)
    have hnb26 : bk ≠ x26 := Nat.ne_of_lt (Nat.lt_of_lt_of_le hM.2.1.lt hq26)
    have hnk26 : kp ≠ x26 := Nat.ne_of_lt (Nat.lt_of_lt_of_le hM.2.2.lt hq26)
    have hsx26 : sz ≤ x26 := Nat.le_trans hle hq26
    have hM := xMo_old hM (xk_old hk26)
    have hle : sz ≤ H1.size := Nat.le_trans hle hz26
    refine lv_astore_n (lv' := [(2, .ref x26), (0, .ref o), (1, .int (nI j1))]) hx hb dX4_advise_29 rfl hl (by decide) rfl (fun ls hl => ?_)
    refine lv_iconst (v := -1) hx hb dX4_advise_30 (by decide) ?_
    refine lv_istore_n (lv' := [(3, .int (-1)), (2, .ref x26), (0, .ref o), (1, .int (nI j1))]) hx hb dX4_advise_31 rfl hl (by decide) rfl (fun ls hl => ?_)
    refine xn_iconst (v := 0) hx hb dX4_advise_32 (by decide) ?_
    refine lv_istore (lv' := [(4, .int (nI 0)), (3, .int (-1)), (2, .ref x26), (0, .ref o), (1, .int (nI j1))]) hx hb dX4_advise_33 hl (by decide) rfl (fun ls hl => ?_)
    refine xn_iconst (v := 0) hx hb dX4_advise_35 (by decide) ?_
    refine lv_istore (lv' := [(5, .int (nI 0)), (4, .int (nI 0)), (3, .int (-1)), (2, .ref x26), (0, .ref o), (1, .int (nI j1))]) hx hb dX4_advise_36 hl (by decide) rfl (fun ls hl => ?_)
    refine x_loopH (σ := Nat × Int32 × Nat) (fun a => ch - a.1) (fun a H locs cells slots ls => (a.1 ≤ ch) ∧ ((a.1 = 0 ∧ a.2.1 = (-1)) ∨ (0 < a.1 ∧ a.2.1 = nI (adB (adG (n, ch, pm, st, kf, rg) j1) (a.1 - 1)) ∧ a.2.2 = adG (n, ch, pm, st, kf, rg) j1 (adB (adG (n, ch, pm, st, kf, rg) j1) (a.1 - 1)))) ∧ (xMo D cI o bk kp 0 n ch st rg bf kf H) ∧ (sz ≤ H.size) ∧ (xRow D cI x26 n (pm j1) H) ∧ (va_S (xMA o bk kp sz) s.heap H locs) ∧ (cells ≤ 1 + 2 * a.1) ∧ (slots ≤ 8 + 16 * a.1) ∧ lv_has ls 7 [(0, .ref o), (1, .int (nI j1)), (2, .ref x26), (3, .int a.2.1), (4, .int (nI a.2.2)), (5, .int (nI a.1))]) ?_ (0, (-1), 0) _ _ _ _ ls ⟨(Nat.zero_le _), (Or.inl ⟨rfl, rfl⟩), hM, hle, hR26, hS, (by omega), (by omega), lv_sub hl [4, 5, 3, 2, 1, 0] rfl⟩
    rintro ⟨k, b9, lw⟩ H locs cells slots ls ⟨h2, h3, hM, hle, hR26, hS, hce, hse, hl⟩ ih38
    dsimp only at h2 h3 hM hle hR26 hS hce hse hl
    refine lv_iload hx hb dX4_advise_38 (lv_at hl 5 rfl) ?_
    refine lv_aload_n hx hb dX4_advise_40 rfl (lv_at hl 0 rfl) ?_
    refine x_get (v := .int (nI ch)) (C := RX4) (T := TX4) (N := 7) hx hb hts (by decide +kernel) hown hK hM.1 rfl 2 (by decide) (hts (.fieldLink RX4 23 "BellRanksModel" "changes" "I") (by decide +kernel)) (fun _ h9 => h9) rfl dX4_advise_41 ?_
    refine xn_icmp_ge (tgt := 97) hx hb dX4_advise_44 (by decide) (by omega) (by omega) (fun c44 => ?_) (fun c44 => ?_)
    · refine lv_iload_n hx hb dX4_advise_97 rfl (lv_at hl 3 rfl) ?_
      have ht : tIn (n, ch, pm, st, kf, rg) (nI j1) = 0 := if_pos hi10
      refine W.widen (k := 900) (n := 7200) (by omega) (by omega) ?_
      exact x_miret hx hb hr hlocks () (fun _ => (by show b9 = rAdvise (n, ch, pm, st, kf, rg) (nI j1); unfold rAdvise; simp only [xN_nI hj1b]; rcases h3 with z | z; exact absurd z.1 (by omega); rw [z.2.1, show k = ch by omega])) (by rw [ht]; exact xMW_mk (S := (n, ch, pm, st, kf, rg)) hM hbr hbb) hS (fun _ h => h) dX4_advise_98
    · have hgk : ∀ z, adG (n, ch, pm, st, kf, rg) j1 z < 2 ^ 31 := fun z => Nat.lt_of_le_of_lt (ivs_le _ _) (by have h9 : n * n ≤ 8 * 8 := Nat.mul_le_mul hn8 hn8; show n * n < 2 ^ 31; omega)
      refine lv_aload_n hx hb dX4_advise_47 rfl (lv_at hl 0 rfl) ?_
      refine lv_aload_n hx hb dX4_advise_48 rfl (lv_at hl 0 rfl) ?_
      refine lv_aload_n hx hb dX4_advise_49 rfl (lv_at hl 2 rfl) ?_
      refine lv_aload_n hx hb dX4_advise_50 rfl (lv_at hl 0 rfl) ?_
      refine lv_aload_n hx hb dX4_advise_51 rfl (lv_at hl 0 rfl) ?_
      refine x_get (v := .ref bk) (C := RX4) (T := TX4) (N := 7) hx hb hts (by decide +kernel) hown hK hM.1 rfl 3 (by decide) (hts (.fieldLink RX4 13 "BellRanksModel" "book" "[I") (by decide +kernel)) (fun _ h9 => h9) rfl dX4_advise_52 ?_
      refine lv_iload hx hb dX4_advise_55 (lv_at hl 5 rfl) ?_
      refine x_iald hx hb hK hM.2.1 (by omega) (by decide) dX4_advise_57 ?_
      refine xmR (As := [.int (nI (bf k))]) (rest := [.ref x26, .ref o, .ref o]) ⟨hx, hb, hml, hown, hts⟩ (cX4_row_ l D cI cC o bk kp 0 n ch st rg bf kf _ (by omega) (pm k) (hpm k c44) (bf k) (hbr k c44)) (cwV 1 hts gX4_advise_X4_row rfl rfl rfl (by decide +kernel) ⟨Nat.le_of_ble_eq_true rfl, Nat.le_of_ble_eq_true rfl⟩) hK ⟨rfl, hM⟩ (xRecv hK rfl hM.1) rfl hl.1 rfl (Nat.le_of_ble_eq_true rfl) dX4_advise_58 ⟨(by show cells + 1 ≤ 900; omega), (by show slots + 8 ≤ 7200; omega)⟩ hS (fun q h => Or.inr (Or.inr (Or.inr (Nat.le_trans hle h)))) (fun q h => Or.inr (Or.inr (Or.inr (Nat.le_trans hle h)))) (fun u58 x58 H1 locs1 hp58 hF58 hz58 hk58 hS => ?_)
      obtain ⟨hq58, hR58⟩ := hF58
      have hno58 : o ≠ x58 := Nat.ne_of_lt (Nat.lt_of_lt_of_le hM.1.lt hq58)
      have hnb58 : bk ≠ x58 := Nat.ne_of_lt (Nat.lt_of_lt_of_le hM.2.1.lt hq58)
      have hnk58 : kp ≠ x58 := Nat.ne_of_lt (Nat.lt_of_lt_of_le hM.2.2.lt hq58)
      have hnhR26hR58 : x26 ≠ x58 := Nat.ne_of_lt (Nat.lt_of_lt_of_le (va_at.lt hR26) hq58)
      have hsx58 : sz ≤ x58 := Nat.le_trans hle hq58
      have hM := xMo_old hM (xk_old hk58)
      have hR26 : xRow D cI x26 n (pm j1) H1 := xat_old hR26 (xk_old hk58)
      have hle : sz ≤ H1.size := Nat.le_trans hle hz58
      refine xmR (As := [.ref x26, .ref x58]) (rest := [.ref o]) ⟨hx, hb, hml, hown, hts⟩ (cX4_behindRow_ l D cI cC o bk kp 0 n ch st rg bf kf _ (by omega) x26 x58 (pm j1) (pm k) (prm_lt (hpm k c44))) (cwV 2 hts gX4_advise_X4_behindRow rfl rfl rfl (by decide +kernel) ⟨Nat.le_of_ble_eq_true rfl, Nat.le_of_ble_eq_true rfl⟩) hK ⟨rfl, hM, hR26, hR58⟩ (xRecv hK rfl hM.1) rfl hl.1 rfl (Nat.le_of_ble_eq_true rfl) dX4_advise_61 ⟨(by show cells + 1 + 1 ≤ 900; omega), (by show slots + 8 + 8 ≤ 7200; omega)⟩ hS (fun q h => Or.inr (Or.inr (Or.inr (Nat.le_trans hle h)))) (fun q h => Or.inr (Or.inr (Or.inr (Nat.le_trans hle h)))) (fun u61 x61 H1 locs1 hp61 hF61 hz61 hk61 hS => ?_)
      obtain ⟨hq61, hR61⟩ := hF61
      have hno61 : o ≠ x61 := Nat.ne_of_lt (Nat.lt_of_lt_of_le hM.1.lt hq61)
      have hnb61 : bk ≠ x61 := Nat.ne_of_lt (Nat.lt_of_lt_of_le hM.2.1.lt hq61)
      have hnk61 : kp ≠ x61 := Nat.ne_of_lt (Nat.lt_of_lt_of_le hM.2.2.lt hq61)
      have hnhR26hR61 : x26 ≠ x61 := Nat.ne_of_lt (Nat.lt_of_lt_of_le (va_at.lt hR26) hq61)
      have hnhR58hR61 : x58 ≠ x61 := Nat.ne_of_lt (Nat.lt_of_lt_of_le (va_at.lt hR58) hq61)
      have hsx61 : sz ≤ x61 := Nat.le_trans hle hq61
      have hM := xMo_old hM (xk_old hk61)
      have hR26 : xRow D cI x26 n (pm j1) H1 := xat_old hR26 (xk_old hk61)
      have hR58 : xRow D cI x58 n (pm k) H1 := xat_old hR58 (xk_old hk61)
      have hle : sz ≤ H1.size := Nat.le_trans hle hz61
      refine xcV (As := [.ref x61]) (rest := []) ⟨hx, hb, hml, hown, hts⟩ (cX4_inversions_ l D cI cC o bk kp 0 n ch st rg bf kf x61 (fun x9 => pm j1 (pm k x9)) (by omega) (prm_100 ((hpm j1 hj1).comp (hpm k c44)) hn8)) (cwV 1 hts gX4_advise_X4_inversions rfl rfl rfl (by decide +kernel) ⟨Nat.le_of_ble_eq_true rfl, Nat.le_of_ble_eq_true rfl⟩) hK ⟨hM, hR61⟩ (xRecv hK rfl hM.1) rfl hl.1 rfl (Nat.le_of_ble_eq_true rfl) dX4_advise_64 ⟨(by show cells + 1 + 1 ≤ 900; omega), (by show slots + 8 + 8 ≤ 7200; omega)⟩ (fun x64 e64 => ?_)
      subst e64
      refine lv_istore (lv' := [(6, .int (nI (ivs (fun x9 => pm j1 (pm k x9)) n))), (0, .ref o), (1, .int (nI j1)), (2, .ref x26), (3, .int b9), (4, .int (nI lw)), (5, .int (nI k))]) hx hb dX4_advise_67 hl (by decide) rfl (fun ls hl => ?_)
      refine lv_iload_n hx hb dX4_advise_69 rfl (lv_at hl 4 rfl) ?_
      refine lv_iconst (v := -1) hx hb dX4_advise_70 (by decide) ?_
      refine lv_icmp_eq (tgt := 84) hx hb dX4_advise_71 (by decide) (fun c71 => ?_) (fun c71 => ?_)
      · have hk0 : k = 0 := by
          rcases h3 with z | z
          · exact z.1
          · exact absurd (z.2.1.symm.trans c71) (nI_nm1 (Nat.lt_of_le_of_lt (adB_le _ _) (by omega)))
        refine lv_iload hx hb dX4_advise_84 (lv_at hl 6 rfl) ?_
        refine lv_istore_n (lv' := [(3, .int (nI k)), (6, .int (nI (ivs (fun x9 => pm j1 (pm k x9)) n))), (0, .ref o), (1, .int (nI j1)), (2, .ref x26), (4, .int (nI lw)), (5, .int (nI k))]) hx hb dX4_advise_86 rfl hl (by decide) rfl (fun ls hl => ?_)
        refine lv_iload hx hb dX4_advise_87 (lv_at hl 1 rfl) ?_
        refine lv_istore (lv' := [(4, .int (nI (ivs (fun x9 => pm j1 (pm k x9)) n))), (3, .int (nI k)), (6, .int (nI (ivs (fun x9 => pm j1 (pm k x9)) n))), (0, .ref o), (1, .int (nI j1)), (2, .ref x26), (5, .int (nI k))]) hx hb dX4_advise_89 hl (by decide) rfl (fun ls hl => ?_)
        refine xn_iinc (v := k + 1) (lv' := [(5, .int (nI (k + 1))), (4, .int (nI (ivs (fun x9 => pm j1 (pm k x9)) n))), (3, .int (nI k)), (6, .int (nI (ivs (fun x9 => pm j1 (pm k x9)) n))), (0, .ref o), (1, .int (nI j1)), (2, .ref x26)]) hx hb dX4_advise_91 hl (k := 6) rfl (xinc1 _) (by decide) rfl (fun ls hl => ?_)
        refine lv_goto (tgt := 38) hx hb dX4_advise_94 (by decide) ?_
        exact ih38 (k + 1, (nI k), ivs (fun x9 => pm j1 (pm k x9)) n) _ _ _ _ ls ⟨(by dsimp only; omega), (Or.inr ⟨Nat.succ_pos _, (by dsimp only; rw [hk0]; rfl), (by dsimp only; rw [hk0]; rfl)⟩), hM, hle, hR26, hS, (by dsimp only; omega), (by dsimp only; omega), lv_sub hl [4, 5, 6, 2, 1, 0] rfl⟩ (by dsimp only; omega)
      · obtain ⟨hk0, hb0, hl0⟩ : 0 < k ∧ b9 = nI (adB (adG (n, ch, pm, st, kf, rg) j1) (k - 1)) ∧ lw = adG (n, ch, pm, st, kf, rg) j1 (adB (adG (n, ch, pm, st, kf, rg) j1) (k - 1)) := by
          rcases h3 with z | z
          · exact absurd z.2 c71
          · exact z
        refine lv_iload hx hb dX4_advise_74 (lv_at hl 0 rfl) ?_
        refine lv_iload hx hb dX4_advise_76 (lv_at hl 5 rfl) ?_
        refine xn_icmp_lt (tgt := 84) hx hb dX4_advise_78 (by decide) (hgk k) (by rcases h3 with z | z; exact absurd z.2 c71; rw [z.2.2]; exact hgk _) (fun c78 => ?_) (fun c78 => ?_)
        · have had : adB (adG (n, ch, pm, st, kf, rg) j1) k = k := by
            obtain ⟨z, rfl⟩ : ∃ z, k = z + 1 := ⟨k - 1, by omega⟩
            show (if adG (n, ch, pm, st, kf, rg) j1 (z + 1) < adG (n, ch, pm, st, kf, rg) j1 (adB (adG (n, ch, pm, st, kf, rg) j1) z) then z + 1 else adB (adG (n, ch, pm, st, kf, rg) j1) z) = z + 1
            rw [Nat.add_sub_cancel] at hl0; rw [← hl0]; exact if_pos c78
          refine lv_iload hx hb dX4_advise_84 (lv_at hl 6 rfl) ?_
          refine lv_istore_n (lv' := [(3, .int (nI k)), (6, .int (nI (ivs (fun x9 => pm j1 (pm k x9)) n))), (0, .ref o), (1, .int (nI j1)), (2, .ref x26), (4, .int (nI lw)), (5, .int (nI k))]) hx hb dX4_advise_86 rfl hl (by decide) rfl (fun ls hl => ?_)
          refine lv_iload hx hb dX4_advise_87 (lv_at hl 1 rfl) ?_
          refine lv_istore (lv' := [(4, .int (nI (ivs (fun x9 => pm j1 (pm k x9)) n))), (3, .int (nI k)), (6, .int (nI (ivs (fun x9 => pm j1 (pm k x9)) n))), (0, .ref o), (1, .int (nI j1)), (2, .ref x26), (5, .int (nI k))]) hx hb dX4_advise_89 hl (by decide) rfl (fun ls hl => ?_)
          refine xn_iinc (v := k + 1) (lv' := [(5, .int (nI (k + 1))), (4, .int (nI (ivs (fun x9 => pm j1 (pm k x9)) n))), (3, .int (nI k)), (6, .int (nI (ivs (fun x9 => pm j1 (pm k x9)) n))), (0, .ref o), (1, .int (nI j1)), (2, .ref x26)]) hx hb dX4_advise_91 hl (k := 6) rfl (xinc1 _) (by decide) rfl (fun ls hl => ?_)
          refine lv_goto (tgt := 38) hx hb dX4_advise_94 (by decide) ?_
          exact ih38 (k + 1, (nI k), ivs (fun x9 => pm j1 (pm k x9)) n) _ _ _ _ ls ⟨(by dsimp only; omega), (Or.inr ⟨Nat.succ_pos _, (by dsimp only; rw [Nat.add_sub_cancel, had]), (by dsimp only; rw [Nat.add_sub_cancel, had]; rfl)⟩), hM, hle, hR26, hS, (by dsimp only; omega), (by dsimp only; omega), lv_sub hl [4, 5, 6, 2, 1, 0] rfl⟩ (by dsimp only; omega)
        · have had : adB (adG (n, ch, pm, st, kf, rg) j1) k = adB (adG (n, ch, pm, st, kf, rg) j1) (k - 1) := by
            obtain ⟨z, rfl⟩ : ∃ z, k = z + 1 := ⟨k - 1, by omega⟩
            show (if adG (n, ch, pm, st, kf, rg) j1 (z + 1) < adG (n, ch, pm, st, kf, rg) j1 (adB (adG (n, ch, pm, st, kf, rg) j1) z) then z + 1 else adB (adG (n, ch, pm, st, kf, rg) j1) z) = _
            rw [Nat.add_sub_cancel] at hl0 ⊢; rw [← hl0]; exact if_neg (Nat.not_lt.mpr c78)
          refine lv_goto (tgt := 91) hx hb dX4_advise_81 (by decide) ?_
          refine xn_iinc (v := k + 1) (lv' := [(5, .int (nI (k + 1))), (6, .int (nI (ivs (fun x9 => pm j1 (pm k x9)) n))), (0, .ref o), (1, .int (nI j1)), (2, .ref x26), (3, .int b9), (4, .int (nI lw))]) hx hb dX4_advise_91 hl (k := 6) rfl (xinc1 _) (by decide) rfl (fun ls hl => ?_)
          refine lv_goto (tgt := 38) hx hb dX4_advise_94 (by decide) ?_
          exact ih38 (k + 1, b9, lw) _ _ _ _ ls ⟨(by dsimp only; omega), (Or.inr ⟨Nat.succ_pos _, (by dsimp only; rw [Nat.add_sub_cancel, had]; exact hb0), (by dsimp only; rw [Nat.add_sub_cancel, had]; exact hl0)⟩), hM, hle, hR26, hS, (by dsimp only; omega), (by dsimp only; omega), lv_sub hl [2, 3, 4, 5, 6, 0] rfl⟩ (by dsimp only; omega)
  · have hi10 := ite_zero1 c10
    refine lv_aload_n hx hb dX4_advise_13 rfl (lv_at hl 0 rfl) ?_
    refine xn_iconst (v := 1) hx hb dX4_advise_14 (by decide) ?_
    refine xmI (As := [.int (nI 1)]) (rest := []) ⟨hx, hb, hml, hown, hts⟩ (cX4_no_ l D cI cC o bk kp 0 n ch st rg bf kf d1 d2 d3 1) (cwV 1 hts gX4_advise_X4_no rfl rfl rfl (by decide +kernel) ⟨Nat.le_of_ble_eq_true rfl, Nat.le_of_ble_eq_true rfl⟩) hK hM (xRecv hK rfl hM.1) rfl hl.1 rfl (Nat.le_of_ble_eq_true rfl) dX4_advise_15 ⟨(by show 0 + 0 ≤ 900; omega), (by show 0 + 0 ≤ 7200; omega)⟩ hS (fun q h => Or.inl h) (fun q h => Or.inl h) (fun x15 u15 H1 locs1 hp15 hF15 hz15 hk15 hS => ?_)
    have hM : xMo D cI o bk kp 1 n ch st rg bf kf H1 := hF15
    have hle : sz ≤ H1.size := Nat.le_trans hle hz15
    subst hp15
    have ht : tIn (n, ch, pm, st, kf, rg) x = 1 := if_neg hi10
    refine W.widen (k := 900) (n := 7200) (by omega) (by omega) ?_
    exact x_miret hx hb hr hlocks () (fun z => absurd (ht.symm.trans z) (by decide)) (by rw [ht]; exact xMW_mk (S := (n, ch, pm, st, kf, rg)) hM hbr hbb) hS (fun _ h => h) dX4_advise_18

