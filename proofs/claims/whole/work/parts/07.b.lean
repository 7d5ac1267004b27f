/-! THE MODEL: its leaves that make rows or write -/
theorem rst_k2 {k n u i : Nat} {f : Nat → Nat} (h : i < n) (hb : bitN k i = 1) : rst k n (u + 1) i f = rst k n u (i + 1) f := by
  by_cases c : i + 1 < n
  · exact rst_k c hb
  · rw [rst_end (by omega), rst_end (by omega)]
theorem stp_inv {k n u i : Nat} (h : i < n) (hb : bitN k i = 0) (hs : stp k n (u + 1) i = 1) : i + 1 < n ∧ bitN k (i + 1) = 0 ∧ stp k n u (i + 2) = 1 := by
  by_cases c : i + 1 < n ∧ bitN k (i + 1) = 0
  · rw [stp_x h hb c.1 c.2] at hs
    exact ⟨c.1, c.2, hs⟩
  · rw [stp_0 h hb c] at hs
    exact absurd hs (by decide)
/-- 1, if a value is none of the first i -/
def nwg (g : Nat → Nat) (k : Nat) : Nat → Nat
  | 0 => 1
  | i + 1 => nwg g k i * (if g i = g k then 0 else 1)
def nwf (g : Nat → Nat) (k : Nat) : Nat := nwg g k k
theorem nwg_lt (g : Nat → Nat) (k : Nat) : ∀ i, nwg g k i < 2
  | 0 => Nat.one_lt_two
  | i + 1 => by
    have := nwg_lt g k i
    show nwg g k i * (if g i = g k then 0 else 1) < 2
    split <;> omega
def cvl (n ch st rg d : Nat) : Nat → Nat
  | 0 => n
  | 1 => fac n
  | 2 => ch
  | 3 => d
  | 4 => st
  | _ => rg
def tld (f : Nat → Nat) (n : Nat) : Nat → Nat
  | 0 => hrk f n n
  | 1 => ivs f n
  | 2 => ivs f n % 2
  | 3 => sm (lst f n) n
  | 4 => mxr f n n
  | 5 => ord f n n
  | 6 => sm (own f) n
  | _ => pos f n 0
theorem ivs_le (f : Nat → Nat) (n : Nat) : ivs f n ≤ n * n := sm_le (fun q _ => Nat.le_trans (lss_le f n q) (by omega))
theorem bck_at {n : Nat} {f g : Nat → Nat} (h : Prm n g) : ∀ t, t ≤ n → ∀ i, i < t → bck f g t (g i) = i
  | 0, _, i, hi => absurd hi (Nat.not_lt_zero _)
  | t + 1, ht, i, hi => by
    show va_up (bck f g t) (g t) t (g i) = i
    by_cases c : i = t
    · rw [c]; exact va_up_self _ _ _
    · rw [va_up_ne _ _ (fun e => c (h.2.1 i t (by omega) (by omega) e))]
      exact bck_at h t (by omega) i (by omega)
theorem bck_inv {n : Nat} {f g : Nat → Nat} (h : Prm n g) {v : Nat} (hv : v < n) : bck f g n v = pos g n v := by
  obtain ⟨i, hi, e⟩ := h.2.2 v hv
  rw [← e, bck_at h n (Nat.le_refl _) i hi]
  exact (fnd_eq (Nat.le_of_lt hi) (fun q hq => by
    have : g q ≠ g i := fun z => by have := h.2.1 q i (by omega) hi z; omega
    simpa using this) (fun _ => by simp)).symm
theorem bck_pos {n : Nat} {f g : Nat → Nat} (h : Prm n g) (hn : 0 < n) : bck f g n 0 = pos g n 0 := bck_inv h hn
set_option maxRecDepth 100000 in
set_option maxHeartbeats 4000000 in
theorem cX4_row_ (l : Launch) (D : va_G) (cI cC : ClassId) (o bk kp t n ch st rg : Nat) (bf kf : Nat → Nat) (sz : Nat) (hn : n ≤ 8) (fa : Nat → Nat) (hp : Prm n fa) (rk : Nat) (hrk9 : rk = hrk fa n n) : Met l yX4_row wsX4_row (xRm 8 1 8) (va_Pc [.ref o, .int (nI rk)] (xB D cI cC (fun H => H.size = sz ∧ xMo D cI o bk kp t n ch st rg bf kf H))) (xR (fun _ : Unit => True) (fun _ q H => sz ≤ q ∧ xRow D cI q n fa H) (fun q9 => sz ≤ q9)) 1 8 (fun q9 => sz ≤ q9) := by
  refine Met.ofW (cc := cX4_row) (maxL := 8) (ret := (some (.array .int))) (by decide) rfl ?_
  intro p e s m args below meth c s₁ B hml hv
  obtain ⟨rfl, hP, hK⟩ := hv
  have hx := B.exec
  have hb := B.bytes
  have hr := B.returns
  have hts := atoms_spec (ws := wsX4_row) B.pre
  have hown : s.vm.findClass RX4 = some m.cls := findClass_of_methodNamed B.named
  have hlocks := B.notSynchronized
  obtain ⟨hsz, hM⟩ := hP
  have hl := lv_entry ([.ref o, .int (nI rk)]) (n := 8) (Nat.le_of_ble_eq_true rfl)
  rw [lg_entry_eq]
  generalize (lg_sl ([.ref o, .int (nI rk)]) ++ List.replicate (8 - (lg_sl ([.ref o, .int (nI rk)])).length) Slot.unset).toArray = ls at hl ⊢
  have hl : lv_has ls 8 [(0, .ref o), (1, .int (nI rk))] := hl
  have hS : va_S (fun q9 => sz ≤ q9) s.heap s.heap [] := va_S.rf
  have ho : o < sz := by rw [← hsz]; exact hM.1.lt
  have hbk : bk < sz := by rw [← hsz]; exact hM.2.1.lt
  have hkp : kp < sz := by rw [← hsz]; exact hM.2.2.lt
  refine lv_aload_n hx hb dX4_row_0 rfl (lv_at hl 0 rfl) ?_
  refine x_get (v := .int (nI n)) (C := RX4) (T := TX4) (N := 7) hx hb hts (by decide +kernel) hown hK hM.1 rfl 1 (by decide) (hts (.fieldLink RX4 7 "BellRanksModel" "bells" "I") (by decide +kernel)) (fun _ h9 => h9) rfl dX4_row_1 ?_
  refine x_newa hx hb (hts (.arrayClass .int) (by decide +kernel)) hK hS (by omega) (Nat.le_refl _) (by show 0 + n ≤ 8; omega) dX4_row_4 (fun qn H1 hqn hR hzqn hoqn hS => ?_)
  have hM := xMo_old hM hoqn
  refine lv_astore_n (lv' := [(2, .ref qn), (0, .ref o), (1, .int (nI rk))]) hx hb dX4_row_6 rfl hl (by decide) rfl (fun ls hl => ?_)
  refine xn_iconst (v := 1) hx hb dX4_row_7 (by decide) ?_
  refine lv_aload_n hx hb dX4_row_8 rfl (lv_at hl 1 rfl) ?_
  refine x_get (v := .int (nI n)) (C := RX4) (T := TX4) (N := 7) hx hb hts (by decide +kernel) hown hK hM.1 rfl 1 (by decide) (hts (.fieldLink RX4 7 "BellRanksModel" "bells" "I") (by decide +kernel)) (fun _ h9 => h9) rfl dX4_row_9 ?_
  have hq : sz ≤ qn := by rw [hqn, hsz]; exact Nat.le_refl _
  refine lv_ishl hx hb dX4_row_12 ?_
  refine xz_i ((xshl (by rw [Nat.one_mul]; exact Nat.lt_trans (Nat.pow_lt_pow_right (by decide) (show n < 31 by omega)) (by decide)) (by omega)).trans (congrArg nI (Nat.one_mul _))) ?_
  refine xn_iconst (v := 1) hx hb dX4_row_13 (by decide) ?_
  refine xn_isub hx hb (Nat.one_le_two_pow) dX4_row_14 ?_
  refine lv_istore_n (lv' := [(3, .int (nI (2 ^ n - 1))), (2, .ref qn), (0, .ref o), (1, .int (nI rk))]) hx hb dX4_row_15 rfl hl (by decide) rfl (fun ls hl => ?_)
  refine lv_iload_n hx hb dX4_row_16 rfl (lv_at hl 3 rfl) ?_
  refine lv_istore (lv' := [(4, .int (nI rk)), (3, .int (nI (2 ^ n - 1))), (2, .ref qn), (0, .ref o), (1, .int (nI rk))]) hx hb dX4_row_17 hl (by decide) rfl (fun ls hl => ?_)
  refine xn_iconst (v := 0) hx hb dX4_row_19 (by decide) ?_
  refine lv_istore (lv' := [(5, .int (nI 0)), (4, .int (nI rk)), (3, .int (nI (2 ^ n - 1))), (2, .ref qn), (0, .ref o), (1, .int (nI rk))]) hx hb dX4_row_20 hl (by decide) rfl (fun ls hl => ?_)
  refine x_loopH (σ := Nat × Nat × Nat) (fun a => n - a.2.2) (fun a H locs cells slots ls => (a.2.2 ≤ n) ∧ (a.1 < 256) ∧ (∀ q8, q8 < a.2.2 → bitN a.1 (fa q8) = 0) ∧ (∀ q8, a.2.2 ≤ q8 → q8 < n → bitN a.1 (fa q8) = 1) ∧ (a.2.1 = trk fa n (n - a.2.2)) ∧ (xMo D cI o bk kp t n ch st rg bf kf H) ∧ (xRow D cI qn n (cpy (fun _ => 0) fa a.2.2) H) ∧ (va_S (fun q9 => sz ≤ q9) s.heap H locs) ∧ (cells = 1) ∧ (slots = n) ∧ lv_has ls 8 [(0, .ref o), (1, .int (nI rk)), (2, .ref qn), (3, .int (nI a.1)), (4, .int (nI a.2.1)), (5, .int (nI a.2.2))]) ?_ (2 ^ n - 1, rk, 0) _ _ _ _ ls ⟨(Nat.zero_le _), (msk_all n hn).1, (fun q h => absurd h (Nat.not_lt_zero _)), (fun q8 _ h => by have h9 := hp.1 q8 h; rw [(msk_all n hn).2 (fa q8) (by omega), if_pos h9]), (by dsimp only; rw [hrk9, Nat.sub_zero, trk_hrk]), hM, (by rw [cpy_0]; exact hR), hS, rfl, (Nat.zero_add n), lv_sub hl [4, 5, 3, 2, 1, 0] rfl⟩
  rintro ⟨w, rr, i⟩ H locs cells slots ls ⟨h2, hw, hb0, hb1, hr9, hM, hR, hS, rfl, hsl, hl⟩ ih22
  dsimp only at h2 hw hb0 hb1 hr9 hM hR hS hsl hl
  refine lv_iload hx hb dX4_row_22 (lv_at hl 5 rfl) ?_
  refine lv_aload_n hx hb dX4_row_24 rfl (lv_at hl 0 rfl) ?_
  refine x_get (v := .int (nI n)) (C := RX4) (T := TX4) (N := 7) hx hb hts (by decide +kernel) hown hK hM.1 rfl 1 (by decide) (hts (.fieldLink RX4 7 "BellRanksModel" "bells" "I") (by decide +kernel)) (fun _ h9 => h9) rfl dX4_row_25 ?_
  refine xn_icmp_ge (tgt := 84) hx hb dX4_row_28 (by decide) (by omega) (by omega) (fun c28 => ?_) (fun c28 => ?_)
  · refine lv_aload_n hx hb dX4_row_84 rfl (lv_at hl 2 rfl) ?_
    refine W.widen (k := 1) (n := 8) (by omega) (by omega) ?_
    exact x_maret (rt := .array .int) hx hb hr (Or.inr ⟨_, rfl⟩) hlocks () trivial ⟨hq, xrow_congr (fun j hj => by unfold cpy; rw [if_pos (by omega)]) hR⟩ hS (fun _ h => h) dX4_row_85
  · have htd := trk_div fa (n := n) (t := n - 1 - i) (by omega)
    have hni : n - i = n - 1 - i + 1 := by omega
    have hni2 : n - 1 - (n - 1 - i) = i := by omega
    rw [hni] at hr9
    have hbi := hb1 i (Nat.le_refl _) c28
    have ha8 : fa i < 8 := by have := hp.1 i c28; omega
    have hf8 := fac_le (n - 1 - i) (by omega)
    have hrb : rr < 2 ^ 31 := by
      rw [hr9, ← hni]
      exact Nat.lt_of_lt_of_le (trk_lt fa n (n - i) (by omega)) (Nat.le_trans (fac_le _ (by omega)) (by decide))
    refine lv_aload_n hx hb dX4_row_31 rfl (lv_at hl 0 rfl) ?_
    refine x_get (v := .int (nI n)) (C := RX4) (T := TX4) (N := 7) hx hb hts (by decide +kernel) hown hK hM.1 rfl 1 (by decide) (hts (.fieldLink RX4 7 "BellRanksModel" "bells" "I") (by decide +kernel)) (fun _ h9 => h9) rfl dX4_row_32 ?_
    refine xn_iconst (v := 1) hx hb dX4_row_35 (by decide) ?_
    refine xn_isub hx hb (by omega) dX4_row_36 ?_
    refine lv_iload hx hb dX4_row_37 (lv_at hl 5 rfl) ?_
    refine xn_isub hx hb (by omega) dX4_row_39 ?_
    refine xcS (As := [.int (nI ((n - 1) - i))]) (rest := []) ⟨hx, hb, hml, hown, hts⟩ (cX4_product_ l D cI cC ((n - 1) - i) (by omega)) (va_cwS 1 hts gX4_row_X4_product rfl rfl rfl (by decide +kernel) ⟨Nat.le_of_ble_eq_true rfl, Nat.le_of_ble_eq_true rfl⟩) hK trivial rfl hl.1 rfl (Nat.le_of_ble_eq_true rfl) dX4_row_40 ⟨(by show 1 ≤ 1; omega), (by show slots ≤ 8; omega)⟩ (fun x40 e40 => ?_)
    subst e40
    refine lv_istore (lv' := [(6, .int (nI (fac ((n - 1) - i)))), (0, .ref o), (1, .int (nI rk)), (2, .ref qn), (3, .int (nI w)), (4, .int (nI rr)), (5, .int (nI i))]) hx hb dX4_row_43 hl (by decide) rfl (fun ls hl => ?_)
    refine lv_iload_n hx hb dX4_row_45 rfl (lv_at hl 4 rfl) ?_
    refine lv_iload hx hb dX4_row_46 (lv_at hl 5 rfl) ?_
    refine lv_iload hx hb dX4_row_48 (lv_at hl 0 rfl) ?_
    refine xn_idiv hx hb (by omega) (fac_pos _) (by omega) dX4_row_50 ?_
    refine xcS (As := [.int (nI w), .int (nI (rr / (fac ((n - 1) - i))))]) (rest := []) ⟨hx, hb, hml, hown, hts⟩ (cX4_bellAt_ l D cI cC w (rr / (fac ((n - 1) - i))) (fa i) (by omega) (by have := hp.1 i c28; omega) (hb1 i (Nat.le_refl _) c28) (by rw [hr9, htd.1, hni2]; exact lss_free hp c28 hb0 hb1) (by rw [hr9, htd.1]; have := lss_le fa n (n - 1 - (n - 1 - i)); omega)) (va_cwS 2 hts gX4_row_X4_bellAt rfl rfl rfl (by decide +kernel) ⟨Nat.le_of_ble_eq_true rfl, Nat.le_of_ble_eq_true rfl⟩) hK trivial rfl hl.1 rfl (Nat.le_of_ble_eq_true rfl) dX4_row_51 ⟨(by show 1 ≤ 1; omega), (by show slots ≤ 8; omega)⟩ (fun x51 e51 => ?_)
    subst e51
    refine lv_istore (lv' := [(7, .int (nI (fa i))), (6, .int (nI (fac ((n - 1) - i)))), (0, .ref o), (1, .int (nI rk)), (2, .ref qn), (3, .int (nI w)), (4, .int (nI rr)), (5, .int (nI i))]) hx hb dX4_row_54 hl (by decide) rfl (fun ls hl => ?_)
    refine lv_aload_n hx hb dX4_row_56 rfl (lv_at hl 4 rfl) ?_
    refine lv_iload hx hb dX4_row_57 (lv_at hl 7 rfl) ?_
    refine lv_iload hx hb dX4_row_59 (lv_at hl 0 rfl) ?_
    refine x_iast hx hb hK hR hS hq c28 (by omega) dX4_row_61 (fun H1 locs1 hN hz oq hS => ?_)
    have hR : xRow D cI qn n (va_up (cpy (fun _ => 0) fa i) i (fa i)) H1 := hN
    have hM : xMo D cI o bk kp t n ch st rg bf kf H1 := xMo_keep hM (oq _ (Nat.ne_of_lt (Nat.lt_of_lt_of_le ho hq))) (oq _ (Nat.ne_of_lt (Nat.lt_of_lt_of_le hbk hq))) (oq _ (Nat.ne_of_lt (Nat.lt_of_lt_of_le hkp hq)))
    refine lv_iload_n hx hb dX4_row_62 rfl (lv_at hl 5 rfl) ?_
    refine xn_iconst (v := 1) hx hb dX4_row_63 (by decide) ?_
    refine lv_iload hx hb dX4_row_64 (lv_at hl 0 rfl) ?_
    refine lv_ishl hx hb dX4_row_66 ?_
    refine lv_iconst (v := -1) hx hb dX4_row_67 (by decide) ?_
    refine lv_ixor hx hb dX4_row_68 ?_
    refine lv_iand hx hb dX4_row_69 ?_
    refine xz_i (msk_off w hw (fa i) ha8 hbi) ?_
    refine lv_istore_n (lv' := [(3, .int (nI (w - 2 ^ fa i))), (7, .int (nI (fa i))), (6, .int (nI (fac ((n - 1) - i)))), (0, .ref o), (1, .int (nI rk)), (2, .ref qn), (4, .int (nI rr)), (5, .int (nI i))]) hx hb dX4_row_70 rfl hl (by decide) rfl (fun ls hl => ?_)
    refine lv_iload hx hb dX4_row_71 (lv_at hl 6 rfl) ?_
    refine lv_iload hx hb dX4_row_73 (lv_at hl 2 rfl) ?_
    refine xn_irem hx hb (by omega) (fac_pos _) (by omega) dX4_row_75 ?_
    refine lv_istore (lv' := [(4, .int (nI (rr % (fac ((n - 1) - i))))), (3, .int (nI (w - 2 ^ fa i))), (7, .int (nI (fa i))), (6, .int (nI (fac ((n - 1) - i)))), (0, .ref o), (1, .int (nI rk)), (2, .ref qn), (5, .int (nI i))]) hx hb dX4_row_76 hl (by decide) rfl (fun ls hl => ?_)
    refine xn_iinc (v := i + 1) (lv' := [(5, .int (nI (i + 1))), (4, .int (nI (rr % (fac ((n - 1) - i))))), (3, .int (nI (w - 2 ^ fa i))), (7, .int (nI (fa i))), (6, .int (nI (fac ((n - 1) - i)))), (0, .ref o), (1, .int (nI rk)), (2, .ref qn)]) hx hb dX4_row_78 hl (k := 7) rfl (xinc1 _) (by decide) rfl (fun ls hl => ?_)
    refine lv_goto (tgt := 22) hx hb dX4_row_81 (by decide) ?_
    exact ih22 (w - 2 ^ fa i, rr % (fac ((n - 1) - i)), i + 1) _ _ _ _ ls ⟨(by dsimp only; omega), (msk_bit w hw (fa i) ha8 hbi).1, (fun q8 hq8 => by
          dsimp only at hq8 ⊢
          have h8 : q8 < n := (by omega)
          rw [(msk_bit w hw (fa i) ha8 hbi).2 (fa q8) (by have := hp.1 q8 h8; omega)]
          by_cases c : fa q8 = fa i
          · rw [if_pos c]
          · rw [if_neg c]
            have h9 : q8 ≠ i := fun e => c (by rw [e])
            exact hb0 q8 (by omega)), (fun q8 hq8 h8 => by
          dsimp only at hq8 ⊢
          rw [(msk_bit w hw (fa i) ha8 hbi).2 (fa q8) (by have := hp.1 q8 h8; omega), if_neg (fun e => by have := hp.2.1 q8 i h8 c28 e; omega)]
          exact hb1 q8 (by omega) h8), (by dsimp only; rw [hr9, htd.2, show n - (i + 1) = n - 1 - i by omega]), hM, (by rw [← cpy_s]; exact hR), hS, rfl, hsl, lv_sub hl [5, 6, 7, 2, 1, 0] rfl⟩ (by dsimp only; omega)

set_option maxRecDepth 100000 in
set_option maxHeartbeats 4000000 in
theorem cX4_behindRow_ (l : Launch) (D : va_G) (cI cC : ClassId) (o bk kp t n ch st rg : Nat) (bf kf : Nat → Nat) (sz : Nat) (hn : n ≤ 8) (qa qb : Nat) (f g : Nat → Nat) (hg : ∀ i, i < n → g i < n) : Met l yX4_behindRow wsX4_behindRow (xRm 0 1 8) (va_Pc [.ref o, .ref qa, .ref qb] (xB D cI cC (fun H => H.size = sz ∧ xMo D cI o bk kp t n ch st rg bf kf H ∧ xRow D cI qa n f H ∧ xRow D cI qb n g H))) (xR (fun _ : Unit => True) (fun _ q H => sz ≤ q ∧ xRow D cI q n (fun x9 => f (g x9)) H) (fun q9 => sz ≤ q9)) 1 8 (fun q9 => sz ≤ q9) := by
  refine Met.ofW (cc := cX4_behindRow) (maxL := 5) (ret := (some (.array .int))) (by decide) rfl ?_
  intro p e s m args below meth c s₁ B hml hv
  obtain ⟨rfl, hP, hK⟩ := hv
  have hx := B.exec
  have hb := B.bytes
  have hr := B.returns
  have hts := atoms_spec (ws := wsX4_behindRow) B.pre
  have hown : s.vm.findClass RX4 = some m.cls := findClass_of_methodNamed B.named
  have hlocks := B.notSynchronized
  obtain ⟨hsz, hM, hA, hB⟩ := hP
  have hl := lv_entry ([.ref o, .ref qa, .ref qb]) (n := 5) (Nat.le_of_ble_eq_true rfl)
  rw [lg_entry_eq]
  generalize (lg_sl ([.ref o, .ref qa, .ref qb]) ++ List.replicate (5 - (lg_sl ([.ref o, .ref qa, .ref qb])).length) Slot.unset).toArray = ls at hl ⊢
  have hl : lv_has ls 5 [(0, .ref o), (1, .ref qa), (2, .ref qb)] := hl
  have hS : va_S (fun q9 => sz ≤ q9) s.heap s.heap [] := va_S.rf
  have ho : o < sz := by rw [← hsz]; exact hM.1.lt
  have hbk : bk < sz := by rw [← hsz]; exact hM.2.1.lt
  have hkp : kp < sz := by rw [← hsz]; exact hM.2.2.lt
  have hqa : qa < sz := by rw [← hsz]; exact va_at.lt hA
  have hqb : qb < sz := by rw [← hsz]; exact va_at.lt hB
  refine lv_aload_n hx hb dX4_behindRow_0 rfl (lv_at hl 0 rfl) ?_
  refine x_get (v := .int (nI n)) (C := RX4) (T := TX4) (N := 7) hx hb hts (by decide +kernel) hown hK hM.1 rfl 1 (by decide) (hts (.fieldLink RX4 7 "BellRanksModel" "bells" "I") (by decide +kernel)) (fun _ h9 => h9) rfl dX4_behindRow_1 ?_
  refine x_newa hx hb (hts (.arrayClass .int) (by decide +kernel)) hK hS (by omega) (Nat.le_refl _) (by show 0 + n ≤ 8; omega) dX4_behindRow_4 (fun qn H1 hqn hR hzqn hoqn hS => ?_)
  have hM := xMo_old hM hoqn
  have hA : xRow D cI qa n f H1 := xat_old hA hoqn
  have hB : xRow D cI qb n g H1 := xat_old hB hoqn
  have hq : sz ≤ qn := by rw [hqn, hsz]; exact Nat.le_refl _
  refine lv_astore_n (lv' := [(3, .ref qn), (0, .ref o), (1, .ref qa), (2, .ref qb)]) hx hb dX4_behindRow_6 rfl hl (by decide) rfl (fun ls hl => ?_)
  refine xn_iconst (v := 0) hx hb dX4_behindRow_7 (by decide) ?_
  refine lv_istore (lv' := [(4, .int (nI 0)), (3, .ref qn), (0, .ref o), (1, .ref qa), (2, .ref qb)]) hx hb dX4_behindRow_8 hl (by decide) rfl (fun ls hl => ?_)
  refine x_loopH (σ := Nat) (fun a => n - a) (fun a H locs cells slots ls => (a ≤ n) ∧ (xMo D cI o bk kp t n ch st rg bf kf H) ∧ (xRow D cI qa n f H) ∧ (xRow D cI qb n g H) ∧ (xRow D cI qn n (cpy (fun _ => 0) (fun x9 => f (g x9)) a) H) ∧ (va_S (fun q9 => sz ≤ q9) s.heap H locs) ∧ (cells = 1) ∧ (slots = n) ∧ lv_has ls 5 [(0, .ref o), (1, .ref qa), (2, .ref qb), (3, .ref qn), (4, .int (nI a))]) ?_ 0 _ _ _ _ ls ⟨(Nat.zero_le _), hM, hA, hB, (by rw [cpy_0]; exact hR), hS, rfl, (Nat.zero_add n), lv_sub hl [2, 3, 4, 1, 0] rfl⟩
  rintro i H locs cells slots ls ⟨h2, hM, hA, hB, hR, hS, rfl, hsl, hl⟩ ih10
  
  refine lv_iload hx hb dX4_behindRow_10 (lv_at hl 4 rfl) ?_
  refine lv_aload_n hx hb dX4_behindRow_12 rfl (lv_at hl 0 rfl) ?_
  refine x_get (v := .int (nI n)) (C := RX4) (T := TX4) (N := 7) hx hb hts (by decide +kernel) hown hK hM.1 rfl 1 (by decide) (hts (.fieldLink RX4 7 "BellRanksModel" "bells" "I") (by decide +kernel)) (fun _ h9 => h9) rfl dX4_behindRow_13 ?_
  refine xn_icmp_ge (tgt := 35) hx hb dX4_behindRow_16 (by decide) (by omega) (by omega) (fun c16 => ?_) (fun c16 => ?_)
  · refine lv_aload_n hx hb dX4_behindRow_35 rfl (lv_at hl 3 rfl) ?_
    refine W.widen (k := 1) (n := 8) (by omega) (by omega) ?_
    exact x_maret (rt := .array .int) hx hb hr (Or.inr ⟨_, rfl⟩) hlocks () trivial ⟨hq, xrow_congr (fun j hj => by unfold cpy; rw [if_pos (by omega)]) hR⟩ hS (fun _ h => h) dX4_behindRow_36
  · refine lv_aload_n hx hb dX4_behindRow_19 rfl (lv_at hl 3 rfl) ?_
    refine lv_iload hx hb dX4_behindRow_20 (lv_at hl 4 rfl) ?_
    refine lv_aload_n hx hb dX4_behindRow_22 rfl (lv_at hl 1 rfl) ?_
    refine lv_aload_n hx hb dX4_behindRow_23 rfl (lv_at hl 2 rfl) ?_
    refine lv_iload hx hb dX4_behindRow_24 (lv_at hl 4 rfl) ?_
    refine x_iald hx hb hK hB (by omega) (by omega) dX4_behindRow_26 ?_
    refine x_iald hx hb hK hA (hg _ c16) (by omega) dX4_behindRow_27 ?_
    refine x_iast hx hb hK hR hS hq (by omega) (by omega) dX4_behindRow_28 (fun H1 locs1 hN hz oq hS => ?_)
    have hR : xRow D cI qn n (va_up (cpy (fun _ => 0) (fun x9 => f (g x9)) i) i (f (g i))) H1 := hN
    have hM : xMo D cI o bk kp t n ch st rg bf kf H1 := xMo_keep hM (oq _ (Nat.ne_of_lt (Nat.lt_of_lt_of_le ho hq))) (oq _ (Nat.ne_of_lt (Nat.lt_of_lt_of_le hbk hq))) (oq _ (Nat.ne_of_lt (Nat.lt_of_lt_of_le hkp hq)))
    have hA : xRow D cI qa n f H1 := va_at.kept hA (oq _ (Nat.ne_of_lt (Nat.lt_of_lt_of_le hqa hq)))
    have hB : xRow D cI qb n g H1 := va_at.kept hB (oq _ (Nat.ne_of_lt (Nat.lt_of_lt_of_le hqb hq)))
    refine xn_iinc (v := i + 1) (lv' := [(4, .int (nI (i + 1))), (0, .ref o), (1, .ref qa), (2, .ref qb), (3, .ref qn)]) hx hb dX4_behindRow_29 hl (k := 4) rfl (xinc1 _) (by decide) rfl (fun ls hl => ?_)
    refine lv_goto (tgt := 10) hx hb dX4_behindRow_32 (by decide) ?_
    exact ih10 (i + 1) _ _ _ _ ls ⟨(by omega), hM, hA, hB, (by rw [← cpy_s]; exact hR), hS, rfl, hsl, lv_sub hl [1, 2, 3, 4, 0] rfl⟩ (by omega)

set_option maxRecDepth 100000 in
set_option maxHeartbeats 4000000 in
theorem cX4_backRow_ (l : Launch) (D : va_G) (cI cC : ClassId) (o bk kp t n ch st rg : Nat) (bf kf : Nat → Nat) (sz : Nat) (hn : n ≤ 8) (qa : Nat) (f : Nat → Nat) (hf : ∀ i, i < n → f i < n) : Met l yX4_backRow wsX4_backRow (xRm 0 1 8) (va_Pc [.ref o, .ref qa] (xB D cI cC (fun H => H.size = sz ∧ xMo D cI o bk kp t n ch st rg bf kf H ∧ xRow D cI qa n f H))) (xR (fun _ : Unit => True) (fun _ q H => sz ≤ q ∧ xRow D cI q n (bck (fun _ => 0) f n) H) (fun q9 => sz ≤ q9)) 1 8 (fun q9 => sz ≤ q9) := by
  refine Met.ofW (cc := cX4_backRow) (maxL := 4) (ret := (some (.array .int))) (by decide) rfl ?_
  intro p e s m args below meth c s₁ B hml hv
  obtain ⟨rfl, hP, hK⟩ := hv
  have hx := B.exec
  have hb := B.bytes
  have hr := B.returns
  have hts := atoms_spec (ws := wsX4_backRow) B.pre
  have hown : s.vm.findClass RX4 = some m.cls := findClass_of_methodNamed B.named
  have hlocks := B.notSynchronized
  obtain ⟨hsz, hM, hA⟩ := hP
  have hl := lv_entry ([.ref o, .ref qa]) (n := 4) (Nat.le_of_ble_eq_true rfl)
  rw [lg_entry_eq]
  generalize (lg_sl ([.ref o, .ref qa]) ++ List.replicate (4 - (lg_sl ([.ref o, .ref qa])).length) Slot.unset).toArray = ls at hl ⊢
  have hl : lv_has ls 4 [(0, .ref o), (1, .ref qa)] := hl
  have hS : va_S (fun q9 => sz ≤ q9) s.heap s.heap [] := va_S.rf
  have ho : o < sz := by rw [← hsz]; exact hM.1.lt
  have hbk : bk < sz := by rw [← hsz]; exact hM.2.1.lt
  have hkp : kp < sz := by rw [← hsz]; exact hM.2.2.lt
  have hqa : qa < sz := by rw [← hsz]; exact va_at.lt hA
  refine lv_aload_n hx hb dX4_backRow_0 rfl (lv_at hl 0 rfl) ?_
  refine x_get (v := .int (nI n)) (C := RX4) (T := TX4) (N := 7) hx hb hts (by decide +kernel) hown hK hM.1 rfl 1 (by decide) (hts (.fieldLink RX4 7 "BellRanksModel" "bells" "I") (by decide +kernel)) (fun _ h9 => h9) rfl dX4_backRow_1 ?_
  refine x_newa hx hb (hts (.arrayClass .int) (by decide +kernel)) hK hS (by omega) (Nat.le_refl _) (by show 0 + n ≤ 8; omega) dX4_backRow_4 (fun qn H1 hqn hR hzqn hoqn hS => ?_)
  have hM := xMo_old hM hoqn
  have hA : xRow D cI qa n f H1 := xat_old hA hoqn
  have hq : sz ≤ qn := by rw [hqn, hsz]; exact Nat.le_refl _
  refine lv_astore_n (lv' := [(2, .ref qn), (0, .ref o), (1, .ref qa)]) hx hb dX4_backRow_6 rfl hl (by decide) rfl (fun ls hl => ?_)
  refine xn_iconst (v := 0) hx hb dX4_backRow_7 (by decide) ?_
  refine lv_istore_n (lv' := [(3, .int (nI 0)), (2, .ref qn), (0, .ref o), (1, .ref qa)]) hx hb dX4_backRow_8 rfl hl (by decide) rfl (fun ls hl => ?_)
  refine x_loopH (σ := Nat) (fun a => n - a) (fun a H locs cells slots ls => (a ≤ n) ∧ (xMo D cI o bk kp t n ch st rg bf kf H) ∧ (xRow D cI qa n f H) ∧ (xRow D cI qn n (bck (fun _ => 0) f a) H) ∧ (va_S (fun q9 => sz ≤ q9) s.heap H locs) ∧ (cells = 1) ∧ (slots = n) ∧ lv_has ls 4 [(0, .ref o), (1, .ref qa), (2, .ref qn), (3, .int (nI a))]) ?_ 0 _ _ _ _ ls ⟨(Nat.zero_le _), hM, hA, hR, hS, rfl, (Nat.zero_add n), lv_sub hl [2, 3, 1, 0] rfl⟩
  rintro i H locs cells slots ls ⟨h2, hM, hA, hR, hS, rfl, hsl, hl⟩ ih9
  
  refine lv_iload_n hx hb dX4_backRow_9 rfl (lv_at hl 3 rfl) ?_
  refine lv_aload_n hx hb dX4_backRow_10 rfl (lv_at hl 0 rfl) ?_
  refine x_get (v := .int (nI n)) (C := RX4) (T := TX4) (N := 7) hx hb hts (by decide +kernel) hown hK hM.1 rfl 1 (by decide) (hts (.fieldLink RX4 7 "BellRanksModel" "bells" "I") (by decide +kernel)) (fun _ h9 => h9) rfl dX4_backRow_11 ?_
  refine xn_icmp_ge (tgt := 29) hx hb dX4_backRow_14 (by decide) (by omega) (by omega) (fun c14 => ?_) (fun c14 => ?_)
  · refine lv_aload_n hx hb dX4_backRow_29 rfl (lv_at hl 2 rfl) ?_
    refine W.widen (k := 1) (n := 8) (by omega) (by omega) ?_
    exact x_maret (rt := .array .int) hx hb hr (Or.inr ⟨_, rfl⟩) hlocks () trivial ⟨hq, (by have e9 : i = n := (by omega); rw [e9] at hR; exact hR)⟩ hS (fun _ h => h) dX4_backRow_30
  · refine lv_aload_n hx hb dX4_backRow_17 rfl (lv_at hl 2 rfl) ?_
    refine lv_aload_n hx hb dX4_backRow_18 rfl (lv_at hl 1 rfl) ?_
    refine lv_iload_n hx hb dX4_backRow_19 rfl (lv_at hl 3 rfl) ?_
    refine x_iald hx hb hK hA (by omega) (by omega) dX4_backRow_20 ?_
    refine lv_iload_n hx hb dX4_backRow_21 rfl (lv_at hl 3 rfl) ?_
    refine x_iast hx hb hK hR hS hq (hf _ c14) (by omega) dX4_backRow_22 (fun H1 locs1 hN hz oq hS => ?_)
    have hR : xRow D cI qn n (va_up (bck (fun _ => 0) f i) (f i) i) H1 := hN
    have hM : xMo D cI o bk kp t n ch st rg bf kf H1 := xMo_keep hM (oq _ (Nat.ne_of_lt (Nat.lt_of_lt_of_le ho hq))) (oq _ (Nat.ne_of_lt (Nat.lt_of_lt_of_le hbk hq))) (oq _ (Nat.ne_of_lt (Nat.lt_of_lt_of_le hkp hq)))
    have hA : xRow D cI qa n f H1 := va_at.kept hA (oq _ (Nat.ne_of_lt (Nat.lt_of_lt_of_le hqa hq)))
    refine xn_iinc (v := i + 1) (lv' := [(3, .int (nI (i + 1))), (0, .ref o), (1, .ref qa), (2, .ref qn)]) hx hb dX4_backRow_23 hl (k := 3) rfl (xinc1 _) (by decide) rfl (fun ls hl => ?_)
    refine lv_goto (tgt := 9) hx hb dX4_backRow_26 (by decide) ?_
    exact ih9 (i + 1) _ _ _ _ ls ⟨(by omega), hM, hA, hR, hS, rfl, hsl, lv_sub hl [1, 2, 3, 0] rfl⟩ (by omega)

set_option maxRecDepth 100000 in
set_option maxHeartbeats 4000000 in
theorem cX4_ringStep_ (l : Launch) (D : va_G) (cI cC : ClassId) (o bk kp t n ch st rg : Nat) (bf kf : Nat → Nat) (q : Nat) (f : Nat → Nat) (hn : n ≤ 8) (hst : 0 < st) (hst2 : st ≤ 10) (hkf : ∀ i, kf i < 2 ^ 31) (no : o ≠ q) (nb : bk ≠ q) (nk : kp ≠ q) (k : Nat) (hk : k < 2 ^ 31) (hval : stp (kf (k % st)) n n 0 = 1) : Met l yX4_ringStep wsX4_ringStep (xRm 0 0 0) (va_Pc [.ref o, .ref q, .int (nI k)] (xB D cI cC (fun H => xMo D cI o bk kp t n ch st rg bf kf H ∧ xRow D cI q n f H))) (xV (fun _ : Unit => True) (fun _ => xRow D cI q n (rst (kf (k % st)) n n 0 f)) (fun q9 => q9 = q)) 0 0 (fun q9 => q9 = q) := by
  refine Met.ofW (cc := cX4_ringStep) (maxL := 6) (ret := none) (by decide) rfl ?_
  intro p e s m args below meth c s₁ B hml hv
  obtain ⟨rfl, hP, hK⟩ := hv
  have hx := B.exec
  have hb := B.bytes
  have hr := B.returns
  have hts := atoms_spec (ws := wsX4_ringStep) B.pre
  have hown : s.vm.findClass RX4 = some m.cls := findClass_of_methodNamed B.named
  have hlocks := B.notSynchronized
  obtain ⟨hM, hR⟩ := hP
  have hl := lv_entry ([.ref o, .ref q, .int (nI k)]) (n := 6) (Nat.le_of_ble_eq_true rfl)
  rw [lg_entry_eq]
  generalize (lg_sl ([.ref o, .ref q, .int (nI k)]) ++ List.replicate (6 - (lg_sl ([.ref o, .ref q, .int (nI k)])).length) Slot.unset).toArray = ls at hl ⊢
  have hl : lv_has ls 6 [(0, .ref o), (1, .ref q), (2, .int (nI k))] := hl
  have hS : va_S (fun q9 => q9 = q) s.heap s.heap [] := va_S.rf
  refine lv_aload_n hx hb dX4_ringStep_0 rfl (lv_at hl 0 rfl) ?_
  refine x_get (v := .ref kp) (C := RX4) (T := TX4) (N := 7) hx hb hts (by decide +kernel) hown hK hM.1 rfl 5 (by decide) (hts (.fieldLink RX4 17 "BellRanksModel" "kept" "[I") (by decide +kernel)) (fun _ h9 => h9) rfl dX4_ringStep_1 ?_
  refine lv_iload_n hx hb dX4_ringStep_4 rfl (lv_at hl 2 rfl) ?_
  refine lv_aload_n hx hb dX4_ringStep_5 rfl (lv_at hl 0 rfl) ?_
  refine x_get (v := .int (nI st)) (C := RX4) (T := TX4) (N := 7) hx hb hts (by decide +kernel) hown hK hM.1 rfl 4 (by decide) (hts (.fieldLink RX4 48 "BellRanksModel" "steps" "I") (by decide +kernel)) (fun _ h9 => h9) rfl dX4_ringStep_6 ?_
  refine xn_irem hx hb (by omega) hst (by omega) dX4_ringStep_9 ?_
  refine x_iald hx hb hK hM.2.2 (Nat.lt_of_lt_of_le (Nat.mod_lt _ hst) hst2) (by decide) dX4_ringStep_10 ?_
  refine lv_istore_n (lv' := [(3, .int (nI (kf (k % st)))), (0, .ref o), (1, .ref q), (2, .int (nI k))]) hx hb dX4_ringStep_11 rfl hl (by decide) rfl (fun ls hl => ?_)
  refine xn_iconst (v := 0) hx hb dX4_ringStep_12 (by decide) ?_
  refine lv_istore (lv' := [(4, .int (nI 0)), (3, .int (nI (kf (k % st)))), (0, .ref o), (1, .ref q), (2, .int (nI k))]) hx hb dX4_ringStep_13 hl (by decide) rfl (fun ls hl => ?_)
  refine x_loopH (σ := Nat × Nat × (Nat → Nat)) (fun a => n - a.1) (fun a H locs cells slots ls => (n ≤ a.1 + a.2.1) ∧ (a.1 ≤ n) ∧ (rst (kf (k % st)) n a.2.1 a.1 a.2.2 = rst (kf (k % st)) n n 0 f) ∧ (stp (kf (k % st)) n a.2.1 a.1 = 1) ∧ (xMo D cI o bk kp t n ch st rg bf kf H) ∧ (xRow D cI q n a.2.2 H) ∧ (va_S (fun q9 => q9 = q) s.heap H locs) ∧ (cells = 0) ∧ (slots = 0) ∧ lv_has ls 6 [(0, .ref o), (1, .ref q), (2, .int (nI k)), (3, .int (nI (kf (k % st)))), (4, .int (nI a.1))]) ?_ (0, n, f) _ _ _ _ ls ⟨(by dsimp only; omega), (Nat.zero_le _), rfl, hval, hM, hR, hS, rfl, rfl, lv_sub hl [2, 3, 4, 1, 0] rfl⟩
  rintro ⟨i, u, g⟩ H locs cells slots ls ⟨hu, h2, ht, hv9, hM, hR, hS, rfl, rfl, hl⟩ ih15
  dsimp only at hu h2 ht hv9 hM hR hS hl
  have hb9 := bitN_lt (kf (k % st)) i
  refine lv_iload hx hb dX4_ringStep_15 (lv_at hl 4 rfl) ?_
  refine lv_aload_n hx hb dX4_ringStep_17 rfl (lv_at hl 0 rfl) ?_
  refine x_get (v := .int (nI n)) (C := RX4) (T := TX4) (N := 7) hx hb hts (by decide +kernel) hown hK hM.1 rfl 1 (by decide) (hts (.fieldLink RX4 7 "BellRanksModel" "bells" "I") (by decide +kernel)) (fun _ h9 => h9) rfl dX4_ringStep_18 ?_
  refine xn_icmp_ge (tgt := 70) hx hb dX4_ringStep_21 (by decide) (by omega) (by omega) (fun c21 => ?_) (fun c21 => ?_)
  · exact x_vret hx hb hr hlocks () trivial (by show xRow D cI q n _ H; rw [← ht, rst_end (by omega)]; exact hR) hS (fun _ h => h) dX4_ringStep_70
  · obtain ⟨u, rfl⟩ : ∃ z, u = z + 1 := ⟨u - 1, by omega⟩
    refine lv_iload_n hx hb dX4_ringStep_24 rfl (lv_at hl 3 rfl) ?_
    refine lv_iload hx hb dX4_ringStep_25 (lv_at hl 4 rfl) ?_
    refine lv_ishr hx hb dX4_ringStep_27 ?_
    refine xz_i (xshr (hkf _) (by omega)) ?_
    refine xn_iconst (v := 1) hx hb dX4_ringStep_28 (by decide) ?_
    refine lv_iand hx hb dX4_ringStep_29 ?_
    refine xz_i (y := nI (bitN (kf (k % st)) i)) (xand1 (Nat.lt_of_le_of_lt (Nat.div_le_self _ _) (hkf _))) ?_
    refine xn_iconst (v := 1) hx hb dX4_ringStep_30 (by decide) ?_
    refine xn_icmp_ne (tgt := 37) hx hb dX4_ringStep_31 (by decide) (Nat.lt_trans hb9 (by decide)) (by decide) (fun c31 => ?_) (fun c31 => ?_)
    · have hb0 : bitN (kf (k % st)) i = 0 := by omega
      have hv8 := stp_inv c21 hb0 hv9
      refine lv_aload_n hx hb dX4_ringStep_37 rfl (lv_at hl 1 rfl) ?_
      refine lv_iload hx hb dX4_ringStep_38 (lv_at hl 4 rfl) ?_
      refine x_iald hx hb hK hR (by omega) (by omega) dX4_ringStep_40 ?_
      refine lv_istore (lv' := [(5, .int (nI (g i))), (0, .ref o), (1, .ref q), (2, .int (nI k)), (3, .int (nI (kf (k % st)))), (4, .int (nI i))]) hx hb dX4_ringStep_41 hl (by decide) rfl (fun ls hl => ?_)
      refine lv_aload_n hx hb dX4_ringStep_43 rfl (lv_at hl 2 rfl) ?_
      refine lv_iload hx hb dX4_ringStep_44 (lv_at hl 5 rfl) ?_
      refine lv_aload_n hx hb dX4_ringStep_46 rfl (lv_at hl 2 rfl) ?_
      refine lv_iload hx hb dX4_ringStep_47 (lv_at hl 5 rfl) ?_
      refine xn_iconst (v := 1) hx hb dX4_ringStep_49 (by decide) ?_
      refine xn_iadd hx hb dX4_ringStep_50 ?_
      refine x_iald hx hb hK hR (by omega) (by omega) dX4_ringStep_51 ?_
      refine x_iast hx hb hK hR hS rfl (by omega) (by omega) dX4_ringStep_52 (fun H1 locs1 hN hz oq hS => ?_)
      have hR : xRow D cI q n (va_up g i (g (i + 1))) H1 := hN
      have hM : xMo D cI o bk kp t n ch st rg bf kf H1 := xMo_keep hM (oq _ no) (oq _ nb) (oq _ nk)
      refine lv_aload_n hx hb dX4_ringStep_53 rfl (lv_at hl 2 rfl) ?_
      refine lv_iload hx hb dX4_ringStep_54 (lv_at hl 5 rfl) ?_
      refine xn_iconst (v := 1) hx hb dX4_ringStep_56 (by decide) ?_
      refine xn_iadd hx hb dX4_ringStep_57 ?_
      refine lv_iload hx hb dX4_ringStep_58 (lv_at hl 0 rfl) ?_
      refine x_iast hx hb hK hR hS rfl (by omega) (by omega) dX4_ringStep_60 (fun H1 locs1 hN hz oq hS => ?_)
      have hR : xRow D cI q n (va_up (va_up g i (g (i + 1))) (i + 1) (g i)) H1 := hN
      have hM : xMo D cI o bk kp t n ch st rg bf kf H1 := xMo_keep hM (oq _ no) (oq _ nb) (oq _ nk)
      refine xn_iinc (v := i + 1) (lv' := [(4, .int (nI (i + 1))), (5, .int (nI (g i))), (0, .ref o), (1, .ref q), (2, .int (nI k)), (3, .int (nI (kf (k % st))))]) hx hb dX4_ringStep_61 hl (k := 5) rfl (xinc1 _) (by decide) rfl (fun ls hl => ?_)
      refine xn_iinc (v := i + 1 + 1) (lv' := [(4, .int (nI (i + 1 + 1))), (5, .int (nI (g i))), (0, .ref o), (1, .ref q), (2, .int (nI k)), (3, .int (nI (kf (k % st))))]) hx hb dX4_ringStep_64 hl (k := 0) rfl (xinc1 _) (by decide) rfl (fun ls hl => ?_)
      refine lv_goto (tgt := 15) hx hb dX4_ringStep_67 (by decide) ?_
      exact ih15 (i + 1 + 1, u, va_up (va_up g i (g (i + 1))) (i + 1) (g i)) _ _ _ _ ls ⟨(by dsimp only; omega), (by dsimp only; omega), ((rst_x hv8.1 hb0).symm.trans ht), hv8.2.2, hM, hR, hS, rfl, rfl, lv_sub hl [2, 3, 4, 5, 0] rfl⟩ (by dsimp only; omega)
    · refine lv_goto (tgt := 64) hx hb dX4_ringStep_34 (by decide) ?_
      refine xn_iinc (v := i + 1) (lv' := [(4, .int (nI (i + 1))), (0, .ref o), (1, .ref q), (2, .int (nI k)), (3, .int (nI (kf (k % st))))]) hx hb dX4_ringStep_64 hl (k := 4) rfl (xinc1 _) (by decide) rfl (fun ls hl => ?_)
      refine lv_goto (tgt := 15) hx hb dX4_ringStep_67 (by decide) ?_
      exact ih15 (i + 1, u, g) _ _ _ _ ls ⟨(by dsimp only; omega), (by dsimp only; omega), ((rst_k2 c21 c31).symm.trans ht), ((stp_k c21 c31).symm.trans hv9), hM, hR, hS, rfl, rfl, lv_sub hl [1, 2, 3, 4, 0] rfl⟩ (by dsimp only; omega)

set_option maxRecDepth 100000 in
set_option maxHeartbeats 4000000 in
theorem cX4_isStep_ (l : Launch) (D : va_G) (cI cC : ClassId) (o bk kp t n ch st rg : Nat) (bf kf : Nat → Nat) (hn : n ≤ 8) (k : Int32) : Met l yX4_isStep wsX4_isStep (xRm 1 0 0) (va_Pc [.ref o, .int k] (xB D cI cC (xMo D cI o bk kp t n ch st rg bf kf))) (vp_Si (fun x => x = nI (if inR k (2 ^ n) then stp k.toNatClampNeg n n 0 else 0))) 0 0 (fun _ => False) := by
  refine Met.ofW (cc := cX4_isStep) (maxL := 5) (ret := (some .boolean)) (by decide) rfl ?_
  intro p e s m args below meth c s₁ B hml hv
  obtain ⟨rfl, hP, hK⟩ := hv
  have hx := B.exec
  have hb := B.bytes
  have hr := B.returns
  have hts := atoms_spec (ws := wsX4_isStep) B.pre
  have hown : s.vm.findClass RX4 = some m.cls := findClass_of_methodNamed B.named
  have hlocks := B.notSynchronized
  have hM := hP
  have hl := lv_entry ([.ref o, .int k]) (n := 5) (Nat.le_of_ble_eq_true rfl)
  rw [lg_entry_eq]
  generalize (lg_sl ([.ref o, .int k]) ++ List.replicate (5 - (lg_sl ([.ref o, .int k])).length) Slot.unset).toArray = ls at hl ⊢
  have hl : lv_has ls 5 [(0, .ref o), (1, .int k)] := hl
  have hpw : 2 ^ n < 2 ^ 30 := Nat.pow_lt_pow_right (by decide) (by omega)
  refine lv_iload_n hx hb dX4_isStep_0 rfl (lv_at hl 1 rfl) ?_
  refine xn_iconst (v := 0) hx hb dX4_isStep_1 (by decide) ?_
  refine xn_iconst (v := 1) hx hb dX4_isStep_2 (by decide) ?_
  refine lv_aload_n hx hb dX4_isStep_3 rfl (lv_at hl 0 rfl) ?_
  refine x_get (v := .int (nI n)) (C := RX4) (T := TX4) (N := 7) hx hb hts (by decide +kernel) hown hK hM.1 rfl 1 (by decide) (hts (.fieldLink RX4 7 "BellRanksModel" "bells" "I") (by decide +kernel)) (fun _ h9 => h9) rfl dX4_isStep_4 ?_
  refine lv_ishl hx hb dX4_isStep_7 ?_
  refine xz_i ((xshl (by rw [Nat.one_mul]; exact Nat.lt_trans hpw (by decide)) (by omega)).trans (congrArg nI (Nat.one_mul _))) ?_
  refine xn_iconst (v := 1) hx hb dX4_isStep_8 (by decide) ?_
  refine lv_isub hx hb dX4_isStep_9 ?_
  refine xcS (As := [.int k, .int (nI 0), .int (nI (2 ^ n) - nI 1)]) (rest := []) ⟨hx, hb, hml, hown, hts⟩ (cX4_isIn_ l D cI cC k (nI 0) (nI (2 ^ n) - nI 1)) (va_cwS 3 hts gX4_isStep_X4_isIn rfl rfl rfl (by decide +kernel) ⟨Nat.le_of_ble_eq_true rfl, Nat.le_of_ble_eq_true rfl⟩) hK trivial rfl hl.1 rfl (Nat.le_of_ble_eq_true rfl) dX4_isStep_10 ⟨Nat.zero_le _, Nat.zero_le _⟩ (fun x10 e10 => ?_)
  subst e10
  refine xz_i (congrArg nI (ite10 (inR_in hpw))) ?_
  refine xn_if_ne (tgt := 18) hx hb dX4_isStep_13 (by decide) (by split <;> decide) (fun c13 => ?_) (fun c13 => ?_)
  · have hin : inR k (2 ^ n) := by
      by_cases h : inR k (2 ^ n)
      · exact h
      · rw [if_neg h] at c13; exact absurd c13 (by decide)
    obtain ⟨kn, hk1, hk2, rfl⟩ := inR_of hin
    refine xn_iconst (v := 0) hx hb dX4_isStep_18 (by decide) ?_
    refine lv_istore_n (lv' := [(2, .int (nI 0)), (0, .ref o), (1, .int (nI kn))]) hx hb dX4_isStep_19 rfl hl (by decide) rfl (fun ls hl => ?_)
    refine xn_iconst (v := 0) hx hb dX4_isStep_20 (by decide) ?_
    refine lv_istore_n (lv' := [(3, .int (nI 0)), (2, .int (nI 0)), (0, .ref o), (1, .int (nI kn))]) hx hb dX4_isStep_21 rfl hl (by decide) rfl (fun ls hl => ?_)
    refine x_loop (σ := Nat × Nat) (fun a => n - a.2) (fun a ls => (a.2 ≤ n) ∧ (a.1 ≤ a.2) ∧ (msp kn n (n - a.2) a.1 = msp kn n n 0) ∧ lv_has ls 5 [(0, .ref o), (1, .int (nI kn)), (2, .int (nI a.1)), (3, .int (nI a.2))]) ?_ (0, 0) ls ⟨(Nat.zero_le _), (Nat.le_refl _), rfl, lv_sub hl [2, 3, 1, 0] rfl⟩
    rintro ⟨op, i⟩ ls ⟨h2, h3, ht, hl⟩ ih22
    dsimp only at h2 h3 ht hl
    have hb9 := bitN_lt kn i
    refine lv_iload_n hx hb dX4_isStep_22 rfl (lv_at hl 3 rfl) ?_
    refine lv_aload_n hx hb dX4_isStep_23 rfl (lv_at hl 0 rfl) ?_
    refine x_get (v := .int (nI n)) (C := RX4) (T := TX4) (N := 7) hx hb hts (by decide +kernel) hown hK hM.1 rfl 1 (by decide) (hts (.fieldLink RX4 7 "BellRanksModel" "bells" "I") (by decide +kernel)) (fun _ h9 => h9) rfl dX4_isStep_24 ?_
    refine xn_icmp_ge (tgt := 79) hx hb dX4_isStep_27 (by decide) (by omega) (by omega) (fun c27 => ?_) (fun c27 => ?_)
    · rw [show n - i = 0 by omega] at ht
      have ht : (if op % 2 = 0 then 1 else 0) = msp kn n n 0 := ht
      refine lv_iload_n hx hb dX4_isStep_79 rfl (lv_at hl 2 rfl) ?_
      refine xn_iconst (v := 2) hx hb dX4_isStep_80 (by decide) ?_
      refine xn_irem hx hb (by omega) (by decide) (by decide) dX4_isStep_81 ?_
      refine xn_if_ne (tgt := 89) hx hb dX4_isStep_82 (by decide) (by omega) (fun c82 => ?_) (fun c82 => ?_)
      · rw [if_neg (by omega)] at ht
        refine xn_iconst (v := 0) hx hb dX4_isStep_89 (by decide) ?_
        exact x_zret hx hb hr hlocks rfl (by decide) (by rw [if_pos hin, nI_clamp hk2, ← msp_stp n hn kn hk1, ← ht]) dX4_isStep_90
      · rw [if_pos c82] at ht
        refine xn_iconst (v := 1) hx hb dX4_isStep_85 (by decide) ?_
        refine lv_goto (tgt := 90) hx hb dX4_isStep_86 (by decide) ?_
        exact x_zret hx hb hr hlocks rfl (by decide) (by rw [if_pos hin, nI_clamp hk2, ← msp_stp n hn kn hk1, ← ht]) dX4_isStep_90
    · have hni : n - i = n - (i + 1) + 1 := by omega
      have hni2 : n - (n - (i + 1) + 1) = i := by omega
      rw [hni] at ht
      refine lv_iload_n hx hb dX4_isStep_30 rfl (lv_at hl 1 rfl) ?_
      refine lv_iload_n hx hb dX4_isStep_31 rfl (lv_at hl 3 rfl) ?_
      refine lv_ishr hx hb dX4_isStep_32 ?_
      refine xz_i (xshr (by omega) (by omega)) ?_
      refine xn_iconst (v := 1) hx hb dX4_isStep_33 (by decide) ?_
      refine lv_iand hx hb dX4_isStep_34 ?_
      refine xz_i (y := nI (bitN kn i)) (xand1 (Nat.lt_of_le_of_lt (Nat.div_le_self _ _) (by omega))) ?_
      refine xn_iconst (v := 1) hx hb dX4_isStep_35 (by decide) ?_
      refine xn_icmp_ne (tgt := 43) hx hb dX4_isStep_36 (by decide) (Nat.lt_trans hb9 (by decide)) (by decide) (fun c36 => ?_) (fun c36 => ?_)
      · have ht : (if bitN kn (n - (n - (i + 1) + 1)) = 1 then (if op % 2 = 1 then 0 else msp kn n (n - (i + 1)) 0) else msp kn n (n - (i + 1)) (op + 1)) = msp kn n n 0 := ht
        rw [hni2] at ht
        rw [if_neg c36] at ht
        refine xn_iconst (v := 0) hx hb dX4_isStep_43 (by decide) ?_
        refine lv_istore (lv' := [(4, .int (nI 0)), (0, .ref o), (1, .int (nI kn)), (2, .int (nI op)), (3, .int (nI i))]) hx hb dX4_isStep_44 hl (by decide) rfl (fun ls hl => ?_)
        refine lv_iload hx hb dX4_isStep_46 (lv_at hl 0 rfl) ?_
        refine xn_if_eq (tgt := 60) hx hb dX4_isStep_48 (by decide) (by decide) (fun _ => ?_) (fun c => absurd c (by decide))
        refine lv_iload hx hb dX4_isStep_60 (lv_at hl 0 rfl) ?_
        refine xn_if_eq (tgt := 69) hx hb dX4_isStep_62 (by decide) (by decide) (fun _ => ?_) (fun c => absurd c (by decide))
        refine lv_iload_n hx hb dX4_isStep_69 rfl (lv_at hl 3 rfl) ?_
        refine xn_iconst (v := 1) hx hb dX4_isStep_70 (by decide) ?_
        refine xn_iadd hx hb dX4_isStep_71 ?_
        refine lv_istore_n (lv' := [(2, .int (nI (op + 1))), (4, .int (nI 0)), (0, .ref o), (1, .int (nI kn)), (3, .int (nI i))]) hx hb dX4_isStep_72 rfl hl (by decide) rfl (fun ls hl => ?_)
        refine xn_iinc (v := i + 1) (lv' := [(3, .int (nI (i + 1))), (2, .int (nI (op + 1))), (4, .int (nI 0)), (0, .ref o), (1, .int (nI kn))]) hx hb dX4_isStep_73 hl (k := 4) rfl (xinc1 _) (by decide) rfl (fun ls hl => ?_)
        refine lv_goto (tgt := 22) hx hb dX4_isStep_76 (by decide) ?_
        exact ih22 (op + 1, i + 1) ls ⟨(by dsimp only; omega), (by dsimp only; omega), ht, lv_sub hl [3, 4, 1, 0] rfl⟩ (by dsimp only; omega)
      · have ht : (if bitN kn (n - (n - (i + 1) + 1)) = 1 then (if op % 2 = 1 then 0 else msp kn n (n - (i + 1)) 0) else msp kn n (n - (i + 1)) (op + 1)) = msp kn n n 0 := ht
        rw [hni2] at ht
        rw [if_pos c36] at ht
        refine xn_iconst (v := 1) hx hb dX4_isStep_39 (by decide) ?_
        refine lv_goto (tgt := 44) hx hb dX4_isStep_40 (by decide) ?_
        refine lv_istore (lv' := [(4, .int (nI 1)), (0, .ref o), (1, .int (nI kn)), (2, .int (nI op)), (3, .int (nI i))]) hx hb dX4_isStep_44 hl (by decide) rfl (fun ls hl => ?_)
        refine lv_iload hx hb dX4_isStep_46 (lv_at hl 0 rfl) ?_
        refine xn_if_eq (tgt := 60) hx hb dX4_isStep_48 (by decide) (by decide) (fun c => absurd c (by decide)) (fun _ => ?_)
        refine lv_iload_n hx hb dX4_isStep_51 rfl (lv_at hl 3 rfl) ?_
        refine xn_iconst (v := 2) hx hb dX4_isStep_52 (by decide) ?_
        refine xn_irem hx hb (by omega) (by decide) (by decide) dX4_isStep_53 ?_
        refine xn_iconst (v := 1) hx hb dX4_isStep_54 (by decide) ?_
        refine xn_icmp_ne (tgt := 60) hx hb dX4_isStep_55 (by decide) (by omega) (by decide) (fun c55 => ?_) (fun c55 => ?_)
        · rw [if_neg c55] at ht
          refine lv_iload hx hb dX4_isStep_60 (lv_at hl 0 rfl) ?_
          refine xn_if_eq (tgt := 69) hx hb dX4_isStep_62 (by decide) (by decide) (fun c => absurd c (by decide)) (fun _ => ?_)
          refine xn_iconst (v := 0) hx hb dX4_isStep_65 (by decide) ?_
          refine lv_goto (tgt := 72) hx hb dX4_isStep_66 (by decide) ?_
          refine lv_istore_n (lv' := [(2, .int (nI 0)), (4, .int (nI 1)), (0, .ref o), (1, .int (nI kn)), (3, .int (nI i))]) hx hb dX4_isStep_72 rfl hl (by decide) rfl (fun ls hl => ?_)
          refine xn_iinc (v := i + 1) (lv' := [(3, .int (nI (i + 1))), (2, .int (nI 0)), (4, .int (nI 1)), (0, .ref o), (1, .int (nI kn))]) hx hb dX4_isStep_73 hl (k := 4) rfl (xinc1 _) (by decide) rfl (fun ls hl => ?_)
          refine lv_goto (tgt := 22) hx hb dX4_isStep_76 (by decide) ?_
          exact ih22 (0, i + 1) ls ⟨(by dsimp only; omega), (by dsimp only; omega), ht, lv_sub hl [3, 4, 1, 0] rfl⟩ (by dsimp only; omega)
        · rw [if_pos c55] at ht
          refine xn_iconst (v := 0) hx hb dX4_isStep_58 (by decide) ?_
          exact x_zret hx hb hr hlocks rfl (by decide) (by rw [if_pos hin, nI_clamp hk2, ← msp_stp n hn kn hk1, ← ht]) dX4_isStep_59
  · refine xn_iconst (v := 0) hx hb dX4_isStep_16 (by decide) ?_
    exact x_zret hx hb hr hlocks rfl (by decide) (by rw [if_neg (fun h => by rw [if_pos h] at c13; exact absurd c13 (by decide))]) dX4_isStep_17

set_option maxRecDepth 100000 in
set_option maxHeartbeats 4000000 in
theorem cX4_no_ (l : Launch) (D : va_G) (cI cC : ClassId) (o bk kp t n ch st rg : Nat) (bf kf : Nat → Nat) (d1 : o ≠ bk) (d2 : o ≠ kp) (d3 : bk ≠ kp) (z : Nat) : Met l yX4_no wsX4_no (xRm 0 0 0) (va_Pc [.ref o, .int (nI z)] (xB D cI cC (xMo D cI o bk kp t n ch st rg bf kf))) (xI (fun x (_ : Unit) => x = nI 0) (fun _ => xMo D cI o bk kp z n ch st rg bf kf) (fun q9 => q9 = o)) 0 0 (fun q9 => q9 = o) := by
  refine Met.ofW (cc := cX4_no) (maxL := 2) (ret := (some .int)) (by decide) rfl ?_
  intro p e s m args below meth c s₁ B hml hv
  obtain ⟨rfl, hP, hK⟩ := hv
  have hx := B.exec
  have hb := B.bytes
  have hr := B.returns
  have hts := atoms_spec (ws := wsX4_no) B.pre
  have hown : s.vm.findClass RX4 = some m.cls := findClass_of_methodNamed B.named
  have hlocks := B.notSynchronized
  have hM := hP
  have hl := lv_entry ([.ref o, .int (nI z)]) (n := 2) (Nat.le_of_ble_eq_true rfl)
  rw [lg_entry_eq]
  generalize (lg_sl ([.ref o, .int (nI z)]) ++ List.replicate (2 - (lg_sl ([.ref o, .int (nI z)])).length) Slot.unset).toArray = ls at hl ⊢
  have hl : lv_has ls 2 [(0, .ref o), (1, .int (nI z))] := hl
  have hS : va_S (fun q9 => q9 = o) s.heap s.heap [] := va_S.rf
  refine lv_aload_n hx hb dX4_no_0 rfl (lv_at hl 0 rfl) ?_
  refine lv_iload_n hx hb dX4_no_1 rfl (lv_at hl 1 rfl) ?_
  refine x_put (v := .int (nI z)) (ty := .int) (C := RX4) (T := TX4) (N := 7) hx hb hts (by decide +kernel) tyX4 tyX4_ok nmX4 hown hK hM.1 hS rfl rfl 0 (by decide) (hts (.fieldLink RX4 20 "BellRanksModel" "thrown" "I") (by decide +kernel)) (fun _ h9 => h9) rfl (by decide +kernel) rfl rfl (Nat.le_of_ble_eq_true rfl) dX4_no_2 (fun H1 locs1 hN hz oq hS => ?_)
  have hM : xMo D cI o bk kp z n ch st rg bf kf H1 := ⟨hN, hM.2.1.kept (oq _ (Ne.symm d1)), hM.2.2.kept (oq _ (Ne.symm d2))⟩
  refine xn_iconst (v := 0) hx hb dX4_no_5 (by decide) ?_
  exact x_miret hx hb hr hlocks () rfl hM hS (fun _ h => h) dX4_no_6

set_option maxRecDepth 100000 in
set_option maxHeartbeats 4000000 in
theorem cX4_add_ (l : Launch) (D : va_G) (cI cC : ClassId) (o bk kp t n ch st rg : Nat) (bf kf : Nat → Nat) (d1 : o ≠ bk) (d2 : o ≠ kp) (d3 : bk ≠ kp) (hch : ch < 16) (v : Nat) : Met l yX4_add wsX4_add (xRm 0 0 0) (va_Pc [.ref o, .int (nI v)] (xB D cI cC (xMo D cI o bk kp t n ch st rg bf kf))) (xI (fun x (_ : Unit) => x = nI ch) (fun _ => xMo D cI o bk kp t n (ch + 1) st rg (va_up bf ch v) kf) (fun q9 => q9 = o ∨ q9 = bk)) 0 0 (fun q9 => q9 = o ∨ q9 = bk) := by
  refine Met.ofW (cc := cX4_add) (maxL := 2) (ret := (some .int)) (by decide) rfl ?_
  intro p e s m args below meth c s₁ B hml hv
  obtain ⟨rfl, hP, hK⟩ := hv
  have hx := B.exec
  have hb := B.bytes
  have hr := B.returns
  have hts := atoms_spec (ws := wsX4_add) B.pre
  have hown : s.vm.findClass RX4 = some m.cls := findClass_of_methodNamed B.named
  have hlocks := B.notSynchronized
  have hM := hP
  have hl := lv_entry ([.ref o, .int (nI v)]) (n := 2) (Nat.le_of_ble_eq_true rfl)
  rw [lg_entry_eq]
  generalize (lg_sl ([.ref o, .int (nI v)]) ++ List.replicate (2 - (lg_sl ([.ref o, .int (nI v)])).length) Slot.unset).toArray = ls at hl ⊢
  have hl : lv_has ls 2 [(0, .ref o), (1, .int (nI v))] := hl
  have hS : va_S (fun q9 => q9 = o ∨ q9 = bk) s.heap s.heap [] := va_S.rf
  refine lv_aload_n hx hb dX4_add_0 rfl (lv_at hl 0 rfl) ?_
  refine x_get (v := .ref bk) (C := RX4) (T := TX4) (N := 7) hx hb hts (by decide +kernel) hown hK hM.1 rfl 3 (by decide) (hts (.fieldLink RX4 13 "BellRanksModel" "book" "[I") (by decide +kernel)) (fun _ h9 => h9) rfl dX4_add_1 ?_
  refine lv_aload_n hx hb dX4_add_4 rfl (lv_at hl 0 rfl) ?_
  refine x_get (v := .int (nI ch)) (C := RX4) (T := TX4) (N := 7) hx hb hts (by decide +kernel) hown hK hM.1 rfl 2 (by decide) (hts (.fieldLink RX4 23 "BellRanksModel" "changes" "I") (by decide +kernel)) (fun _ h9 => h9) rfl dX4_add_5 ?_
  refine lv_iload_n hx hb dX4_add_8 rfl (lv_at hl 1 rfl) ?_
  refine x_iast hx hb hK hM.2.1 hS (Or.inr rfl) (by omega) (by decide) dX4_add_9 (fun H1 locs1 hN hz oq hS => ?_)
  have hM : xMo D cI o bk kp t n ch st rg (va_up bf ch v) kf H1 := ⟨hM.1.kept (oq _ d1), hN, hM.2.2.kept (oq _ (Ne.symm d3))⟩
  refine lv_aload_n hx hb dX4_add_10 rfl (lv_at hl 0 rfl) ?_
  refine lv_dup hx hb dX4_add_11 rfl ?_
  refine x_get (v := .int (nI ch)) (C := RX4) (T := TX4) (N := 7) hx hb hts (by decide +kernel) hown hK hM.1 rfl 2 (by decide) (hts (.fieldLink RX4 23 "BellRanksModel" "changes" "I") (by decide +kernel)) (fun _ h9 => h9) rfl dX4_add_12 ?_
  refine xn_iconst (v := 1) hx hb dX4_add_15 (by decide) ?_
  refine xn_iadd hx hb dX4_add_16 ?_
  refine x_put (v := .int (nI (ch + 1))) (ty := .int) (C := RX4) (T := TX4) (N := 7) hx hb hts (by decide +kernel) tyX4 tyX4_ok nmX4 hown hK hM.1 hS (Or.inl rfl) rfl 2 (by decide) (hts (.fieldLink RX4 23 "BellRanksModel" "changes" "I") (by decide +kernel)) (fun _ h9 => h9) rfl (by decide +kernel) rfl rfl (Nat.le_of_ble_eq_true rfl) dX4_add_17 (fun H1 locs1 hN hz oq hS => ?_)
  have hM : xMo D cI o bk kp t n (ch + 1) st rg (va_up bf ch v) kf H1 := ⟨hN, hM.2.1.kept (oq _ (Ne.symm d1)), hM.2.2.kept (oq _ (Ne.symm d2))⟩
  refine lv_aload_n hx hb dX4_add_20 rfl (lv_at hl 0 rfl) ?_
  refine x_get (v := .int (nI (ch + 1))) (C := RX4) (T := TX4) (N := 7) hx hb hts (by decide +kernel) hown hK hM.1 rfl 2 (by decide) (hts (.fieldLink RX4 23 "BellRanksModel" "changes" "I") (by decide +kernel)) (fun _ h9 => h9) rfl dX4_add_21 ?_
  refine xn_iconst (v := 1) hx hb dX4_add_24 (by decide) ?_
  refine xn_isub hx hb (by omega) dX4_add_25 ?_
  exact x_miret hx hb hr hlocks () (by rw [Nat.add_sub_cancel]) hM hS (fun _ h => h) dX4_add_26

set_option maxRecDepth 100000 in
set_option maxHeartbeats 4000000 in
theorem cX4_become_ (l : Launch) (D : va_G) (cI cC : ClassId) (o bk kp t n ch st rg : Nat) (bf kf : Nat → Nat) (d1 : o ≠ bk) (d2 : o ≠ kp) (d3 : bk ≠ kp) (q : Nat) (f : Nat → Nat) (nb : q ≠ bk) (hn : n ≤ 8) (hf : ∀ i, i < n → f i < 100) (j : Nat) (hj : j < 16) : Met l yX4_become wsX4_become (xRm 9 0 0) (va_Pc [.ref o, .int (nI j), .ref q] (xB D cI cC (fun H => xMo D cI o bk kp t n ch st rg bf kf H ∧ xRow D cI q n f H))) (xI (fun x (_ : Unit) => x = nI (hrk f n n)) (fun _ => xMo D cI o bk kp t n ch st rg (va_up bf j (hrk f n n)) kf) (fun q9 => q9 = bk)) 0 0 (fun q9 => q9 = bk) := by
  refine Met.ofW (cc := cX4_become) (maxL := 3) (ret := (some .int)) (by decide) rfl ?_
  intro p e s m args below meth c s₁ B hml hv
  obtain ⟨rfl, hP, hK⟩ := hv
  have hx := B.exec
  have hb := B.bytes
  have hr := B.returns
  have hts := atoms_spec (ws := wsX4_become) B.pre
  have hown : s.vm.findClass RX4 = some m.cls := findClass_of_methodNamed B.named
  have hlocks := B.notSynchronized
  obtain ⟨hM, hR⟩ := hP
  have hl := lv_entry ([.ref o, .int (nI j), .ref q]) (n := 3) (Nat.le_of_ble_eq_true rfl)
  rw [lg_entry_eq]
  generalize (lg_sl ([.ref o, .int (nI j), .ref q]) ++ List.replicate (3 - (lg_sl ([.ref o, .int (nI j), .ref q])).length) Slot.unset).toArray = ls at hl ⊢
  have hl : lv_has ls 3 [(0, .ref o), (1, .int (nI j)), (2, .ref q)] := hl
  have hS : va_S (fun q9 => q9 = bk) s.heap s.heap [] := va_S.rf
  refine lv_aload_n hx hb dX4_become_0 rfl (lv_at hl 0 rfl) ?_
  refine x_get (v := .ref bk) (C := RX4) (T := TX4) (N := 7) hx hb hts (by decide +kernel) hown hK hM.1 rfl 3 (by decide) (hts (.fieldLink RX4 13 "BellRanksModel" "book" "[I") (by decide +kernel)) (fun _ h9 => h9) rfl dX4_become_1 ?_
  refine lv_iload_n hx hb dX4_become_4 rfl (lv_at hl 1 rfl) ?_
  refine lv_aload_n hx hb dX4_become_5 rfl (lv_at hl 0 rfl) ?_
  refine lv_aload_n hx hb dX4_become_6 rfl (lv_at hl 2 rfl) ?_
  refine xcV (As := [.ref q]) (rest := [.int (nI j), .ref bk]) ⟨hx, hb, hml, hown, hts⟩ (cX4_rank_ l D cI cC o bk kp t n ch st rg bf kf q f hn hf) (cwV 1 hts gX4_become_X4_rank rfl rfl rfl (by decide +kernel) ⟨Nat.le_of_ble_eq_true rfl, Nat.le_of_ble_eq_true rfl⟩) hK ⟨hM, hR⟩ (xRecv hK rfl hM.1) rfl hl.1 rfl (Nat.le_of_ble_eq_true rfl) dX4_become_7 ⟨Nat.zero_le _, Nat.zero_le _⟩ (fun x7 e7 => ?_)
  subst e7
  refine x_iast hx hb hK hM.2.1 hS rfl (by omega) (by decide) dX4_become_10 (fun H1 locs1 hN hz oq hS => ?_)
  have hM : xMo D cI o bk kp t n ch st rg (va_up bf j (hrk f n n)) kf H1 := ⟨hM.1.kept (oq _ d1), hN, hM.2.2.kept (oq _ (Ne.symm d3))⟩
  have hR : xRow D cI q n f H1 := va_at.kept hR (oq _ nb)
  refine lv_aload_n hx hb dX4_become_11 rfl (lv_at hl 0 rfl) ?_
  refine x_get (v := .ref bk) (C := RX4) (T := TX4) (N := 7) hx hb hts (by decide +kernel) hown hK hM.1 rfl 3 (by decide) (hts (.fieldLink RX4 13 "BellRanksModel" "book" "[I") (by decide +kernel)) (fun _ h9 => h9) rfl dX4_become_12 ?_
  refine lv_iload_n hx hb dX4_become_15 rfl (lv_at hl 1 rfl) ?_
  refine x_iald hx hb hK hM.2.1 (by omega) (by decide) dX4_become_16 ?_
  exact x_miret hx hb hr hlocks () (congrArg nI (va_up_self _ _ _)) hM hS (fun _ h => h) dX4_become_17

set_option maxRecDepth 100000 in
set_option maxHeartbeats 4000000 in
theorem cX4_different_ (l : Launch) (D : va_G) (cI cC : ClassId) (o bk kp t n ch st rg : Nat) (bf kf : Nat → Nat) (hch : ch ≤ 16) (hbf : ∀ i, bf i < 2 ^ 31) : Met l yX4_different wsX4_different (xRm 0 0 0) (va_Pc [.ref o] (xB D cI cC (xMo D cI o bk kp t n ch st rg bf kf))) (vp_Si (fun x => x = nI (sm (nwf bf) ch))) 0 0 (fun _ => False) := by
  refine Met.ofW (cc := cX4_different) (maxL := 5) (ret := (some .int)) (by decide) rfl ?_
  intro p e s m args below meth c s₁ B hml hv
  obtain ⟨rfl, hP, hK⟩ := hv
  have hx := B.exec
  have hb := B.bytes
  have hr := B.returns
  have hts := atoms_spec (ws := wsX4_different) B.pre
  have hown : s.vm.findClass RX4 = some m.cls := findClass_of_methodNamed B.named
  have hlocks := B.notSynchronized
  have hM := hP
  have hl := lv_entry ([.ref o]) (n := 5) (Nat.le_of_ble_eq_true rfl)
  rw [lg_entry_eq]
  generalize (lg_sl ([.ref o]) ++ List.replicate (5 - (lg_sl ([.ref o])).length) Slot.unset).toArray = ls at hl ⊢
  have hl : lv_has ls 5 [(0, .ref o)] := hl
  refine xn_iconst (v := 0) hx hb dX4_different_0 (by decide) ?_
  refine lv_istore_n (lv' := [(1, .int (nI 0)), (0, .ref o)]) hx hb dX4_different_1 rfl hl (by decide) rfl (fun ls hl => ?_)
  refine xn_iconst (v := 0) hx hb dX4_different_2 (by decide) ?_
  refine lv_istore_n (lv' := [(2, .int (nI 0)), (1, .int (nI 0)), (0, .ref o)]) hx hb dX4_different_3 rfl hl (by decide) rfl (fun ls hl => ?_)
  refine x_loop (σ := Nat × Nat) (fun a => ch - a.2) (fun a ls => (a.2 ≤ ch) ∧ (a.1 = sm (nwf bf) a.2) ∧ lv_has ls 5 [(0, .ref o), (1, .int (nI a.1)), (2, .int (nI a.2))]) ?_ (0, 0) ls ⟨(Nat.zero_le _), rfl, lv_sub hl [2, 1, 0] rfl⟩
  rintro ⟨L, k⟩ ls ⟨h2, h3, hl⟩ ih4
  dsimp only at h2 h3 hl
  refine lv_iload_n hx hb dX4_different_4 rfl (lv_at hl 2 rfl) ?_
  refine lv_aload_n hx hb dX4_different_5 rfl (lv_at hl 0 rfl) ?_
  refine x_get (v := .int (nI ch)) (C := RX4) (T := TX4) (N := 7) hx hb hts (by decide +kernel) hown hK hM.1 rfl 2 (by decide) (hts (.fieldLink RX4 23 "BellRanksModel" "changes" "I") (by decide +kernel)) (fun _ h9 => h9) rfl dX4_different_6 ?_
  refine xn_icmp_ge (tgt := 71) hx hb dX4_different_9 (by decide) (by omega) (by omega) (fun c9 => ?_) (fun c9 => ?_)
  · refine lv_iload_n hx hb dX4_different_71 rfl (lv_at hl 1 rfl) ?_
    exact x_iret hx hb hr hlocks rfl (by rw [h3, show k = ch by omega]) dX4_different_72
  · refine xn_iconst (v := 1) hx hb dX4_different_12 (by decide) ?_
    refine lv_istore_n (lv' := [(3, .int (nI 1)), (0, .ref o), (1, .int (nI L)), (2, .int (nI k))]) hx hb dX4_different_13 rfl hl (by decide) rfl (fun ls hl => ?_)
    refine xn_iconst (v := 0) hx hb dX4_different_14 (by decide) ?_
    refine lv_istore (lv' := [(4, .int (nI 0)), (3, .int (nI 1)), (0, .ref o), (1, .int (nI L)), (2, .int (nI k))]) hx hb dX4_different_15 hl (by decide) rfl (fun ls hl => ?_)
    refine x_loop (σ := Nat × Nat) (fun a => k - a.2) (fun a ls => (a.2 ≤ k) ∧ (a.1 = nwg bf k a.2) ∧ lv_has ls 5 [(0, .ref o), (1, .int (nI L)), (2, .int (nI k)), (3, .int (nI a.1)), (4, .int (nI a.2))]) ?_ (1, 0) ls ⟨(Nat.zero_le _), rfl, lv_sub hl [2, 3, 4, 1, 0] rfl⟩
    rintro ⟨w, i⟩ ls ⟨h4, h5, hl⟩ ih17
    dsimp only at h4 h5 hl
    have hw2 : w < 2 := by rw [h5]; exact nwg_lt _ _ _
    refine lv_iload hx hb dX4_different_17 (lv_at hl 4 rfl) ?_
    refine lv_iload_n hx hb dX4_different_19 rfl (lv_at hl 2 rfl) ?_
    refine xn_icmp_ge (tgt := 53) hx hb dX4_different_20 (by decide) (by omega) (by omega) (fun c20 => ?_) (fun c20 => ?_)
    · refine lv_iload_n hx hb dX4_different_53 rfl (lv_at hl 1 rfl) ?_
      refine lv_iload_n hx hb dX4_different_54 rfl (lv_at hl 3 rfl) ?_
      refine xn_if_eq (tgt := 62) hx hb dX4_different_55 (by decide) (by omega) (fun c55 => ?_) (fun c55 => ?_)
      · have hnw : nwf bf k = 0 := by
          unfold nwf
          have e9 : i = k := by omega
          rw [e9] at h5
          omega
        refine xn_iconst (v := 0) hx hb dX4_different_62 (by decide) ?_
        refine xn_iadd hx hb dX4_different_63 ?_
        refine lv_istore_n (lv' := [(1, .int (nI (L + 0))), (0, .ref o), (2, .int (nI k)), (3, .int (nI w)), (4, .int (nI i))]) hx hb dX4_different_64 rfl hl (by decide) rfl (fun ls hl => ?_)
        refine xn_iinc (v := k + 1) (lv' := [(2, .int (nI (k + 1))), (1, .int (nI (L + 0))), (0, .ref o), (3, .int (nI w)), (4, .int (nI i))]) hx hb dX4_different_65 hl (k := 2) rfl (xinc1 _) (by decide) rfl (fun ls hl => ?_)
        refine lv_goto (tgt := 4) hx hb dX4_different_68 (by decide) ?_
        exact ih4 (L + 0, k + 1) ls ⟨(by dsimp only; omega), (by dsimp only; rw [sm_succ, h3]; rw [hnw] <;> rfl), lv_sub hl [2, 1, 0] rfl⟩ (by dsimp only; omega)
      · have hnw : nwf bf k = 1 := by
          unfold nwf
          have e9 : i = k := by omega
          rw [e9] at h5
          omega
        refine xn_iconst (v := 1) hx hb dX4_different_58 (by decide) ?_
        refine lv_goto (tgt := 63) hx hb dX4_different_59 (by decide) ?_
        refine xn_iadd hx hb dX4_different_63 ?_
        refine lv_istore_n (lv' := [(1, .int (nI (L + 1))), (0, .ref o), (2, .int (nI k)), (3, .int (nI w)), (4, .int (nI i))]) hx hb dX4_different_64 rfl hl (by decide) rfl (fun ls hl => ?_)
        refine xn_iinc (v := k + 1) (lv' := [(2, .int (nI (k + 1))), (1, .int (nI (L + 1))), (0, .ref o), (3, .int (nI w)), (4, .int (nI i))]) hx hb dX4_different_65 hl (k := 2) rfl (xinc1 _) (by decide) rfl (fun ls hl => ?_)
        refine lv_goto (tgt := 4) hx hb dX4_different_68 (by decide) ?_
        exact ih4 (L + 1, k + 1) ls ⟨(by dsimp only; omega), (by dsimp only; rw [sm_succ, h3]; rw [hnw] <;> rfl), lv_sub hl [2, 1, 0] rfl⟩ (by dsimp only; omega)
    · refine lv_iload_n hx hb dX4_different_23 rfl (lv_at hl 3 rfl) ?_
      refine lv_aload_n hx hb dX4_different_24 rfl (lv_at hl 0 rfl) ?_
      refine x_get (v := .ref bk) (C := RX4) (T := TX4) (N := 7) hx hb hts (by decide +kernel) hown hK hM.1 rfl 3 (by decide) (hts (.fieldLink RX4 13 "BellRanksModel" "book" "[I") (by decide +kernel)) (fun _ h9 => h9) rfl dX4_different_25 ?_
      refine lv_iload hx hb dX4_different_28 (lv_at hl 4 rfl) ?_
      refine x_iald hx hb hK hM.2.1 (by omega) (by decide) dX4_different_30 ?_
      refine lv_aload_n hx hb dX4_different_31 rfl (lv_at hl 0 rfl) ?_
      refine x_get (v := .ref bk) (C := RX4) (T := TX4) (N := 7) hx hb hts (by decide +kernel) hown hK hM.1 rfl 3 (by decide) (hts (.fieldLink RX4 13 "BellRanksModel" "book" "[I") (by decide +kernel)) (fun _ h9 => h9) rfl dX4_different_32 ?_
      refine lv_iload_n hx hb dX4_different_35 rfl (lv_at hl 2 rfl) ?_
      refine x_iald hx hb hK hM.2.1 (by omega) (by decide) dX4_different_36 ?_
      refine xn_icmp_eq (tgt := 44) hx hb dX4_different_37 (by decide) (hbf _) (hbf _) (fun c37 => ?_) (fun c37 => ?_)
      · refine xn_iconst (v := 0) hx hb dX4_different_44 (by decide) ?_
        refine lv_iand hx hb dX4_different_45 ?_
        refine xz_i (xand01 w hw2 0 (by decide)) ?_
        refine lv_istore_n (lv' := [(3, .int (nI (w * 0))), (0, .ref o), (1, .int (nI L)), (2, .int (nI k)), (4, .int (nI i))]) hx hb dX4_different_46 rfl hl (by decide) rfl (fun ls hl => ?_)
        refine xn_iinc (v := i + 1) (lv' := [(4, .int (nI (i + 1))), (3, .int (nI (w * 0))), (0, .ref o), (1, .int (nI L)), (2, .int (nI k))]) hx hb dX4_different_47 hl (k := 4) rfl (xinc1 _) (by decide) rfl (fun ls hl => ?_)
        refine lv_goto (tgt := 17) hx hb dX4_different_50 (by decide) ?_
        exact ih17 (w * 0, i + 1) ls ⟨(by dsimp only; omega), (by dsimp only; exact (by rw [h5]; show _ = nwg bf k i * (if bf i = bf k then 0 else 1); rw [if_pos c37])), lv_sub hl [2, 3, 4, 1, 0] rfl⟩ (by dsimp only; omega)
      · refine xn_iconst (v := 1) hx hb dX4_different_40 (by decide) ?_
        refine lv_goto (tgt := 45) hx hb dX4_different_41 (by decide) ?_
        refine lv_iand hx hb dX4_different_45 ?_
        refine xz_i (xand01 w hw2 1 (by decide)) ?_
        refine lv_istore_n (lv' := [(3, .int (nI (w * 1))), (0, .ref o), (1, .int (nI L)), (2, .int (nI k)), (4, .int (nI i))]) hx hb dX4_different_46 rfl hl (by decide) rfl (fun ls hl => ?_)
        refine xn_iinc (v := i + 1) (lv' := [(4, .int (nI (i + 1))), (3, .int (nI (w * 1))), (0, .ref o), (1, .int (nI L)), (2, .int (nI k))]) hx hb dX4_different_47 hl (k := 4) rfl (xinc1 _) (by decide) rfl (fun ls hl => ?_)
        refine lv_goto (tgt := 17) hx hb dX4_different_50 (by decide) ?_
        exact ih17 (w * 1, i + 1) ls ⟨(by dsimp only; omega), (by dsimp only; exact (by rw [h5]; show _ = nwg bf k i * (if bf i = bf k then 0 else 1); rw [if_neg c37])), lv_sub hl [2, 3, 4, 1, 0] rfl⟩ (by dsimp only; omega)

set_option maxRecDepth 100000 in
set_option maxHeartbeats 4000000 in
theorem cX4_counted_ (l : Launch) (D : va_G) (cI cC : ClassId) (o bk kp t n ch st rg : Nat) (bf kf : Nat → Nat) (hn : n ≤ 8) (hch : ch ≤ 16) (hbf : ∀ i, bf i < 2 ^ 31) (w : Nat) (hw : w < 6) : Met l yX4_counted wsX4_counted (xRm 8 0 0) (va_Pc [.ref o, .int (nI w)] (xB D cI cC (xMo D cI o bk kp t n ch st rg bf kf))) (vp_Si (fun x => x = nI (cvl n ch st rg (sm (nwf bf) ch) w))) 0 0 (fun _ => False) := by
  refine Met.ofW (cc := cX4_counted) (maxL := 2) (ret := (some .int)) (by decide) rfl ?_
  intro p e s m args below meth c s₁ B hml hv
  obtain ⟨rfl, hP, hK⟩ := hv
  have hx := B.exec
  have hb := B.bytes
  have hr := B.returns
  have hts := atoms_spec (ws := wsX4_counted) B.pre
  have hown : s.vm.findClass RX4 = some m.cls := findClass_of_methodNamed B.named
  have hlocks := B.notSynchronized
  have hM := hP
  have hl := lv_entry ([.ref o, .int (nI w)]) (n := 2) (Nat.le_of_ble_eq_true rfl)
  rw [lg_entry_eq]
  generalize (lg_sl ([.ref o, .int (nI w)]) ++ List.replicate (2 - (lg_sl ([.ref o, .int (nI w)])).length) Slot.unset).toArray = ls at hl ⊢
  have hl : lv_has ls 2 [(0, .ref o), (1, .int (nI w))] := hl
  refine lv_iload_n hx hb dX4_counted_0 rfl (lv_at hl 1 rfl) ?_
  rcases (show w = 0 ∨ w = 1 ∨ w = 2 ∨ w = 3 ∨ w = 4 ∨ w = 5 by omega) with rfl | rfl | rfl | rfl | rfl | rfl
  · refine lv_tableIn (off := 35) (tgt := 36) hx hb dX4_counted_1 (by decide) (by decide) rfl (by decide) ?_
    have hl : lv_has ls 2 [(0, .ref o), (1, .int (nI 0))] := hl
    refine lv_aload_n hx hb dX4_counted_36 rfl (lv_at hl 0 rfl) ?_
    refine x_get (v := .int (nI n)) (C := RX4) (T := TX4) (N := 7) hx hb hts (by decide +kernel) hown hK hM.1 rfl 1 (by decide) (hts (.fieldLink RX4 7 "BellRanksModel" "bells" "I") (by decide +kernel)) (fun _ h9 => h9) rfl dX4_counted_37 ?_
    exact x_iret hx hb hr hlocks rfl rfl dX4_counted_40
  · refine lv_tableIn (off := 40) (tgt := 41) hx hb dX4_counted_1 (by decide) (by decide) rfl (by decide) ?_
    have hl : lv_has ls 2 [(0, .ref o), (1, .int (nI 1))] := hl
    refine lv_aload_n hx hb dX4_counted_41 rfl (lv_at hl 0 rfl) ?_
    refine x_get (v := .int (nI n)) (C := RX4) (T := TX4) (N := 7) hx hb hts (by decide +kernel) hown hK hM.1 rfl 1 (by decide) (hts (.fieldLink RX4 7 "BellRanksModel" "bells" "I") (by decide +kernel)) (fun _ h9 => h9) rfl dX4_counted_42 ?_
    refine xcS (As := [.int (nI n)]) (rest := []) ⟨hx, hb, hml, hown, hts⟩ (cX4_product_ l D cI cC n (by omega)) (va_cwS 1 hts gX4_counted_X4_product rfl rfl rfl (by decide +kernel) ⟨Nat.le_of_ble_eq_true rfl, Nat.le_of_ble_eq_true rfl⟩) hK trivial rfl hl.1 rfl (Nat.le_of_ble_eq_true rfl) dX4_counted_45 ⟨Nat.zero_le _, Nat.zero_le _⟩ (fun x45 e45 => ?_)
    subst e45
    exact x_iret hx hb hr hlocks rfl rfl dX4_counted_48
  · refine lv_tableIn (off := 48) (tgt := 49) hx hb dX4_counted_1 (by decide) (by decide) rfl (by decide) ?_
    have hl : lv_has ls 2 [(0, .ref o), (1, .int (nI 2))] := hl
    refine lv_aload_n hx hb dX4_counted_49 rfl (lv_at hl 0 rfl) ?_
    refine x_get (v := .int (nI ch)) (C := RX4) (T := TX4) (N := 7) hx hb hts (by decide +kernel) hown hK hM.1 rfl 2 (by decide) (hts (.fieldLink RX4 23 "BellRanksModel" "changes" "I") (by decide +kernel)) (fun _ h9 => h9) rfl dX4_counted_50 ?_
    exact x_iret hx hb hr hlocks rfl rfl dX4_counted_53
  · refine lv_tableIn (off := 53) (tgt := 54) hx hb dX4_counted_1 (by decide) (by decide) rfl (by decide) ?_
    have hl : lv_has ls 2 [(0, .ref o), (1, .int (nI 3))] := hl
    refine lv_aload_n hx hb dX4_counted_54 rfl (lv_at hl 0 rfl) ?_
    refine xcV (As := []) (rest := []) ⟨hx, hb, hml, hown, hts⟩ (cX4_different_ l D cI cC o bk kp t n ch st rg bf kf hch hbf) (cwV 0 hts gX4_counted_X4_different rfl rfl rfl (by decide +kernel) ⟨Nat.le_of_ble_eq_true rfl, Nat.le_of_ble_eq_true rfl⟩) hK hM (xRecv hK rfl hM.1) rfl hl.1 rfl (Nat.le_of_ble_eq_true rfl) dX4_counted_55 ⟨Nat.zero_le _, Nat.zero_le _⟩ (fun x55 e55 => ?_)
    subst e55
    exact x_iret hx hb hr hlocks rfl rfl dX4_counted_58
  · refine lv_tableIn (off := 58) (tgt := 59) hx hb dX4_counted_1 (by decide) (by decide) rfl (by decide) ?_
    have hl : lv_has ls 2 [(0, .ref o), (1, .int (nI 4))] := hl
    refine lv_aload_n hx hb dX4_counted_59 rfl (lv_at hl 0 rfl) ?_
    refine x_get (v := .int (nI st)) (C := RX4) (T := TX4) (N := 7) hx hb hts (by decide +kernel) hown hK hM.1 rfl 4 (by decide) (hts (.fieldLink RX4 48 "BellRanksModel" "steps" "I") (by decide +kernel)) (fun _ h9 => h9) rfl dX4_counted_60 ?_
    exact x_iret hx hb hr hlocks rfl rfl dX4_counted_63
  · refine lv_tableOut (tgt := 64) hx hb dX4_counted_1 (by decide) (by decide) ?_
    have hl : lv_has ls 2 [(0, .ref o), (1, .int (nI 5))] := hl
    refine lv_aload_n hx hb dX4_counted_64 rfl (lv_at hl 0 rfl) ?_
    refine x_get (v := .int (nI rg)) (C := RX4) (T := TX4) (N := 7) hx hb hts (by decide +kernel) hown hK hM.1 rfl 6 (by decide) (hts (.fieldLink RX4 91 "BellRanksModel" "rung" "I") (by decide +kernel)) (fun _ h9 => h9) rfl dX4_counted_65 ?_
    exact x_iret hx hb hr hlocks rfl rfl dX4_counted_68

set_option maxRecDepth 100000 in
set_option maxHeartbeats 4000000 in
theorem cX4_toldOf_ (l : Launch) (D : va_G) (cI cC : ClassId) (o bk kp t n ch st rg : Nat) (bf kf : Nat → Nat) (sz : Nat) (q : Nat) (f : Nat → Nat) (hn : n ≤ 8) (hn0 : 0 < n) (hp : Prm n f) (hf : ∀ i, i < n → f i < 100) (w : Nat) (hw : w < 8) : Met l yX4_toldOf wsX4_toldOf (xRm 10 1 8) (va_Pc [.ref o, .ref q, .int (nI w)] (xB D cI cC (fun H => H.size = sz ∧ xMo D cI o bk kp t n ch st rg bf kf H ∧ xRow D cI q n f H))) (xI (fun x (_ : Unit) => x = nI (tld f n w)) (fun _ _ => True) (fun q9 => sz ≤ q9)) 1 8 (fun q9 => sz ≤ q9) := by
  refine Met.ofW (cc := cX4_toldOf) (maxL := 5) (ret := (some .int)) (by decide) rfl ?_
  intro p e s m args below meth c s₁ B hml hv
  obtain ⟨rfl, hP, hK⟩ := hv
  have hx := B.exec
  have hb := B.bytes
  have hr := B.returns
  have hts := atoms_spec (ws := wsX4_toldOf) B.pre
  have hown : s.vm.findClass RX4 = some m.cls := findClass_of_methodNamed B.named
  have hlocks := B.notSynchronized
  obtain ⟨hsz, hM, hR⟩ := hP
  have hl := lv_entry ([.ref o, .ref q, .int (nI w)]) (n := 5) (Nat.le_of_ble_eq_true rfl)
  rw [lg_entry_eq]
  generalize (lg_sl ([.ref o, .ref q, .int (nI w)]) ++ List.replicate (5 - (lg_sl ([.ref o, .ref q, .int (nI w)])).length) Slot.unset).toArray = ls at hl ⊢
  have hl : lv_has ls 5 [(0, .ref o), (1, .ref q), (2, .int (nI w))] := hl
  have hS : va_S (fun q9 => sz ≤ q9) s.heap s.heap [] := va_S.rf
  refine xn_iconst (v := 0) hx hb dX4_toldOf_0 (by decide) ?_
  refine lv_istore_n (lv' := [(3, .int (nI 0)), (0, .ref o), (1, .ref q), (2, .int (nI w))]) hx hb dX4_toldOf_1 rfl hl (by decide) rfl (fun ls hl => ?_)
  refine lv_iload_n hx hb dX4_toldOf_2 rfl (lv_at hl 3 rfl) ?_
  rcases (show w = 0 ∨ w = 1 ∨ w = 2 ∨ w = 3 ∨ w = 4 ∨ w = 5 ∨ w = 6 ∨ w = 7 by omega) with rfl | rfl | rfl | rfl | rfl | rfl | rfl | rfl
  · refine lv_tableIn (off := 41) (tgt := 44) hx hb dX4_toldOf_3 (by decide) (by decide) rfl (by decide) ?_
    have hl : lv_has ls 5 [(3, .int (nI 0)), (0, .ref o), (1, .ref q), (2, .int (nI 0))] := hl
    refine lv_aload_n hx hb dX4_toldOf_44 rfl (lv_at hl 1 rfl) ?_
    refine lv_aload_n hx hb dX4_toldOf_45 rfl (lv_at hl 2 rfl) ?_
    refine xcV (As := [.ref q]) (rest := []) ⟨hx, hb, hml, hown, hts⟩ (cX4_rank_ l D cI cC o bk kp t n ch st rg bf kf q f hn hf) (cwV 1 hts gX4_toldOf_X4_rank rfl rfl rfl (by decide +kernel) ⟨Nat.le_of_ble_eq_true rfl, Nat.le_of_ble_eq_true rfl⟩) hK ⟨hM, hR⟩ (xRecv hK rfl hM.1) rfl hl.1 rfl (Nat.le_of_ble_eq_true rfl) dX4_toldOf_46 ⟨Nat.zero_le _, Nat.zero_le _⟩ (fun x46 e46 => ?_)
    subst e46
    refine W.widen (k := 1) (n := 8) (by omega) (by omega) ?_
    exact x_miret hx hb hr hlocks () rfl trivial hS (fun _ h => h) dX4_toldOf_49
  · refine lv_tableIn (off := 47) (tgt := 50) hx hb dX4_toldOf_3 (by decide) (by decide) rfl (by decide) ?_
    have hl : lv_has ls 5 [(3, .int (nI 0)), (0, .ref o), (1, .ref q), (2, .int (nI 1))] := hl
    refine lv_aload_n hx hb dX4_toldOf_50 rfl (lv_at hl 1 rfl) ?_
    refine lv_aload_n hx hb dX4_toldOf_51 rfl (lv_at hl 2 rfl) ?_
    refine xcV (As := [.ref q]) (rest := []) ⟨hx, hb, hml, hown, hts⟩ (cX4_inversions_ l D cI cC o bk kp t n ch st rg bf kf q f hn hf) (cwV 1 hts gX4_toldOf_X4_inversions rfl rfl rfl (by decide +kernel) ⟨Nat.le_of_ble_eq_true rfl, Nat.le_of_ble_eq_true rfl⟩) hK ⟨hM, hR⟩ (xRecv hK rfl hM.1) rfl hl.1 rfl (Nat.le_of_ble_eq_true rfl) dX4_toldOf_52 ⟨Nat.zero_le _, Nat.zero_le _⟩ (fun x52 e52 => ?_)
    subst e52
    refine W.widen (k := 1) (n := 8) (by omega) (by omega) ?_
    exact x_miret hx hb hr hlocks () rfl trivial hS (fun _ h => h) dX4_toldOf_55
  · refine lv_tableIn (off := 53) (tgt := 56) hx hb dX4_toldOf_3 (by decide) (by decide) rfl (by decide) ?_
    have hl : lv_has ls 5 [(3, .int (nI 0)), (0, .ref o), (1, .ref q), (2, .int (nI 2))] := hl
    refine lv_aload_n hx hb dX4_toldOf_56 rfl (lv_at hl 1 rfl) ?_
    refine lv_aload_n hx hb dX4_toldOf_57 rfl (lv_at hl 2 rfl) ?_
    refine xcV (As := [.ref q]) (rest := []) ⟨hx, hb, hml, hown, hts⟩ (cX4_inversions_ l D cI cC o bk kp t n ch st rg bf kf q f hn hf) (cwV 1 hts gX4_toldOf_X4_inversions rfl rfl rfl (by decide +kernel) ⟨Nat.le_of_ble_eq_true rfl, Nat.le_of_ble_eq_true rfl⟩) hK ⟨hM, hR⟩ (xRecv hK rfl hM.1) rfl hl.1 rfl (Nat.le_of_ble_eq_true rfl) dX4_toldOf_58 ⟨Nat.zero_le _, Nat.zero_le _⟩ (fun x58 e58 => ?_)
    subst e58
    have hib : ivs f n < 2 ^ 31 := Nat.lt_of_le_of_lt (ivs_le f n) (by have := Nat.mul_le_mul hn hn; omega)
    refine xn_iconst (v := 2) hx hb dX4_toldOf_61 (by decide) ?_
    refine xn_irem hx hb hib (by decide) (by decide) dX4_toldOf_62 ?_
    refine W.widen (k := 1) (n := 8) (by omega) (by omega) ?_
    exact x_miret hx hb hr hlocks () rfl trivial hS (fun _ h => h) dX4_toldOf_63
  · refine lv_tableIn (off := 61) (tgt := 64) hx hb dX4_toldOf_3 (by decide) (by decide) rfl (by decide) ?_
    have hl : lv_has ls 5 [(3, .int (nI 0)), (0, .ref o), (1, .ref q), (2, .int (nI 3))] := hl
    refine xn_iconst (v := 0) hx hb dX4_toldOf_64 (by decide) ?_
    refine lv_istore (lv' := [(4, .int (nI 0)), (3, .int (nI 0)), (0, .ref o), (1, .ref q), (2, .int (nI 3))]) hx hb dX4_toldOf_65 hl (by decide) rfl (fun ls hl => ?_)
    refine x_loop (σ := Nat × Nat) (fun a => n - a.2) (fun a ls => (a.2 ≤ n) ∧ (a.1 = sm (lst f n) a.2) ∧ lv_has ls 5 [(0, .ref o), (1, .ref q), (2, .int (nI 3)), (3, .int (nI a.1)), (4, .int (nI a.2))]) ?_ (0, 0) ls ⟨(Nat.zero_le _), rfl, lv_sub hl [2, 3, 4, 1, 0] rfl⟩
    rintro ⟨L, i⟩ ls ⟨h2, h3, hl⟩ ih67
    dsimp only at h2 h3 hl
    refine lv_iload hx hb dX4_toldOf_67 (lv_at hl 4 rfl) ?_
    refine lv_aload_n hx hb dX4_toldOf_69 rfl (lv_at hl 0 rfl) ?_
    refine x_get (v := .int (nI n)) (C := RX4) (T := TX4) (N := 7) hx hb hts (by decide +kernel) hown hK hM.1 rfl 1 (by decide) (hts (.fieldLink RX4 7 "BellRanksModel" "bells" "I") (by decide +kernel)) (fun _ h9 => h9) rfl dX4_toldOf_70 ?_
    refine xn_icmp_ge (tgt := 100) hx hb dX4_toldOf_73 (by decide) (by omega) (by omega) (fun c73 => ?_) (fun c73 => ?_)
    · refine lv_iload_n hx hb dX4_toldOf_100 rfl (lv_at hl 3 rfl) ?_
      refine W.widen (k := 1) (n := 8) (by omega) (by omega) ?_
      exact x_miret hx hb hr hlocks () (by rw [h3, show i = n by omega]; rfl) trivial hS (fun _ h => h) dX4_toldOf_101
    · refine lv_iload_n hx hb dX4_toldOf_76 rfl (lv_at hl 3 rfl) ?_
      refine lv_aload_n hx hb dX4_toldOf_77 rfl (lv_at hl 0 rfl) ?_
      refine lv_aload_n hx hb dX4_toldOf_78 rfl (lv_at hl 1 rfl) ?_
      refine lv_iload hx hb dX4_toldOf_79 (lv_at hl 4 rfl) ?_
      refine xcV (As := [.ref q, .int (nI i)]) (rest := [.int (nI L)]) ⟨hx, hb, hml, hown, hts⟩ (cX4_isFirst_ l D cI cC o bk kp t n ch st rg bf kf q f hn hp i (by omega)) (cwV 2 hts gX4_toldOf_X4_isFirst rfl rfl rfl (by decide +kernel) ⟨Nat.le_of_ble_eq_true rfl, Nat.le_of_ble_eq_true rfl⟩) hK ⟨hM, hR⟩ (xRecv hK rfl hM.1) rfl hl.1 rfl (Nat.le_of_ble_eq_true rfl) dX4_toldOf_81 ⟨Nat.zero_le _, Nat.zero_le _⟩ (fun x81 e81 => ?_)
      subst e81
      refine xn_if_eq (tgt := 91) hx hb dX4_toldOf_84 (by decide) (by have := lst_le f n i; omega) (fun c84 => ?_) (fun c84 => ?_)
      · refine xn_iconst (v := 0) hx hb dX4_toldOf_91 (by decide) ?_
        refine xn_iadd hx hb dX4_toldOf_92 ?_
        refine lv_istore_n (lv' := [(3, .int (nI (L + 0))), (0, .ref o), (1, .ref q), (2, .int (nI 3)), (4, .int (nI i))]) hx hb dX4_toldOf_93 rfl hl (by decide) rfl (fun ls hl => ?_)
        refine xn_iinc (v := i + 1) (lv' := [(4, .int (nI (i + 1))), (3, .int (nI (L + 0))), (0, .ref o), (1, .ref q), (2, .int (nI 3))]) hx hb dX4_toldOf_94 hl (k := 4) rfl (xinc1 _) (by decide) rfl (fun ls hl => ?_)
        refine lv_goto (tgt := 67) hx hb dX4_toldOf_97 (by decide) ?_
        exact ih67 (L + 0, i + 1) ls ⟨(by dsimp only; omega), (by dsimp only; rw [sm_succ, h3, c84] <;> rfl), lv_sub hl [2, 3, 4, 1, 0] rfl⟩ (by dsimp only; omega)
      · have c84 : lst f n i = 1 := by have := lst_le f n i; omega
        refine xn_iconst (v := 1) hx hb dX4_toldOf_87 (by decide) ?_
        refine lv_goto (tgt := 92) hx hb dX4_toldOf_88 (by decide) ?_
        refine xn_iadd hx hb dX4_toldOf_92 ?_
        refine lv_istore_n (lv' := [(3, .int (nI (L + 1))), (0, .ref o), (1, .ref q), (2, .int (nI 3)), (4, .int (nI i))]) hx hb dX4_toldOf_93 rfl hl (by decide) rfl (fun ls hl => ?_)
        refine xn_iinc (v := i + 1) (lv' := [(4, .int (nI (i + 1))), (3, .int (nI (L + 1))), (0, .ref o), (1, .ref q), (2, .int (nI 3))]) hx hb dX4_toldOf_94 hl (k := 4) rfl (xinc1 _) (by decide) rfl (fun ls hl => ?_)
        refine lv_goto (tgt := 67) hx hb dX4_toldOf_97 (by decide) ?_
        exact ih67 (L + 1, i + 1) ls ⟨(by dsimp only; omega), (by dsimp only; rw [sm_succ, h3, c84] <;> rfl), lv_sub hl [2, 3, 4, 1, 0] rfl⟩ (by dsimp only; omega)
  · refine lv_tableIn (off := 99) (tgt := 102) hx hb dX4_toldOf_3 (by decide) (by decide) rfl (by decide) ?_
    have hl : lv_has ls 5 [(3, .int (nI 0)), (0, .ref o), (1, .ref q), (2, .int (nI 4))] := hl
    refine xn_iconst (v := 0) hx hb dX4_toldOf_102 (by decide) ?_
    refine lv_istore (lv' := [(4, .int (nI 0)), (3, .int (nI 0)), (0, .ref o), (1, .ref q), (2, .int (nI 4))]) hx hb dX4_toldOf_103 hl (by decide) rfl (fun ls hl => ?_)
    refine x_loop (σ := Nat × Nat) (fun a => n - a.2) (fun a ls => (a.2 ≤ n) ∧ (a.1 = mxr f n a.2) ∧ lv_has ls 5 [(0, .ref o), (1, .ref q), (2, .int (nI 4)), (3, .int (nI a.1)), (4, .int (nI a.2))]) ?_ (0, 0) ls ⟨(Nat.zero_le _), rfl, lv_sub hl [2, 3, 4, 1, 0] rfl⟩
    rintro ⟨L, i⟩ ls ⟨h2, h3, hl⟩ ih105
    dsimp only at h2 h3 hl
    refine lv_iload hx hb dX4_toldOf_105 (lv_at hl 4 rfl) ?_
    refine lv_aload_n hx hb dX4_toldOf_107 rfl (lv_at hl 0 rfl) ?_
    refine x_get (v := .int (nI n)) (C := RX4) (T := TX4) (N := 7) hx hb hts (by decide +kernel) hown hK hM.1 rfl 1 (by decide) (hts (.fieldLink RX4 7 "BellRanksModel" "bells" "I") (by decide +kernel)) (fun _ h9 => h9) rfl dX4_toldOf_108 ?_
    refine xn_icmp_ge (tgt := 132) hx hb dX4_toldOf_111 (by decide) (by omega) (by omega) (fun c111 => ?_) (fun c111 => ?_)
    · refine lv_iload_n hx hb dX4_toldOf_132 rfl (lv_at hl 3 rfl) ?_
      refine W.widen (k := 1) (n := 8) (by omega) (by omega) ?_
      exact x_miret hx hb hr hlocks () (by rw [h3, show i = n by omega]; rfl) trivial hS (fun _ h => h) dX4_toldOf_133
    · refine lv_iload_n hx hb dX4_toldOf_114 rfl (lv_at hl 3 rfl) ?_
      refine lv_aload_n hx hb dX4_toldOf_115 rfl (lv_at hl 0 rfl) ?_
      refine lv_aload_n hx hb dX4_toldOf_116 rfl (lv_at hl 1 rfl) ?_
      refine lv_iload hx hb dX4_toldOf_117 (lv_at hl 4 rfl) ?_
      refine xcV (As := [.ref q, .int (nI i)]) (rest := [.int (nI L)]) ⟨hx, hb, hml, hown, hts⟩ (cX4_ringOf_ l D cI cC o bk kp t n ch st rg bf kf q f hn hp i (by omega)) (cwV 2 hts gX4_toldOf_X4_ringOf rfl rfl rfl (by decide +kernel) ⟨Nat.le_of_ble_eq_true rfl, Nat.le_of_ble_eq_true rfl⟩) hK ⟨hM, hR⟩ (xRecv hK rfl hM.1) rfl hl.1 rfl (Nat.le_of_ble_eq_true rfl) dX4_toldOf_119 ⟨Nat.zero_le _, Nat.zero_le _⟩ (fun x119 e119 => ?_)
      subst e119
      refine va_mmax hx hb (hml.trans hl.1.symm) hown (hts (.methodLink RX4 104 Lib.Math.max.name) (by decide +kernel)) (hts (.static Lib.Math.max.name) (by decide +kernel)) (hts (.initialized "java/lang/Math") (by decide +kernel)) (hts (.code Lib.Math.max.name Lib.Math.max.code 2 (some .int)) (by decide +kernel)) (Nat.le_of_ble_eq_true rfl) (Nat.le_of_ble_eq_true rfl) (Nat.zero_le _) (Nat.zero_le _) dX4_toldOf_122 ?_
      refine xz_i (xmaxN (by have := mxr_le (f := f) hn i (by omega); omega) (by have := per_le (f := f) (show i < n by omega) i; omega)) ?_
      refine lv_istore_n (lv' := [(3, .int (nI (max L (per f n i)))), (0, .ref o), (1, .ref q), (2, .int (nI 4)), (4, .int (nI i))]) hx hb dX4_toldOf_125 rfl hl (by decide) rfl (fun ls hl => ?_)
      refine xn_iinc (v := i + 1) (lv' := [(4, .int (nI (i + 1))), (3, .int (nI (max L (per f n i)))), (0, .ref o), (1, .ref q), (2, .int (nI 4))]) hx hb dX4_toldOf_126 hl (k := 4) rfl (xinc1 _) (by decide) rfl (fun ls hl => ?_)
      refine lv_goto (tgt := 105) hx hb dX4_toldOf_129 (by decide) ?_
      exact ih105 (max L (per f n i), i + 1) ls ⟨(by dsimp only; omega), (by dsimp only; rw [h3]; rfl), lv_sub hl [2, 3, 4, 1, 0] rfl⟩ (by dsimp only; omega)
  · refine lv_tableIn (off := 131) (tgt := 134) hx hb dX4_toldOf_3 (by decide) (by decide) rfl (by decide) ?_
    have hl : lv_has ls 5 [(3, .int (nI 0)), (0, .ref o), (1, .ref q), (2, .int (nI 5))] := hl
    refine lv_aload_n hx hb dX4_toldOf_134 rfl (lv_at hl 1 rfl) ?_
    refine lv_aload_n hx hb dX4_toldOf_135 rfl (lv_at hl 2 rfl) ?_
    refine xcV (As := [.ref q]) (rest := []) ⟨hx, hb, hml, hown, hts⟩ (cX4_order_ l D cI cC o bk kp t n ch st rg bf kf q f hn hp) (cwV 1 hts gX4_toldOf_X4_order rfl rfl rfl (by decide +kernel) ⟨Nat.le_of_ble_eq_true rfl, Nat.le_of_ble_eq_true rfl⟩) hK ⟨hM, hR⟩ (xRecv hK rfl hM.1) rfl hl.1 rfl (Nat.le_of_ble_eq_true rfl) dX4_toldOf_136 ⟨Nat.zero_le _, Nat.zero_le _⟩ (fun x136 e136 => ?_)
    subst e136
    refine W.widen (k := 1) (n := 8) (by omega) (by omega) ?_
    exact x_miret hx hb hr hlocks () rfl trivial hS (fun _ h => h) dX4_toldOf_139
  · refine lv_tableIn (off := 137) (tgt := 140) hx hb dX4_toldOf_3 (by decide) (by decide) rfl (by decide) ?_
    have hl : lv_has ls 5 [(3, .int (nI 0)), (0, .ref o), (1, .ref q), (2, .int (nI 6))] := hl
    refine xn_iconst (v := 0) hx hb dX4_toldOf_140 (by decide) ?_
    refine lv_istore (lv' := [(4, .int (nI 0)), (3, .int (nI 0)), (0, .ref o), (1, .ref q), (2, .int (nI 6))]) hx hb dX4_toldOf_141 hl (by decide) rfl (fun ls hl => ?_)
    refine x_loop (σ := Nat × Nat) (fun a => n - a.2) (fun a ls => (a.2 ≤ n) ∧ (a.1 = sm (own f) a.2) ∧ lv_has ls 5 [(0, .ref o), (1, .ref q), (2, .int (nI 6)), (3, .int (nI a.1)), (4, .int (nI a.2))]) ?_ (0, 0) ls ⟨(Nat.zero_le _), rfl, lv_sub hl [2, 3, 4, 1, 0] rfl⟩
    rintro ⟨L, i⟩ ls ⟨h2, h3, hl⟩ ih143
    dsimp only at h2 h3 hl
    refine lv_iload hx hb dX4_toldOf_143 (lv_at hl 4 rfl) ?_
    refine lv_aload_n hx hb dX4_toldOf_145 rfl (lv_at hl 0 rfl) ?_
    refine x_get (v := .int (nI n)) (C := RX4) (T := TX4) (N := 7) hx hb hts (by decide +kernel) hown hK hM.1 rfl 1 (by decide) (hts (.fieldLink RX4 7 "BellRanksModel" "bells" "I") (by decide +kernel)) (fun _ h9 => h9) rfl dX4_toldOf_146 ?_
    refine xn_icmp_ge (tgt := 175) hx hb dX4_toldOf_149 (by decide) (by omega) (by omega) (fun c149 => ?_) (fun c149 => ?_)
    · refine lv_iload_n hx hb dX4_toldOf_175 rfl (lv_at hl 3 rfl) ?_
      refine W.widen (k := 1) (n := 8) (by omega) (by omega) ?_
      exact x_miret hx hb hr hlocks () (by rw [h3, show i = n by omega]; rfl) trivial hS (fun _ h => h) dX4_toldOf_176
    · refine lv_iload_n hx hb dX4_toldOf_152 rfl (lv_at hl 3 rfl) ?_
      refine lv_aload_n hx hb dX4_toldOf_153 rfl (lv_at hl 1 rfl) ?_
      refine lv_iload hx hb dX4_toldOf_154 (lv_at hl 4 rfl) ?_
      refine x_iald hx hb hK hR (by omega) (by omega) dX4_toldOf_156 ?_
      refine lv_iload hx hb dX4_toldOf_157 (lv_at hl 4 rfl) ?_
      refine xn_icmp_ne (tgt := 166) hx hb dX4_toldOf_159 (by decide) (Nat.lt_trans (hp.1 _ (by omega)) (by omega)) (by omega) (fun c159 => ?_) (fun c159 => ?_)
      · refine xn_iconst (v := 0) hx hb dX4_toldOf_166 (by decide) ?_
        refine xn_iadd hx hb dX4_toldOf_167 ?_
        refine lv_istore_n (lv' := [(3, .int (nI (L + 0))), (0, .ref o), (1, .ref q), (2, .int (nI 6)), (4, .int (nI i))]) hx hb dX4_toldOf_168 rfl hl (by decide) rfl (fun ls hl => ?_)
        refine xn_iinc (v := i + 1) (lv' := [(4, .int (nI (i + 1))), (3, .int (nI (L + 0))), (0, .ref o), (1, .ref q), (2, .int (nI 6))]) hx hb dX4_toldOf_169 hl (k := 4) rfl (xinc1 _) (by decide) rfl (fun ls hl => ?_)
        refine lv_goto (tgt := 143) hx hb dX4_toldOf_172 (by decide) ?_
        exact ih143 (L + 0, i + 1) ls ⟨(by dsimp only; omega), (by dsimp only; rw [sm_succ, h3]; unfold own; rw [if_neg c159] <;> rfl), lv_sub hl [2, 3, 4, 1, 0] rfl⟩ (by dsimp only; omega)
      · refine xn_iconst (v := 1) hx hb dX4_toldOf_162 (by decide) ?_
        refine lv_goto (tgt := 167) hx hb dX4_toldOf_163 (by decide) ?_
        refine xn_iadd hx hb dX4_toldOf_167 ?_
        refine lv_istore_n (lv' := [(3, .int (nI (L + 1))), (0, .ref o), (1, .ref q), (2, .int (nI 6)), (4, .int (nI i))]) hx hb dX4_toldOf_168 rfl hl (by decide) rfl (fun ls hl => ?_)
        refine xn_iinc (v := i + 1) (lv' := [(4, .int (nI (i + 1))), (3, .int (nI (L + 1))), (0, .ref o), (1, .ref q), (2, .int (nI 6))]) hx hb dX4_toldOf_169 hl (k := 4) rfl (xinc1 _) (by decide) rfl (fun ls hl => ?_)
        refine lv_goto (tgt := 143) hx hb dX4_toldOf_172 (by decide) ?_
        exact ih143 (L + 1, i + 1) ls ⟨(by dsimp only; omega), (by dsimp only; rw [sm_succ, h3]; unfold own; rw [if_pos c159] <;> rfl), lv_sub hl [2, 3, 4, 1, 0] rfl⟩ (by dsimp only; omega)
  · refine lv_tableOut (tgt := 177) hx hb dX4_toldOf_3 (by decide) (by decide) ?_
    have hl : lv_has ls 5 [(3, .int (nI 0)), (0, .ref o), (1, .ref q), (2, .int (nI 7))] := hl
    refine lv_aload_n hx hb dX4_toldOf_177 rfl (lv_at hl 1 rfl) ?_
    refine lv_aload_n hx hb dX4_toldOf_178 rfl (lv_at hl 2 rfl) ?_
    refine xmR (As := [.ref q]) (rest := []) ⟨hx, hb, hml, hown, hts⟩ (cX4_backRow_ l D cI cC o bk kp t n ch st rg bf kf sz hn q f hp.1) (cwV 1 hts gX4_toldOf_X4_backRow rfl rfl rfl (by decide +kernel) ⟨Nat.le_of_ble_eq_true rfl, Nat.le_of_ble_eq_true rfl⟩) hK ⟨hsz, hM, hR⟩ (xRecv hK rfl hM.1) rfl hl.1 rfl (Nat.le_of_ble_eq_true rfl) dX4_toldOf_179 ⟨Nat.le_of_ble_eq_true rfl, Nat.le_of_ble_eq_true rfl⟩ hS (fun _ h => h) (fun _ h => h) (fun u179 x179 H1 locs1 hp179 hF179 hz179 hk179 hS => ?_)
    obtain ⟨hq, hB⟩ := hF179
    have hsz2 : s.heap.size = sz := hsz
    refine xn_iconst (v := 0) hx hb dX4_toldOf_182 (by decide) ?_
    refine x_iald hx hb hK hB (by omega) (by omega) dX4_toldOf_183 ?_
    refine W.widen (k := 1) (n := 8) (by omega) (by omega) ?_
    exact x_miret hx hb hr hlocks () (congrArg nI (bck_pos hp hn0)) trivial hS (fun _ h => h) dX4_toldOf_184

