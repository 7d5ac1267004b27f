/-! THE LAW'S CASES: what each call makes -/
theorem n_swap {S : AS} {a j : Nat} (ht : tSwap S (nI a) (nI j) = 0) (ha : a < 2 ^ 31) (hj : j < 2 ^ 31) : nSwap S (nI a) (nI j) = upP S a (xch (S.2.2.1 a) j) := by unfold nSwap; rw [if_pos ht, xN_nI ha, xN_nI hj]
theorem v_swap {S : AS} {a j : Nat} (ha : a < 2 ^ 31) (hj : j < 2 ^ 31) : rSwap S (nI a) (nI j) = nI (hrk (xch (S.2.2.1 a) j) S.1 S.1) := by unfold rSwap; rw [xN_nI ha, xN_nI hj]
theorem n_next {S : AS} {a : Nat} (ht : tIn S (nI a) = 0) (ha : a < 2 ^ 31) : nNext S (nI a) = upP S a (srG (S.2.2.1 a) S.1 (nxr S a) S.1) := by unfold nNext; rw [if_pos ht, xN_nI ha]
theorem v_next {S : AS} {a : Nat} (ha : a < 2 ^ 31) : rNext S (nI a) = nI (nxr S a) := by unfold rNext; rw [xN_nI ha]
theorem nxr_hrk (S : AS) (a : Nat) (f : Nat → Nat) : hrk (srG f S.1 (nxr S a) S.1) S.1 S.1 = nxr S a := (srG_hrk (Nat.mod_lt _ (fac_pos _))).2
theorem n_behind {S : AS} {a j : Nat} (ht : tBehind S (nI a) (nI j) = 0) (ha : a < 2 ^ 31) (hj : j < 2 ^ 31) : nBehind S (nI a) (nI j) = adP S (cpy (S.2.2.1 S.2.1) (bhF S a j) S.1) := by unfold nBehind; rw [if_pos ht, xN_nI ha, xN_nI hj]
theorem n_back {S : AS} {a : Nat} (ht : tIn S (nI a) = 0) (ha : a < 2 ^ 31) : nBack S (nI a) = upP S a (bkF S a) := by unfold nBack; rw [if_pos ht, xN_nI ha]
theorem v_back {S : AS} {a : Nat} (ha : a < 2 ^ 31) : rBack S (nI a) = nI (hrk (bkF S a) S.1 S.1) := by unfold rBack; rw [xN_nI ha]
theorem n_ring {S : AS} {a j : Nat} (ht : tRing S (nI a) (nI j) = 0) (h0 : S.2.2.2.1 ≠ 0) (ha : a < 2 ^ 31) (hj : j < 2 ^ 31) : nRing S (nI a) (nI j) = (S.1, S.2.1, va_up S.2.2.1 a (rgF S a j), S.2.2.2.1, S.2.2.2.2.1, S.2.2.2.2.2 + j) := by unfold nRing; rw [if_pos ht, if_neg h0, xN_nI ha, xN_nI hj]
theorem v_ring {S : AS} {a j : Nat} (ha : a < 2 ^ 31) (hj : j < 2 ^ 31) : rRing S (nI a) (nI j) = nI (hrk (rgF S a j) S.1 S.1) := by unfold rRing; rw [xN_nI ha, xN_nI hj]
theorem v_comes {S : AS} {a : Nat} (h0 : S.2.2.2.1 ≠ 0) (ha : a < 2 ^ 31) : rComes S (nI a) = -1 ∨ ∃ j : Nat, 1 ≤ j ∧ j ≤ 400 ∧ rComes S (nI a) = nI j ∧ hrk (rgF S a j) S.1 S.1 = hrk (S.2.2.1 a) S.1 S.1 := by
  unfold rComes cmF
  rw [xN_nI ha, if_neg h0]
  by_cases c : fnd (cmP S a) 400 < 400
  · refine Or.inr ⟨fnd (cmP S a) 400 + 1, by omega, by omega, if_pos c, ?_⟩
    have h3 := (fnd_spec (cmP S a) 400).2.2 c
    unfold rgF
    rw [if_neg h0]
    exact eq_of_beq h3
  · exact Or.inl (if_neg c)
theorem v_differ {S : AS} (h0 : S.2.2.2.1 ≠ 0) : ∃ d : Nat, rDiffer S (nI 40) = nI d ∧ 1 ≤ d ∧ d ≤ 41 ∧ d = sm (nwf (dfG S)) 41 := by
  unfold rDiffer
  rw [if_neg h0, xN_nI (by decide)]
  exact ⟨sm (nwf (dfG S)) 41, rfl, df_pos _ 40, sm_nwf_le _ 41, rfl⟩
theorem v_advise {S : AS} {a : Nat} (h : 1 ≤ S.2.1) : ∃ j : Nat, rAdvise S (nI a) = nI j ∧ j < S.2.1 := by
  have := adB_le (adG S (xN (nI a))) (S.2.1 - 1)
  exact ⟨_, rfl, by omega⟩
theorem df_cc {S : AS} {a j : Nat} (hI : AI S) (ha : a < S.2.1) (h0 : S.2.2.2.1 ≠ 0) (h1 : 1 ≤ j) (h2 : j ≤ 40) (hm : j % S.2.2.2.1 = 0) (e : hrk (rgF S a j) S.1 S.1 = hrk (S.2.2.1 a) S.1 S.1) : sm (nwf (dfG S)) 41 ≤ j := by
  have e2 : hrk (rgs S.2.2.2.2.1 S.2.2.2.1 S.1 (S.2.2.1 a) j) S.1 S.1 = hrk (S.2.2.1 a) S.1 S.1 := by
    unfold rgF at e
    rw [if_neg h0] at e
    exact e
  have h := df_le (g := dfG S) (c := j) (fun k => df_back (hI.2.2.2.2.1 a ha) hm e2 k) h1 (41 - j)
  rw [show j + (41 - j) = 41 by omega] at h
  exact h
theorem bk_inv {S : AS} (hI : AI S) {k : Nat} (hk : k < S.2.1) : Prm S.1 (bkF S k) ∧ ∀ i, i < S.1 → S.2.2.1 k (bkF S k i) = i := by
  have hp := hI.2.2.2.2.1 k hk
  refine ⟨(Prm.bck hp).cpy, fun i hi => ?_⟩
  unfold bkF
  rw [cpy_lt hi, bck_inv hp hi]
  exact (pos_lt hp hi).2
theorem ord_bk {S : AS} (hI : AI S) {k : Nat} (hk : k < S.2.1) : ord (bkF S k) S.1 S.1 = ord (S.2.2.1 k) S.1 S.1 :=
  ord_per (fun _ hj => per_back (hI.2.2.2.2.1 k hk) (bk_inv hI hk).1 (bk_inv hI hk).2 hj) S.1 (Nat.le_refl _)
theorem ivs_bk {S : AS} (hI : AI S) {k : Nat} (hk : k < S.2.1) : ivs (bkF S k) S.1 % 2 = ivs (S.2.2.1 k) S.1 % 2 := ivs_back (hI.2.2.2.2.1 k hk) (bk_inv hI hk).1 (bk_inv hI hk).2
section XL
variable {p : Program} {l : Launch} {e : Env} {R : Room} {s : State} {m : MethodId} {args : Array Value} {below : List Frame} {meth : Method} {c : Code} {H : Heap} {locs : List Loc} {cells slots : Nat} {Q : State → Prop}
variable {A0 : Nat → Prop} {H0 : Heap} {pc : Nat} {ls : Array Slot} {st0 rest : List Value}
variable {D : va_G} {cI cC : ClassId} {y : MethodName} {bytes cc : ByteArray} {maxL nL n index : Nat} {ret : Option FieldType} {ws : List Cond} {rm : Room} {Ts : List Cond} {own : String} {As : List Value} {ad : Nat → Nat}
/-- a call of the class that hands back a long -/
theorem xoL {S0 : AS} {rr : Int64} (S : CallFix p m c cc nL s args Ts own) (hM : Met l y ws rm (va_Pc (.ref (ad 0) :: As) (xBZ D cI cC (xXW D cI cC ad S0) (xAD ad))) (xL (fun r (_ : Unit) => r = rr) (fun _ H => xXW D cI cC ad S0 H) (xAD ad)) 384 2304 (xAD ad)) (cw : CallW R s args own RX3 index y bytes maxL ret ws rm 384 2304 n) (hK : xK D cI cC s) (hZ : xZ A0 s H0) (hW : xXW D cI cC ad S0 H)
    (hn : As.length = n) (hl : ls.size = nL) (hst : st0 = As.reverse ++ .ref (ad 0) :: rest) (hcat : (rest.map fun v => v.category).sum ≤ 8) (hdg : decode cc pc = .ok (.invokevirtual index, 3)) (hf : cells + 384 ≤ R.cells ∧ slots + 2304 ≤ R.slots)
    (hS : va_S A0 H0 H locs) (hA : ∀ q, xAD ad q → A0 q)
    (kk : ∀ (H1 : Heap) (locs1 : List Loc), xXW D cI cC ad S0 H1 → va_S A0 H0 H1 locs1 → W p l e R s m args below meth c H1 locs1 (cells + 384) (slots + 2304) Q (F0 m (pc + 3) ls (.long rr :: rest))) : W p l e R s m args below meth c H locs cells slots Q (F0 m pc ls st0) :=
  va_calll (va_runV S hM cw (xZPV hK ((hZ.kept hS.2.1).narrow hA) hW (xXW_recv hK hW)) rfl hn hl hst (lv_room hcat) hdg hf) hS (fun q _ h => hA q h) (fun q h => hA q h) (fun r u t H1 locs1 ht _ hp hF hz hk hS1 => by
    have hp : r = rr := hp
    subst hp
    have hF : xXW D cI cC ad S0 t.heap := hF
    rw [ht] at hF
    exact kk H1 locs1 hF hS1)
end XL
set_option maxRecDepth 100000 in
set_option maxHeartbeats 4000000 in
theorem lwSwap_ {p : Program} {l : Launch} {e : Env} {s : State} {m : MethodId} {below : List Frame} {meth : Method} {c : Code} {b L : Nat} {xs : Nat → Int32} {D : va_G} {cI cC : ClassId} {ad : Nat → Nat} {Q : State → Prop} {n st : Nat} {kf : Nat → Nat} (hst9 : l.stackTraces = false) (C : qC p s m c b L xs D cI cC ad) {ch : Nat} {pm : Nat → Nat → Nat} {rg ti a b9 : Nat} {v : Int32} (hI : AI (n, ch, pm, st, kf, rg)) (hc5 : 5 ≤ ch) (hst1 : 1 ≤ st) (ha : a < ch) (hb9 : b9 < ch) (hrg : rg ≤ 200 * ti) (hti : ti < 30) {H : Heap} {locs : List Loc} {cells0 slots0 : Nat} {ls : Array Slot} (hW : xXW D cI cC ad (n, ch, pm, st, kf, rg) H) (hS : va_S (fun q : Nat => s.heap.size ≤ q) s.heap H locs) (hc : cells0 + 808 ≤ 600172) (hs : slots0 + 4848 ≤ 7300668) (hl : lv_has ls 18 [(0, .ref b), (1, .ref (ad 0)), (2, .int (nI n)), (3, .int (nI st)), (4, .int (nI rg)), (5, .int (nI ch)), (6, .int (nI ti)), (7, .int v), (8, .int (nI a)), (9, .int (nI b9)), (10, .int (nI (hrk (pm a) n n))), (11, .int (nI (ivs (pm a) n % 2))), (12, .int (nI (hrk (pm a) n n)))])
    (J : ∀ (ch1 : Nat) (pm1 : Nat → Nat → Nat) (rg1 : Nat) (H1 : Heap) (locs1 : List Loc) (cells1 slots1 : Nat) (ls1 : Array Slot), AI (n, ch1, pm1, st, kf, rg1) → 5 ≤ ch1 → a < ch1 → rg1 ≤ 200 * (ti + 1) → xXW D cI cC ad (n, ch1, pm1, st, kf, rg1) H1 → va_S (fun q : Nat => s.heap.size ≤ q) s.heap H1 locs1 → cells1 ≤ cells0 + 808 → slots1 ≤ slots0 + 4848 → lv_has ls1 18 [(0, .ref b), (1, .ref (ad 0)), (2, .int (nI n)), (3, .int (nI st)), (4, .int (nI rg1)), (5, .int (nI ch1)), (6, .int (nI ti)), (8, .int (nI a)), (12, .int (nI (hrk (pm1 a) n n)))] → W p l e room_1 s m #[Value.ref b] below meth c H1 locs1 cells1 slots1 Q (F0 m 447 ls1 [])) :
    W p l e room_1 s m #[Value.ref b] below meth c H locs cells0 slots0 Q (F0 m 136 ls []) := by
  obtain ⟨hx, hb, hml, hown, hts, hX, hbl, hL, hK, hZ, hj, hA⟩ := id C
  have hbA : ¬ (fun q : Nat => s.heap.size ≤ q) b := Nat.not_le.mpr hbl
  obtain ⟨⟨hn2, hn8⟩, hch, hst, hpm8, hpm, hkv, hkb⟩ := id hI
  have hn2 : 2 ≤ n := hn2
  have hn8 : n ≤ 8 := hn8
  have hch : ch ≤ 16 := hch
  have hst : st ≤ 10 := hst
  have hpm8 : ∀ k i, pm k i < 8 := hpm8
  have hpm : ∀ k, k < ch → Prm n (pm k) := hpm
  have hpa9 : Prm n (pm a) := hpm a ha
  refine lv_aload_n hx hb dL_law_136 rfl (lv_at hl 1 rfl) ?_
  refine lv_iload hx hb dL_law_137 (lv_at hl 8 rfl) ?_
  refine lv_iload hx hb dL_law_139 (lv_at hl 7 rfl) ?_
  refine xn_iconst (v := 3) hx hb dL_law_141 (by decide) ?_
  refine lv_ishr hx hb dL_law_142 ?_
  refine lv_iload_n hx hb dL_law_143 rfl (lv_at hl 2 rfl) ?_
  refine xn_iconst (v := 1) hx hb dL_law_144 (by decide) ?_
  refine xn_isub hx hb (by omega) dL_law_145 ?_
  refine lcS (As := [.int (v >>> ((nI 3) &&& 31)), .int (nI (n - 1))]) (rest := [.int (nI a), .ref (ad 0)]) ⟨hx, hb, hml, hown, hts⟩ (cL_below_ l (v >>> ((nI 3) &&& 31)) (n - 1) (by omega) (by omega)) (va_cwS 2 hts gL_law_L_below rfl rfl rfl (by decide +kernel) ⟨Nat.le_of_ble_eq_true rfl, Nat.le_of_ble_eq_true rfl⟩) lpre0 rfl hl.1 rfl (Nat.le_of_ble_eq_true rfl) dL_law_146 ⟨(by show cells0 ≤ 600172; omega), (by show slots0 ≤ 7300668; omega)⟩ (fun x146 e146 => ?_)
  subst e146
  have hw9 : bel (v >>> ((nI 3) &&& 31)) (n - 1) < (n - 1) := bel_lt _ (by omega)
  generalize bel (v >>> ((nI 3) &&& 31)) (n - 1) = w9 at hw9 ⊢
  have ht := t_swap (S := (n, ch, pm, st, kf, rg)) hI (show a < ch by omega) (show w9 < n - 1 by omega)
  refine xoC (As := [.int (nI a), .int (nI w9)]) (rest := []) ⟨hx, hb, hml, hown, hts⟩ (kSwap_ l hst9 D cI cC ad hj (n, ch, pm, st, kf, rg) hI (nI a) (nI w9)) (fun _ _ hB => no1 ht hB) (cwV 2 hts gL_law_X3_swap rfl rfl rfl (by decide +kernel) ⟨Nat.le_of_ble_eq_true rfl, Nat.le_of_ble_eq_true rfl⟩) hK hZ hW rfl hl.1 rfl (Nat.le_of_ble_eq_true rfl) dL_law_149 ⟨(by show cells0 + 10 ≤ 600172; omega), (by show slots0 + 60 ≤ 7300668; omega)⟩ hS hA (fun H1 locs1 hW hS => ?_)
  have hI1 := AI_swap hI (nI a) (nI w9)
  rw [n_swap ht (by omega) (by omega)] at hW hI1
  obtain ⟨pm1, hpm1⟩ : ∃ q9 : Nat → Nat → Nat, q9 = va_up pm a (xch (pm a) w9) := ⟨_, rfl⟩
  have hW : xXW D cI cC ad (n, ch, pm1, st, kf, rg) H1 := by rw [hpm1]; exact hW
  have hI0 := hI
  have hI : AI (n, ch, pm1, st, kf, rg) := by rw [hpm1]; exact hI1
  have hpa : pm1 a = xch (pm a) w9 := by rw [hpm1]; exact va_up_self _ _ _
  refine xz_i (y := nI (hrk (pm1 a) n n)) ((v_swap (by omega) (by omega)).trans (congrArg (fun f9 => nI (hrk f9 n n)) hpa.symm)) ?_
  refine lv_istore (lv' := [(12, .int (nI (hrk (pm1 a) n n))), (0, .ref b), (1, .ref (ad 0)), (2, .int (nI n)), (3, .int (nI st)), (4, .int (nI rg)), (5, .int (nI ch)), (6, .int (nI ti)), (7, .int v), (8, .int (nI a)), (9, .int (nI b9)), (10, .int (nI (hrk (pm a) n n))), (11, .int (nI (ivs (pm a) n % 2)))]) hx hb dL_law_152 hl (by decide) rfl (fun ls hl => ?_)
  refine lv_aload_n hx hb dL_law_154 rfl (lv_at hl 2 rfl) ?_
  refine lv_iload hx hb dL_law_155 (lv_at hl 9 rfl) ?_
  refine xn_iconst (v := 2) hx hb dL_law_157 (by decide) ?_
  refine xoC (As := [.int (nI a), .int (nI 2)]) (rest := []) ⟨hx, hb, hml, hown, hts⟩ (kTold_ l hst9 D cI cC ad hj (n, ch, pm1, st, kf, rg) hI (nI a) (nI 2)) (fun _ _ hB => no1 (t_told (S := (n, ch, pm1, st, kf, rg)) hI (show a < ch by omega) (by decide)) hB) (cwV 2 hts gL_law_X3_told rfl rfl rfl (by decide +kernel) ⟨Nat.le_of_ble_eq_true rfl, Nat.le_of_ble_eq_true rfl⟩) hK hZ hW rfl hl.1 rfl (Nat.le_of_ble_eq_true rfl) dL_law_158 ⟨(by show cells0 + 10 + 10 ≤ 600172; omega), (by show slots0 + 60 + 60 ≤ 7300668; omega)⟩ hS hA (fun H1 locs1 hW hS => ?_)
  refine xz_i (y := nI (ivs (pm1 a) n % 2)) (v_told (by omega) (by decide)) ?_
  refine lv_iload hx hb dL_law_161 (lv_at hl 12 rfl) ?_
  refine xn_icmp_eq (tgt := 173) hx hb dL_law_163 (by decide) (b_mod2 _) (b_mod2 _) (fun c163 => ?_) (fun c163 => ?_)
  · exact absurd c163 (by rw [hpa]; exact ivs_xch hpa9 (show w9 + 1 < n by omega))
  · refine lv_iload hx hb dL_law_166 (lv_at hl 0 rfl) ?_
    refine lv_iload hx hb dL_law_168 (lv_at hl 11 rfl) ?_
    refine xn_icmp_ne (tgt := 447) hx hb dL_law_170 (by decide) (b_hrk hn8) (b_hrk hn8) (fun c170 => ?_) (fun c170 => ?_)
    · exact J ch pm1 rg _ _ _ _ _ hI (by omega) (by omega) (by omega) hW hS (by omega) (by omega) (lv_sub hl [1, 2, 3, 4, 5, 6, 7, 9, 0] rfl)
    · exact absurd c170 (by rw [hpa]; exact hrk_xch hpa9 (show w9 + 1 < n by omega))
set_option maxRecDepth 100000 in
set_option maxHeartbeats 4000000 in
theorem lwNext_ {p : Program} {l : Launch} {e : Env} {s : State} {m : MethodId} {below : List Frame} {meth : Method} {c : Code} {b L : Nat} {xs : Nat → Int32} {D : va_G} {cI cC : ClassId} {ad : Nat → Nat} {Q : State → Prop} {n st : Nat} {kf : Nat → Nat} (hst9 : l.stackTraces = false) (C : qC p s m c b L xs D cI cC ad) {ch : Nat} {pm : Nat → Nat → Nat} {rg ti a b9 : Nat} {v : Int32} (hI : AI (n, ch, pm, st, kf, rg)) (hc5 : 5 ≤ ch) (hst1 : 1 ≤ st) (ha : a < ch) (hb9 : b9 < ch) (hrg : rg ≤ 200 * ti) (hti : ti < 30) {H : Heap} {locs : List Loc} {cells0 slots0 : Nat} {ls : Array Slot} (hW : xXW D cI cC ad (n, ch, pm, st, kf, rg) H) (hS : va_S (fun q : Nat => s.heap.size ≤ q) s.heap H locs) (hc : cells0 + 808 ≤ 600172) (hs : slots0 + 4848 ≤ 7300668) (hl : lv_has ls 18 [(0, .ref b), (1, .ref (ad 0)), (2, .int (nI n)), (3, .int (nI st)), (4, .int (nI rg)), (5, .int (nI ch)), (6, .int (nI ti)), (7, .int v), (8, .int (nI a)), (9, .int (nI b9)), (10, .int (nI (hrk (pm a) n n))), (11, .int (nI (ivs (pm a) n % 2))), (12, .int (nI (hrk (pm a) n n)))])
    (J : ∀ (ch1 : Nat) (pm1 : Nat → Nat → Nat) (rg1 : Nat) (H1 : Heap) (locs1 : List Loc) (cells1 slots1 : Nat) (ls1 : Array Slot), AI (n, ch1, pm1, st, kf, rg1) → 5 ≤ ch1 → a < ch1 → rg1 ≤ 200 * (ti + 1) → xXW D cI cC ad (n, ch1, pm1, st, kf, rg1) H1 → va_S (fun q : Nat => s.heap.size ≤ q) s.heap H1 locs1 → cells1 ≤ cells0 + 808 → slots1 ≤ slots0 + 4848 → lv_has ls1 18 [(0, .ref b), (1, .ref (ad 0)), (2, .int (nI n)), (3, .int (nI st)), (4, .int (nI rg1)), (5, .int (nI ch1)), (6, .int (nI ti)), (8, .int (nI a)), (12, .int (nI (hrk (pm1 a) n n)))] → W p l e room_1 s m #[Value.ref b] below meth c H1 locs1 cells1 slots1 Q (F0 m 447 ls1 [])) :
    W p l e room_1 s m #[Value.ref b] below meth c H locs cells0 slots0 Q (F0 m 175 ls []) := by
  obtain ⟨hx, hb, hml, hown, hts, hX, hbl, hL, hK, hZ, hj, hA⟩ := id C
  have hbA : ¬ (fun q : Nat => s.heap.size ≤ q) b := Nat.not_le.mpr hbl
  obtain ⟨⟨hn2, hn8⟩, hch, hst, hpm8, hpm, hkv, hkb⟩ := id hI
  have hn2 : 2 ≤ n := hn2
  have hn8 : n ≤ 8 := hn8
  have hch : ch ≤ 16 := hch
  have hst : st ≤ 10 := hst
  have hpm8 : ∀ k i, pm k i < 8 := hpm8
  have hpm : ∀ k, k < ch → Prm n (pm k) := hpm
  have hpa9 : Prm n (pm a) := hpm a ha
  refine lv_aload_n hx hb dL_law_175 rfl (lv_at hl 1 rfl) ?_
  refine lv_iload hx hb dL_law_176 (lv_at hl 8 rfl) ?_
  have ht := t_in (S := (n, ch, pm, st, kf, rg)) hI (show a < ch by omega)
  refine xoC (As := [.int (nI a)]) (rest := []) ⟨hx, hb, hml, hown, hts⟩ (kNext_ l hst9 D cI cC ad hj (n, ch, pm, st, kf, rg) hI (nI a)) (fun _ _ hB => no1 ht hB) (cwV 1 hts gL_law_X3_next rfl rfl rfl (by decide +kernel) ⟨Nat.le_of_ble_eq_true rfl, Nat.le_of_ble_eq_true rfl⟩) hK hZ hW rfl hl.1 rfl (Nat.le_of_ble_eq_true rfl) dL_law_178 ⟨(by show cells0 + 10 ≤ 600172; omega), (by show slots0 + 60 ≤ 7300668; omega)⟩ hS hA (fun H1 locs1 hW hS => ?_)
  have hI1 := AI_next hI (nI a)
  rw [n_next ht (by omega)] at hW hI1
  obtain ⟨pm1, hpm1⟩ : ∃ q9 : Nat → Nat → Nat, q9 = va_up pm a (srG (pm a) n (nxr (n, ch, pm, st, kf, rg) a) n) := ⟨_, rfl⟩
  have hW : xXW D cI cC ad (n, ch, pm1, st, kf, rg) H1 := by rw [hpm1]; exact hW
  have hI0 := hI
  have hI : AI (n, ch, pm1, st, kf, rg) := by rw [hpm1]; exact hI1
  have hpa : pm1 a = srG (pm a) n (nxr (n, ch, pm, st, kf, rg) a) n := by rw [hpm1]; exact va_up_self _ _ _
  refine xz_i (y := nI (hrk (pm1 a) n n)) ((v_next (by omega)).trans (congrArg nI ((nxr_hrk (n, ch, pm, st, kf, rg) a (pm a)).symm.trans (congrArg (fun f9 => hrk f9 n n) hpa.symm)))) ?_
  have hnx : hrk (pm1 a) n n = (hrk (pm a) n n + 1) % fac n := by rw [hpa]; exact nxr_hrk (n, ch, pm, st, kf, rg) a (pm a)
  refine lv_istore (lv' := [(12, .int (nI (hrk (pm1 a) n n))), (0, .ref b), (1, .ref (ad 0)), (2, .int (nI n)), (3, .int (nI st)), (4, .int (nI rg)), (5, .int (nI ch)), (6, .int (nI ti)), (7, .int v), (8, .int (nI a)), (9, .int (nI b9)), (10, .int (nI (hrk (pm a) n n))), (11, .int (nI (ivs (pm a) n % 2)))]) hx hb dL_law_181 hl (by decide) rfl (fun ls hl => ?_)
  refine lv_iload hx hb dL_law_183 (lv_at hl 0 rfl) ?_
  refine lv_iload hx hb dL_law_185 (lv_at hl 11 rfl) ?_
  refine xn_iconst (v := 1) hx hb dL_law_187 (by decide) ?_
  refine xn_iadd hx hb dL_law_188 ?_
  refine lv_iload_n hx hb dL_law_189 rfl (lv_at hl 3 rfl) ?_
  refine lcS (As := [.int (nI n)]) (rest := [.int (nI (hrk (pm a) n n + 1)), .int (nI (hrk (pm1 a) n n))]) ⟨hx, hb, hml, hown, hts⟩ (product_at l n (show 1 ≤ n ∧ n ≤ 8 by omega)) (va_cwS 1 hts gL_law_L_product rfl rfl rfl (by decide +kernel) ⟨(by show n - 1 + 1 ≤ 2048; omega), (by show 8 + (1 + 11) + 40 * (n - 1) ≤ 84000; omega)⟩) lpre0 rfl hl.1 rfl (Nat.le_of_ble_eq_true rfl) dL_law_190 ⟨(by show cells0 + 10 ≤ 600172; omega), (by show slots0 + 60 ≤ 7300668; omega)⟩ (fun x190 e190 => ?_)
  subst e190
  refine xn_irem hx hb (Nat.lt_of_le_of_lt (Nat.succ_le_of_lt (hrk_bd hn8)) (by decide)) (fac_pos n) (Nat.lt_of_le_of_lt (fac_le n hn8) (by decide)) dL_law_193 ?_
  refine xn_icmp_eq (tgt := 447) hx hb dL_law_194 (by decide) (b_hrk hn8) (Nat.lt_of_lt_of_le (Nat.mod_lt _ (fac_pos n)) (Nat.le_trans (fac_le n hn8) (by decide))) (fun c194 => ?_) (fun c194 => ?_)
  · exact J ch pm1 rg _ _ _ _ _ hI (by omega) (by omega) (by omega) hW hS (by omega) (by omega) (lv_sub hl [1, 2, 3, 4, 5, 6, 7, 9, 0] rfl)
  · exact absurd hnx c194
set_option maxRecDepth 100000 in
set_option maxHeartbeats 4000000 in
theorem lwBehind_ {p : Program} {l : Launch} {e : Env} {s : State} {m : MethodId} {below : List Frame} {meth : Method} {c : Code} {b L : Nat} {xs : Nat → Int32} {D : va_G} {cI cC : ClassId} {ad : Nat → Nat} {Q : State → Prop} {n st : Nat} {kf : Nat → Nat} (hst9 : l.stackTraces = false) (C : qC p s m c b L xs D cI cC ad) {ch : Nat} {pm : Nat → Nat → Nat} {rg ti a b9 : Nat} {v : Int32} (hI : AI (n, ch, pm, st, kf, rg)) (hc5 : 5 ≤ ch) (hst1 : 1 ≤ st) (ha : a < ch) (hb9 : b9 < ch) (hrg : rg ≤ 200 * ti) (hti : ti < 30) {H : Heap} {locs : List Loc} {cells0 slots0 : Nat} {ls : Array Slot} (hW : xXW D cI cC ad (n, ch, pm, st, kf, rg) H) (hS : va_S (fun q : Nat => s.heap.size ≤ q) s.heap H locs) (hc : cells0 + 808 ≤ 600172) (hs : slots0 + 4848 ≤ 7300668) (hl : lv_has ls 18 [(0, .ref b), (1, .ref (ad 0)), (2, .int (nI n)), (3, .int (nI st)), (4, .int (nI rg)), (5, .int (nI ch)), (6, .int (nI ti)), (7, .int v), (8, .int (nI a)), (9, .int (nI b9)), (10, .int (nI (hrk (pm a) n n))), (11, .int (nI (ivs (pm a) n % 2))), (12, .int (nI (hrk (pm a) n n)))])
    (J : ∀ (ch1 : Nat) (pm1 : Nat → Nat → Nat) (rg1 : Nat) (H1 : Heap) (locs1 : List Loc) (cells1 slots1 : Nat) (ls1 : Array Slot), AI (n, ch1, pm1, st, kf, rg1) → 5 ≤ ch1 → a < ch1 → rg1 ≤ 200 * (ti + 1) → xXW D cI cC ad (n, ch1, pm1, st, kf, rg1) H1 → va_S (fun q : Nat => s.heap.size ≤ q) s.heap H1 locs1 → cells1 ≤ cells0 + 808 → slots1 ≤ slots0 + 4848 → lv_has ls1 18 [(0, .ref b), (1, .ref (ad 0)), (2, .int (nI n)), (3, .int (nI st)), (4, .int (nI rg1)), (5, .int (nI ch1)), (6, .int (nI ti)), (8, .int (nI a)), (12, .int (nI (hrk (pm1 a) n n)))] → W p l e room_1 s m #[Value.ref b] below meth c H1 locs1 cells1 slots1 Q (F0 m 447 ls1 [])) :
    W p l e room_1 s m #[Value.ref b] below meth c H locs cells0 slots0 Q (F0 m 199 ls []) := by
  obtain ⟨hx, hb, hml, hown, hts, hX, hbl, hL, hK, hZ, hj, hA⟩ := id C
  have hbA : ¬ (fun q : Nat => s.heap.size ≤ q) b := Nat.not_le.mpr hbl
  obtain ⟨⟨hn2, hn8⟩, hch, hst, hpm8, hpm, hkv, hkb⟩ := id hI
  have hn2 : 2 ≤ n := hn2
  have hn8 : n ≤ 8 := hn8
  have hch : ch ≤ 16 := hch
  have hst : st ≤ 10 := hst
  have hpm8 : ∀ k i, pm k i < 8 := hpm8
  have hpm : ∀ k, k < ch → Prm n (pm k) := hpm
  have hpa9 : Prm n (pm a) := hpm a ha
  refine lv_iload hx hb dL_law_199 (lv_at hl 5 rfl) ?_
  refine xn_bipush (v := 16) hx hb dL_law_201 (by decide) ?_
  refine xn_icmp_ne (tgt := 209) hx hb dL_law_203 (by decide) (by omega) (by decide) (fun c203 => ?_) (fun c203 => ?_)
  · refine lv_aload_n hx hb dL_law_209 rfl (lv_at hl 1 rfl) ?_
    refine lv_iload hx hb dL_law_210 (lv_at hl 8 rfl) ?_
    refine lv_iload hx hb dL_law_212 (lv_at hl 9 rfl) ?_
    have ht := t_behind (S := (n, ch, pm, st, kf, rg)) hI (show a < ch by omega) (show b9 < ch by omega) (show ch ≠ 16 by omega)
    refine xoC (As := [.int (nI a), .int (nI b9)]) (rest := []) ⟨hx, hb, hml, hown, hts⟩ (kBehind_ l hst9 D cI cC ad hj (n, ch, pm, st, kf, rg) hI (nI a) (nI b9)) (fun _ _ hB => no2 ht hB) (cwV 2 hts gL_law_X3_behind rfl rfl rfl (by decide +kernel) ⟨Nat.le_of_ble_eq_true rfl, Nat.le_of_ble_eq_true rfl⟩) hK hZ hW rfl hl.1 rfl (Nat.le_of_ble_eq_true rfl) dL_law_214 ⟨(by show cells0 + 10 ≤ 600172; omega), (by show slots0 + 60 ≤ 7300668; omega)⟩ hS hA (fun H1 locs1 hW hS => ?_)
    have hI1 := AI_behind hI (nI a) (nI b9)
    rw [n_behind ht (by omega) (by omega)] at hW hI1
    obtain ⟨pm1, hpm1⟩ : ∃ q9 : Nat → Nat → Nat, q9 = va_up pm ch (cpy (pm ch) (bhF (n, ch, pm, st, kf, rg) a b9) n) := ⟨_, rfl⟩
    have hW : xXW D cI cC ad (n, ch + 1, pm1, st, kf, rg) H1 := by rw [hpm1]; exact hW
    have hI0 := hI
    have hI : AI (n, ch + 1, pm1, st, kf, rg) := by rw [hpm1]; exact hI1
    refine xz_i (y := nI ch) rfl ?_
    have hpa : pm1 a = pm a := by rw [hpm1]; exact va_up_ne _ _ (by omega)
    refine lv_iload hx hb dL_law_217 (lv_at hl 5 rfl) ?_
    refine xn_icmp_eq (tgt := 224) hx hb dL_law_219 (by decide) (by omega) (by omega) (fun c219 => ?_) (fun c219 => ?_)
    · refine xn_iinc (v := ch + 1) (lv' := [(5, .int (nI (ch + 1))), (0, .ref b), (1, .ref (ad 0)), (2, .int (nI n)), (3, .int (nI st)), (4, .int (nI rg)), (6, .int (nI ti)), (7, .int v), (8, .int (nI a)), (9, .int (nI b9)), (10, .int (nI (hrk (pm a) n n))), (11, .int (nI (ivs (pm a) n % 2))), (12, .int (nI (hrk (pm a) n n)))]) hx hb dL_law_224 hl (k := 5) rfl (xinc1 _) (by decide) rfl (fun ls hl => ?_)
      refine lv_goto (tgt := 447) hx hb dL_law_227 (by decide) ?_
      exact J (ch + 1) pm1 rg _ _ _ _ _ hI (by omega) (by omega) (by omega) hW hS (by omega) (by omega) (by rw [hpa]; exact lv_sub hl [1, 2, 3, 4, 5, 0, 6, 8, 12] rfl)
    · exact absurd rfl c219
  · refine lv_goto (tgt := 447) hx hb dL_law_206 (by decide) ?_
    exact J ch pm rg _ _ _ _ _ hI (by omega) (by omega) (by omega) hW hS (by omega) (by omega) (lv_sub hl [0, 1, 2, 3, 4, 5, 6, 8, 12] rfl)
set_option maxRecDepth 100000 in
set_option maxHeartbeats 4000000 in
theorem lwBack_ {p : Program} {l : Launch} {e : Env} {s : State} {m : MethodId} {below : List Frame} {meth : Method} {c : Code} {b L : Nat} {xs : Nat → Int32} {D : va_G} {cI cC : ClassId} {ad : Nat → Nat} {Q : State → Prop} {n st : Nat} {kf : Nat → Nat} (hst9 : l.stackTraces = false) (C : qC p s m c b L xs D cI cC ad) {ch : Nat} {pm : Nat → Nat → Nat} {rg ti a b9 : Nat} {v : Int32} (hI : AI (n, ch, pm, st, kf, rg)) (hc5 : 5 ≤ ch) (hst1 : 1 ≤ st) (ha : a < ch) (hb9 : b9 < ch) (hrg : rg ≤ 200 * ti) (hti : ti < 30) {H : Heap} {locs : List Loc} {cells0 slots0 : Nat} {ls : Array Slot} (hW : xXW D cI cC ad (n, ch, pm, st, kf, rg) H) (hS : va_S (fun q : Nat => s.heap.size ≤ q) s.heap H locs) (hc : cells0 + 808 ≤ 600172) (hs : slots0 + 4848 ≤ 7300668) (hl : lv_has ls 18 [(0, .ref b), (1, .ref (ad 0)), (2, .int (nI n)), (3, .int (nI st)), (4, .int (nI rg)), (5, .int (nI ch)), (6, .int (nI ti)), (7, .int v), (8, .int (nI a)), (9, .int (nI b9)), (10, .int (nI (hrk (pm a) n n))), (11, .int (nI (ivs (pm a) n % 2))), (12, .int (nI (hrk (pm a) n n)))])
    (J : ∀ (ch1 : Nat) (pm1 : Nat → Nat → Nat) (rg1 : Nat) (H1 : Heap) (locs1 : List Loc) (cells1 slots1 : Nat) (ls1 : Array Slot), AI (n, ch1, pm1, st, kf, rg1) → 5 ≤ ch1 → a < ch1 → rg1 ≤ 200 * (ti + 1) → xXW D cI cC ad (n, ch1, pm1, st, kf, rg1) H1 → va_S (fun q : Nat => s.heap.size ≤ q) s.heap H1 locs1 → cells1 ≤ cells0 + 808 → slots1 ≤ slots0 + 4848 → lv_has ls1 18 [(0, .ref b), (1, .ref (ad 0)), (2, .int (nI n)), (3, .int (nI st)), (4, .int (nI rg1)), (5, .int (nI ch1)), (6, .int (nI ti)), (8, .int (nI a)), (12, .int (nI (hrk (pm1 a) n n)))] → W p l e room_1 s m #[Value.ref b] below meth c H1 locs1 cells1 slots1 Q (F0 m 447 ls1 [])) :
    W p l e room_1 s m #[Value.ref b] below meth c H locs cells0 slots0 Q (F0 m 230 ls []) := by
  obtain ⟨hx, hb, hml, hown, hts, hX, hbl, hL, hK, hZ, hj, hA⟩ := id C
  have hbA : ¬ (fun q : Nat => s.heap.size ≤ q) b := Nat.not_le.mpr hbl
  obtain ⟨⟨hn2, hn8⟩, hch, hst, hpm8, hpm, hkv, hkb⟩ := id hI
  have hn2 : 2 ≤ n := hn2
  have hn8 : n ≤ 8 := hn8
  have hch : ch ≤ 16 := hch
  have hst : st ≤ 10 := hst
  have hpm8 : ∀ k i, pm k i < 8 := hpm8
  have hpm : ∀ k, k < ch → Prm n (pm k) := hpm
  have hpa9 : Prm n (pm a) := hpm a ha
  refine lv_aload_n hx hb dL_law_230 rfl (lv_at hl 1 rfl) ?_
  refine lv_iload hx hb dL_law_231 (lv_at hl 8 rfl) ?_
  refine xn_iconst (v := 5) hx hb dL_law_233 (by decide) ?_
  refine xoC (As := [.int (nI a), .int (nI 5)]) (rest := []) ⟨hx, hb, hml, hown, hts⟩ (kTold_ l hst9 D cI cC ad hj (n, ch, pm, st, kf, rg) hI (nI a) (nI 5)) (fun _ _ hB => no1 (t_told (S := (n, ch, pm, st, kf, rg)) hI (show a < ch by omega) (by decide)) hB) (cwV 2 hts gL_law_X3_told rfl rfl rfl (by decide +kernel) ⟨Nat.le_of_ble_eq_true rfl, Nat.le_of_ble_eq_true rfl⟩) hK hZ hW rfl hl.1 rfl (Nat.le_of_ble_eq_true rfl) dL_law_234 ⟨(by show cells0 + 10 ≤ 600172; omega), (by show slots0 + 60 ≤ 7300668; omega)⟩ hS hA (fun H1 locs1 hW hS => ?_)
  refine xz_i (y := nI (ord (pm a) n n)) (v_told (by omega) (by decide)) ?_
  refine lv_istore (lv' := [(13, .int (nI (ord (pm a) n n))), (0, .ref b), (1, .ref (ad 0)), (2, .int (nI n)), (3, .int (nI st)), (4, .int (nI rg)), (5, .int (nI ch)), (6, .int (nI ti)), (7, .int v), (8, .int (nI a)), (9, .int (nI b9)), (10, .int (nI (hrk (pm a) n n))), (11, .int (nI (ivs (pm a) n % 2))), (12, .int (nI (hrk (pm a) n n)))]) hx hb dL_law_237 hl (by decide) rfl (fun ls hl => ?_)
  refine lv_aload_n hx hb dL_law_239 rfl (lv_at hl 2 rfl) ?_
  refine lv_iload hx hb dL_law_240 (lv_at hl 9 rfl) ?_
  have ht := t_in (S := (n, ch, pm, st, kf, rg)) hI (show a < ch by omega)
  refine xoC (As := [.int (nI a)]) (rest := []) ⟨hx, hb, hml, hown, hts⟩ (kBack_ l hst9 D cI cC ad hj (n, ch, pm, st, kf, rg) hI (nI a)) (fun _ _ hB => no1 ht hB) (cwV 1 hts gL_law_X3_back rfl rfl rfl (by decide +kernel) ⟨Nat.le_of_ble_eq_true rfl, Nat.le_of_ble_eq_true rfl⟩) hK hZ hW rfl hl.1 rfl (Nat.le_of_ble_eq_true rfl) dL_law_242 ⟨(by show cells0 + 10 + 10 ≤ 600172; omega), (by show slots0 + 60 + 60 ≤ 7300668; omega)⟩ hS hA (fun H1 locs1 hW hS => ?_)
  have hI1 := AI_back hI (nI a)
  rw [n_back ht (by omega)] at hW hI1
  obtain ⟨pm1, hpm1⟩ : ∃ q9 : Nat → Nat → Nat, q9 = va_up pm a (bkF (n, ch, pm, st, kf, rg) a) := ⟨_, rfl⟩
  have hW : xXW D cI cC ad (n, ch, pm1, st, kf, rg) H1 := by rw [hpm1]; exact hW
  have hI0 := hI
  have hI : AI (n, ch, pm1, st, kf, rg) := by rw [hpm1]; exact hI1
  have hpa : pm1 a = bkF (n, ch, pm, st, kf, rg) a := by rw [hpm1]; exact va_up_self _ _ _
  refine xz_i (y := nI (hrk (pm1 a) n n)) ((v_back (by omega)).trans (congrArg (fun f9 => nI (hrk f9 n n)) hpa.symm)) ?_
  have hor : ord (pm1 a) n n = ord (pm a) n n := by rw [hpa]; exact ord_bk (S := (n, ch, pm, st, kf, rg)) hI0 (show a < ch by omega)
  have hiv : ivs (pm1 a) n % 2 = ivs (pm a) n % 2 := by rw [hpa]; exact ivs_bk (S := (n, ch, pm, st, kf, rg)) hI0 (show a < ch by omega)
  refine lv_istore (lv' := [(12, .int (nI (hrk (pm1 a) n n))), (13, .int (nI (ord (pm a) n n))), (0, .ref b), (1, .ref (ad 0)), (2, .int (nI n)), (3, .int (nI st)), (4, .int (nI rg)), (5, .int (nI ch)), (6, .int (nI ti)), (7, .int v), (8, .int (nI a)), (9, .int (nI b9)), (10, .int (nI (hrk (pm a) n n))), (11, .int (nI (ivs (pm a) n % 2)))]) hx hb dL_law_245 hl (by decide) rfl (fun ls hl => ?_)
  refine lv_aload_n hx hb dL_law_247 rfl (lv_at hl 3 rfl) ?_
  refine lv_iload hx hb dL_law_248 (lv_at hl 10 rfl) ?_
  refine xn_iconst (v := 5) hx hb dL_law_250 (by decide) ?_
  refine xoC (As := [.int (nI a), .int (nI 5)]) (rest := []) ⟨hx, hb, hml, hown, hts⟩ (kTold_ l hst9 D cI cC ad hj (n, ch, pm1, st, kf, rg) hI (nI a) (nI 5)) (fun _ _ hB => no1 (t_told (S := (n, ch, pm1, st, kf, rg)) hI (show a < ch by omega) (by decide)) hB) (cwV 2 hts gL_law_X3_told rfl rfl rfl (by decide +kernel) ⟨Nat.le_of_ble_eq_true rfl, Nat.le_of_ble_eq_true rfl⟩) hK hZ hW rfl hl.1 rfl (Nat.le_of_ble_eq_true rfl) dL_law_251 ⟨(by show cells0 + 10 + 10 + 10 ≤ 600172; omega), (by show slots0 + 60 + 60 + 60 ≤ 7300668; omega)⟩ hS hA (fun H1 locs1 hW hS => ?_)
  refine xz_i (y := nI (ord (pm1 a) n n)) (v_told (by omega) (by decide)) ?_
  refine lv_iload hx hb dL_law_254 (lv_at hl 1 rfl) ?_
  refine xn_icmp_ne (tgt := 271) hx hb dL_law_256 (by decide) (b_ord hn8) (b_ord hn8) (fun c256 => ?_) (fun c256 => ?_)
  · exact absurd hor c256
  · refine lv_aload_n hx hb dL_law_259 rfl (lv_at hl 3 rfl) ?_
    refine lv_iload hx hb dL_law_260 (lv_at hl 10 rfl) ?_
    refine xn_iconst (v := 2) hx hb dL_law_262 (by decide) ?_
    refine xoC (As := [.int (nI a), .int (nI 2)]) (rest := []) ⟨hx, hb, hml, hown, hts⟩ (kTold_ l hst9 D cI cC ad hj (n, ch, pm1, st, kf, rg) hI (nI a) (nI 2)) (fun _ _ hB => no1 (t_told (S := (n, ch, pm1, st, kf, rg)) hI (show a < ch by omega) (by decide)) hB) (cwV 2 hts gL_law_X3_told rfl rfl rfl (by decide +kernel) ⟨Nat.le_of_ble_eq_true rfl, Nat.le_of_ble_eq_true rfl⟩) hK hZ hW rfl hl.1 rfl (Nat.le_of_ble_eq_true rfl) dL_law_263 ⟨(by show cells0 + 10 + 10 + 10 + 10 ≤ 600172; omega), (by show slots0 + 60 + 60 + 60 + 60 ≤ 7300668; omega)⟩ hS hA (fun H1 locs1 hW hS => ?_)
    refine xz_i (y := nI (ivs (pm1 a) n % 2)) (v_told (by omega) (by decide)) ?_
    refine lv_iload hx hb dL_law_266 (lv_at hl 13 rfl) ?_
    refine xn_icmp_eq (tgt := 447) hx hb dL_law_268 (by decide) (b_mod2 _) (b_mod2 _) (fun c268 => ?_) (fun c268 => ?_)
    · exact J ch pm1 rg _ _ _ _ _ hI (by omega) (by omega) (by omega) hW hS (by omega) (by omega) (lv_sub hl [2, 3, 4, 5, 6, 7, 8, 10, 0] rfl)
    · exact absurd hiv c268
set_option maxRecDepth 100000 in
set_option maxHeartbeats 4000000 in
theorem lwRing_ {p : Program} {l : Launch} {e : Env} {s : State} {m : MethodId} {below : List Frame} {meth : Method} {c : Code} {b L : Nat} {xs : Nat → Int32} {D : va_G} {cI cC : ClassId} {ad : Nat → Nat} {Q : State → Prop} {n st : Nat} {kf : Nat → Nat} (hst9 : l.stackTraces = false) (C : qC p s m c b L xs D cI cC ad) {ch : Nat} {pm : Nat → Nat → Nat} {rg ti a b9 : Nat} {v : Int32} (hI : AI (n, ch, pm, st, kf, rg)) (hc5 : 5 ≤ ch) (hst1 : 1 ≤ st) (ha : a < ch) (hb9 : b9 < ch) (hrg : rg ≤ 200 * ti) (hti : ti < 30) {H : Heap} {locs : List Loc} {cells0 slots0 : Nat} {ls : Array Slot} (hW : xXW D cI cC ad (n, ch, pm, st, kf, rg) H) (hS : va_S (fun q : Nat => s.heap.size ≤ q) s.heap H locs) (hc : cells0 + 808 ≤ 600172) (hs : slots0 + 4848 ≤ 7300668) (hl : lv_has ls 18 [(0, .ref b), (1, .ref (ad 0)), (2, .int (nI n)), (3, .int (nI st)), (4, .int (nI rg)), (5, .int (nI ch)), (6, .int (nI ti)), (7, .int v), (8, .int (nI a)), (9, .int (nI b9)), (10, .int (nI (hrk (pm a) n n))), (11, .int (nI (ivs (pm a) n % 2))), (12, .int (nI (hrk (pm a) n n)))])
    (J : ∀ (ch1 : Nat) (pm1 : Nat → Nat → Nat) (rg1 : Nat) (H1 : Heap) (locs1 : List Loc) (cells1 slots1 : Nat) (ls1 : Array Slot), AI (n, ch1, pm1, st, kf, rg1) → 5 ≤ ch1 → a < ch1 → rg1 ≤ 200 * (ti + 1) → xXW D cI cC ad (n, ch1, pm1, st, kf, rg1) H1 → va_S (fun q : Nat => s.heap.size ≤ q) s.heap H1 locs1 → cells1 ≤ cells0 + 808 → slots1 ≤ slots0 + 4848 → lv_has ls1 18 [(0, .ref b), (1, .ref (ad 0)), (2, .int (nI n)), (3, .int (nI st)), (4, .int (nI rg1)), (5, .int (nI ch1)), (6, .int (nI ti)), (8, .int (nI a)), (12, .int (nI (hrk (pm1 a) n n)))] → W p l e room_1 s m #[Value.ref b] below meth c H1 locs1 cells1 slots1 Q (F0 m 447 ls1 [])) :
    W p l e room_1 s m #[Value.ref b] below meth c H locs cells0 slots0 Q (F0 m 273 ls []) := by
  obtain ⟨hx, hb, hml, hown, hts, hX, hbl, hL, hK, hZ, hj, hA⟩ := id C
  have hbA : ¬ (fun q : Nat => s.heap.size ≤ q) b := Nat.not_le.mpr hbl
  obtain ⟨⟨hn2, hn8⟩, hch, hst, hpm8, hpm, hkv, hkb⟩ := id hI
  have hn2 : 2 ≤ n := hn2
  have hn8 : n ≤ 8 := hn8
  have hch : ch ≤ 16 := hch
  have hst : st ≤ 10 := hst
  have hpm8 : ∀ k i, pm k i < 8 := hpm8
  have hpm : ∀ k, k < ch → Prm n (pm k) := hpm
  have hpa9 : Prm n (pm a) := hpm a ha
  refine xn_iconst (v := 1) hx hb dL_law_273 (by decide) ?_
  refine lv_iload hx hb dL_law_274 (lv_at hl 7 rfl) ?_
  refine xn_iconst (v := 4) hx hb dL_law_276 (by decide) ?_
  refine lv_ishr hx hb dL_law_277 ?_
  refine xn_bipush (v := 60) hx hb dL_law_278 (by decide) ?_
  refine lcS (As := [.int (v >>> ((nI 4) &&& 31)), .int (nI 60)]) (rest := [.int (nI 1)]) ⟨hx, hb, hml, hown, hts⟩ (cL_below_ l (v >>> ((nI 4) &&& 31)) 60 (by decide) (by decide)) (va_cwS 2 hts gL_law_L_below rfl rfl rfl (by decide +kernel) ⟨Nat.le_of_ble_eq_true rfl, Nat.le_of_ble_eq_true rfl⟩) lpre0 rfl hl.1 rfl (Nat.le_of_ble_eq_true rfl) dL_law_280 ⟨(by show cells0 ≤ 600172; omega), (by show slots0 ≤ 7300668; omega)⟩ (fun x280 e280 => ?_)
  subst e280
  have hw9 : bel (v >>> ((nI 4) &&& 31)) 60 < 60 := bel_lt _ (by omega)
  generalize bel (v >>> ((nI 4) &&& 31)) 60 = w9 at hw9 ⊢
  refine xn_iadd hx hb dL_law_283 ?_
  refine lv_istore (lv' := [(13, .int (nI (1 + w9))), (0, .ref b), (1, .ref (ad 0)), (2, .int (nI n)), (3, .int (nI st)), (4, .int (nI rg)), (5, .int (nI ch)), (6, .int (nI ti)), (7, .int v), (8, .int (nI a)), (9, .int (nI b9)), (10, .int (nI (hrk (pm a) n n))), (11, .int (nI (ivs (pm a) n % 2))), (12, .int (nI (hrk (pm a) n n)))]) hx hb dL_law_284 hl (by decide) rfl (fun ls hl => ?_)
  refine lv_aload_n hx hb dL_law_286 rfl (lv_at hl 2 rfl) ?_
  refine lv_iload hx hb dL_law_287 (lv_at hl 9 rfl) ?_
  refine lv_iload hx hb dL_law_289 (lv_at hl 0 rfl) ?_
  have ht := t_ring (S := (n, ch, pm, st, kf, rg)) hI (show a < ch by omega) (show 1 ≤ 1 + w9 by omega) (show 1 + w9 ≤ 200 by omega)
  refine xoC (As := [.int (nI a), .int (nI (1 + w9))]) (rest := []) ⟨hx, hb, hml, hown, hts⟩ (kRing_ l hst9 D cI cC ad hj (n, ch, pm, st, kf, rg) hI (nI a) (nI (1 + w9))) (fun _ _ hB => no2 ht hB) (cwV 2 hts gL_law_X3_ring rfl rfl rfl (by decide +kernel) ⟨Nat.le_of_ble_eq_true rfl, Nat.le_of_ble_eq_true rfl⟩) hK hZ hW rfl hl.1 rfl (Nat.le_of_ble_eq_true rfl) dL_law_291 ⟨(by show cells0 + 10 ≤ 600172; omega), (by show slots0 + 60 ≤ 7300668; omega)⟩ hS hA (fun H1 locs1 hW hS => ?_)
  have hI1 := AI_ring hI (nI a) (nI (1 + w9))
  rw [n_ring ht (show st ≠ 0 by omega) (by omega) (by omega)] at hW hI1
  obtain ⟨pm1, hpm1⟩ : ∃ q9 : Nat → Nat → Nat, q9 = va_up pm a (rgF (n, ch, pm, st, kf, rg) a (1 + w9)) := ⟨_, rfl⟩
  have hW : xXW D cI cC ad (n, ch, pm1, st, kf, rg + (1 + w9)) H1 := by rw [hpm1]; exact hW
  have hI0 := hI
  have hI : AI (n, ch, pm1, st, kf, rg + (1 + w9)) := by rw [hpm1]; exact hI1
  have hpa : pm1 a = rgF (n, ch, pm, st, kf, rg) a (1 + w9) := by rw [hpm1]; exact va_up_self _ _ _
  refine xz_i (y := nI (hrk (pm1 a) n n)) ((v_ring (by omega) (by omega)).trans (congrArg (fun f9 => nI (hrk f9 n n)) hpa.symm)) ?_
  refine lv_istore (lv' := [(12, .int (nI (hrk (pm1 a) n n))), (13, .int (nI (1 + w9))), (0, .ref b), (1, .ref (ad 0)), (2, .int (nI n)), (3, .int (nI st)), (4, .int (nI rg)), (5, .int (nI ch)), (6, .int (nI ti)), (7, .int v), (8, .int (nI a)), (9, .int (nI b9)), (10, .int (nI (hrk (pm a) n n))), (11, .int (nI (ivs (pm a) n % 2)))]) hx hb dL_law_294 hl (by decide) rfl (fun ls hl => ?_)
  refine lv_iload hx hb dL_law_296 (lv_at hl 6 rfl) ?_
  refine lv_iload hx hb dL_law_298 (lv_at hl 1 rfl) ?_
  refine xn_iadd hx hb dL_law_300 ?_
  refine lv_istore (lv' := [(4, .int (nI (rg + (1 + w9)))), (12, .int (nI (hrk (pm1 a) n n))), (13, .int (nI (1 + w9))), (0, .ref b), (1, .ref (ad 0)), (2, .int (nI n)), (3, .int (nI st)), (5, .int (nI ch)), (6, .int (nI ti)), (7, .int v), (8, .int (nI a)), (9, .int (nI b9)), (10, .int (nI (hrk (pm a) n n))), (11, .int (nI (ivs (pm a) n % 2)))]) hx hb dL_law_301 hl (by decide) rfl (fun ls hl => ?_)
  refine lv_goto (tgt := 447) hx hb dL_law_303 (by decide) ?_
  exact J ch pm1 (rg + (1 + w9)) _ _ _ _ _ hI (by omega) (by omega) (by omega) hW hS (by omega) (by omega) (lv_sub hl [3, 4, 5, 6, 0, 7, 8, 10, 1] rfl)
set_option maxRecDepth 100000 in
set_option maxHeartbeats 4000000 in
theorem lwAsk_ {p : Program} {l : Launch} {e : Env} {s : State} {m : MethodId} {below : List Frame} {meth : Method} {c : Code} {b L : Nat} {xs : Nat → Int32} {D : va_G} {cI cC : ClassId} {ad : Nat → Nat} {Q : State → Prop} {n st : Nat} {kf : Nat → Nat} (hst9 : l.stackTraces = false) (C : qC p s m c b L xs D cI cC ad) {ch : Nat} {pm : Nat → Nat → Nat} {rg ti a b9 : Nat} {v : Int32} (hI : AI (n, ch, pm, st, kf, rg)) (hc5 : 5 ≤ ch) (hst1 : 1 ≤ st) (ha : a < ch) (hb9 : b9 < ch) (hrg : rg ≤ 200 * ti) (hti : ti < 30) {H : Heap} {locs : List Loc} {cells0 slots0 : Nat} {ls : Array Slot} (hW : xXW D cI cC ad (n, ch, pm, st, kf, rg) H) (hS : va_S (fun q : Nat => s.heap.size ≤ q) s.heap H locs) (hc : cells0 + 808 ≤ 600172) (hs : slots0 + 4848 ≤ 7300668) (hl : lv_has ls 18 [(0, .ref b), (1, .ref (ad 0)), (2, .int (nI n)), (3, .int (nI st)), (4, .int (nI rg)), (5, .int (nI ch)), (6, .int (nI ti)), (7, .int v), (8, .int (nI a)), (9, .int (nI b9)), (10, .int (nI (hrk (pm a) n n))), (11, .int (nI (ivs (pm a) n % 2))), (12, .int (nI (hrk (pm a) n n)))])
    (J : ∀ (ch1 : Nat) (pm1 : Nat → Nat → Nat) (rg1 : Nat) (H1 : Heap) (locs1 : List Loc) (cells1 slots1 : Nat) (ls1 : Array Slot), AI (n, ch1, pm1, st, kf, rg1) → 5 ≤ ch1 → a < ch1 → rg1 ≤ 200 * (ti + 1) → xXW D cI cC ad (n, ch1, pm1, st, kf, rg1) H1 → va_S (fun q : Nat => s.heap.size ≤ q) s.heap H1 locs1 → cells1 ≤ cells0 + 808 → slots1 ≤ slots0 + 4848 → lv_has ls1 18 [(0, .ref b), (1, .ref (ad 0)), (2, .int (nI n)), (3, .int (nI st)), (4, .int (nI rg1)), (5, .int (nI ch1)), (6, .int (nI ti)), (8, .int (nI a)), (12, .int (nI (hrk (pm1 a) n n)))] → W p l e room_1 s m #[Value.ref b] below meth c H1 locs1 cells1 slots1 Q (F0 m 447 ls1 [])) :
    W p l e room_1 s m #[Value.ref b] below meth c H locs cells0 slots0 Q (F0 m 306 ls []) := by
  obtain ⟨hx, hb, hml, hown, hts, hX, hbl, hL, hK, hZ, hj, hA⟩ := id C
  have hbA : ¬ (fun q : Nat => s.heap.size ≤ q) b := Nat.not_le.mpr hbl
  obtain ⟨⟨hn2, hn8⟩, hch, hst, hpm8, hpm, hkv, hkb⟩ := id hI
  have hn2 : 2 ≤ n := hn2
  have hn8 : n ≤ 8 := hn8
  have hch : ch ≤ 16 := hch
  have hst : st ≤ 10 := hst
  have hpm8 : ∀ k i, pm k i < 8 := hpm8
  have hpm : ∀ k, k < ch → Prm n (pm k) := hpm
  have hpa9 : Prm n (pm a) := hpm a ha
  refine lv_aload_n hx hb dL_law_306 rfl (lv_at hl 1 rfl) ?_
  refine xoL (As := []) (rest := []) ⟨hx, hb, hml, hown, hts⟩ (kDigest_ l hst9 D cI cC ad hj (n, ch, pm, st, kf, rg) hI) (cwV 0 hts gL_law_X3_digest rfl rfl rfl (by decide +kernel) ⟨Nat.le_of_ble_eq_true rfl, Nat.le_of_ble_eq_true rfl⟩) hK hZ hW rfl hl.1 rfl (Nat.le_of_ble_eq_true rfl) dL_law_307 ⟨(by show cells0 + 384 ≤ 600172; omega), (by show slots0 + 2304 ≤ 7300668; omega)⟩ hS hA (fun H1 locs1 hW hS => ?_)
  refine lv_lstore (lv' := [(13, .long (dgS (n, ch, pm, st, kf, rg))), (0, .ref b), (1, .ref (ad 0)), (2, .int (nI n)), (3, .int (nI st)), (4, .int (nI rg)), (5, .int (nI ch)), (6, .int (nI ti)), (7, .int v), (8, .int (nI a)), (9, .int (nI b9)), (10, .int (nI (hrk (pm a) n n))), (11, .int (nI (ivs (pm a) n % 2))), (12, .int (nI (hrk (pm a) n n)))]) hx hb dL_law_310 hl (by decide) rfl (fun ls hl => ?_)
  refine lv_aload_n hx hb dL_law_312 rfl (lv_at hl 2 rfl) ?_
  refine lv_iload hx hb dL_law_313 (lv_at hl 9 rfl) ?_
  refine xoC (As := [.int (nI a)]) (rest := []) ⟨hx, hb, hml, hown, hts⟩ (kComes_ l hst9 D cI cC ad hj (n, ch, pm, st, kf, rg) hI (nI a)) (fun _ _ hB => no1 (t_in (S := (n, ch, pm, st, kf, rg)) hI (show a < ch by omega)) hB) (cwV 1 hts gL_law_X3_comes rfl rfl rfl (by decide +kernel) ⟨Nat.le_of_ble_eq_true rfl, Nat.le_of_ble_eq_true rfl⟩) hK hZ hW rfl hl.1 rfl (Nat.le_of_ble_eq_true rfl) dL_law_315 ⟨(by show cells0 + 384 + 10 ≤ 600172; omega), (by show slots0 + 2304 + 60 ≤ 7300668; omega)⟩ hS hA (fun H1 locs1 hW hS => ?_)
  rcases v_comes (S := (n, ch, pm, st, kf, rg)) (a := a) (show st ≠ 0 by omega) (by omega) with hcm | ⟨j9, hj1, hj4, hcm, hce⟩
  · refine xz_i (y := (-1)) hcm ?_
    refine lv_istore (lv' := [(15, .int (-1)), (13, .long (dgS (n, ch, pm, st, kf, rg))), (0, .ref b), (1, .ref (ad 0)), (2, .int (nI n)), (3, .int (nI st)), (4, .int (nI rg)), (5, .int (nI ch)), (6, .int (nI ti)), (7, .int v), (8, .int (nI a)), (9, .int (nI b9)), (10, .int (nI (hrk (pm a) n n))), (11, .int (nI (ivs (pm a) n % 2))), (12, .int (nI (hrk (pm a) n n)))]) hx hb dL_law_318 hl (by decide) rfl (fun ls hl => ?_)
    refine lv_aload_n hx hb dL_law_320 rfl (lv_at hl 3 rfl) ?_
    refine xn_bipush (v := 40) hx hb dL_law_321 (by decide) ?_
    refine xoC (As := [.int (nI 40)]) (rest := []) ⟨hx, hb, hml, hown, hts⟩ (kDiffer_ l hst9 D cI cC ad hj (n, ch, pm, st, kf, rg) hI (nI 40)) (fun _ _ hB => no1 (t_differ (S := (n, ch, pm, st, kf, rg))) hB) (cwV 1 hts gL_law_X3_differ rfl rfl rfl (by decide +kernel) ⟨Nat.le_of_ble_eq_true rfl, Nat.le_of_ble_eq_true rfl⟩) hK hZ hW rfl hl.1 rfl (Nat.le_of_ble_eq_true rfl) dL_law_323 ⟨(by show cells0 + 384 + 10 + 10 ≤ 600172; omega), (by show slots0 + 2304 + 60 + 60 ≤ 7300668; omega)⟩ hS hA (fun H1 locs1 hW hS => ?_)
    obtain ⟨d9, hdf, hd1, hd2, hd3⟩ := v_differ (S := (n, ch, pm, st, kf, rg)) (show st ≠ 0 by omega)
    refine xz_i (y := nI d9) hdf ?_
    refine lv_istore (lv' := [(16, .int (nI d9)), (15, .int (-1)), (13, .long (dgS (n, ch, pm, st, kf, rg))), (0, .ref b), (1, .ref (ad 0)), (2, .int (nI n)), (3, .int (nI st)), (4, .int (nI rg)), (5, .int (nI ch)), (6, .int (nI ti)), (7, .int v), (8, .int (nI a)), (9, .int (nI b9)), (10, .int (nI (hrk (pm a) n n))), (11, .int (nI (ivs (pm a) n % 2))), (12, .int (nI (hrk (pm a) n n)))]) hx hb dL_law_326 hl (by decide) rfl (fun ls hl => ?_)
    refine lv_aload_n hx hb dL_law_328 rfl (lv_at hl 4 rfl) ?_
    refine lv_iload hx hb dL_law_329 (lv_at hl 11 rfl) ?_
    refine xoC (As := [.int (nI a)]) (rest := []) ⟨hx, hb, hml, hown, hts⟩ (kAdvise_ l hst9 D cI cC ad hj (n, ch, pm, st, kf, rg) hI (nI a)) (fun _ _ hB => no1 (t_in (S := (n, ch, pm, st, kf, rg)) hI (show a < ch by omega)) hB) (cwV 1 hts gL_law_X3_advise rfl rfl rfl (by decide +kernel) ⟨Nat.le_of_ble_eq_true rfl, Nat.le_of_ble_eq_true rfl⟩) hK hZ hW rfl hl.1 rfl (Nat.le_of_ble_eq_true rfl) dL_law_331 ⟨(by show cells0 + 384 + 10 + 10 + 10 ≤ 600172; omega), (by show slots0 + 2304 + 60 + 60 + 60 ≤ 7300668; omega)⟩ hS hA (fun H1 locs1 hW hS => ?_)
    obtain ⟨e9, had, he9⟩ := v_advise (S := (n, ch, pm, st, kf, rg)) (a := a) (show 1 ≤ ch by omega)
    have he9 : e9 < ch := he9
    refine xz_i (y := nI e9) had ?_
    refine lv_istore (lv' := [(17, .int (nI e9)), (16, .int (nI d9)), (15, .int (-1)), (13, .long (dgS (n, ch, pm, st, kf, rg))), (0, .ref b), (1, .ref (ad 0)), (2, .int (nI n)), (3, .int (nI st)), (4, .int (nI rg)), (5, .int (nI ch)), (6, .int (nI ti)), (7, .int v), (8, .int (nI a)), (9, .int (nI b9)), (10, .int (nI (hrk (pm a) n n))), (11, .int (nI (ivs (pm a) n % 2))), (12, .int (nI (hrk (pm a) n n)))]) hx hb dL_law_334 hl (by decide) rfl (fun ls hl => ?_)
    refine lv_aload_n hx hb dL_law_336 rfl (lv_at hl 5 rfl) ?_
    refine xoL (As := []) (rest := []) ⟨hx, hb, hml, hown, hts⟩ (kDigest_ l hst9 D cI cC ad hj (n, ch, pm, st, kf, rg) hI) (cwV 0 hts gL_law_X3_digest rfl rfl rfl (by decide +kernel) ⟨Nat.le_of_ble_eq_true rfl, Nat.le_of_ble_eq_true rfl⟩) hK hZ hW rfl hl.1 rfl (Nat.le_of_ble_eq_true rfl) dL_law_337 ⟨(by show cells0 + 384 + 10 + 10 + 10 + 384 ≤ 600172; omega), (by show slots0 + 2304 + 60 + 60 + 60 + 2304 ≤ 7300668; omega)⟩ hS hA (fun H1 locs1 hW hS => ?_)
    refine lv_lload hx hb dL_law_340 (lv_at hl 3 rfl) ?_
    refine W.lcmp hx hb dL_law_342 ?_
    refine xz_i (y := nI 0) ((lg_cmp_eq _ _).mpr rfl) ?_
    refine xn_if_ne (tgt := 410) hx hb dL_law_343 (by decide) (by decide) (fun c => absurd c (by decide)) (fun _ => ?_)
    refine lv_iload hx hb dL_law_346 (lv_at hl 2 rfl) ?_
    refine lv_if_eq (tgt := 410) hx hb dL_law_348 (by decide) (fun c348 => ?_) (fun c348 => ?_)
    · exact absurd c348 (by first | omega | decide)
    · refine lv_iload hx hb dL_law_351 (lv_at hl 2 rfl) ?_
      refine xn_sipush (v := 400) hx hb dL_law_353 (by decide) ?_
      refine lv_icmp_gt (tgt := 410) hx hb dL_law_356 (by decide) (fun c356 => ?_) (fun c356 => ?_)
      · exact absurd c356 (by first | omega | decide)
      · refine lv_iload hx hb dL_law_359 (lv_at hl 1 rfl) ?_
        refine xn_iconst (v := 1) hx hb dL_law_361 (by decide) ?_
        refine xn_icmp_lt (tgt := 410) hx hb dL_law_362 (by decide) (by omega) (by decide) (fun c362 => ?_) (fun c362 => ?_)
        · exact absurd c362 (by omega)
        · refine lv_iload hx hb dL_law_365 (lv_at hl 1 rfl) ?_
          refine xn_bipush (v := 41) hx hb dL_law_367 (by decide) ?_
          refine xn_icmp_gt (tgt := 410) hx hb dL_law_369 (by decide) (by omega) (by decide) (fun c369 => ?_) (fun c369 => ?_)
          · exact absurd c369 (by omega)
          · refine lv_iload hx hb dL_law_372 (lv_at hl 2 rfl) ?_
            refine lv_if_le (tgt := 398) hx hb dL_law_374 (by decide) (fun c374 => ?_) (fun c374 => ?_)
            · refine lv_iload hx hb dL_law_398 (lv_at hl 0 rfl) ?_
              refine xn_if_lt (tgt := 410) hx hb dL_law_400 (by decide) (by omega) ?_
              refine lv_iload hx hb dL_law_403 (lv_at hl 0 rfl) ?_
              refine lv_iload hx hb dL_law_405 (lv_at hl 9 rfl) ?_
              refine xn_icmp_lt (tgt := 412) hx hb dL_law_407 (by decide) (by omega) (by omega) (fun c407 => ?_) (fun c407 => ?_)
              · refine lv_iload hx hb dL_law_412 (lv_at hl 2 rfl) ?_
                refine lv_if_le (tgt := 447) hx hb dL_law_414 (by decide) (fun c414 => ?_) (fun c414 => ?_)
                · exact J ch pm rg _ _ _ _ _ hI (by omega) (by omega) (by omega) hW hS (by omega) (by omega) (lv_sub hl [4, 5, 6, 7, 8, 9, 10, 12, 16] rfl)
                · exact absurd c414 (by decide)
              · exact absurd c407 (by omega)
            · exact absurd c374 (by decide)
  · refine xz_i (y := (nI j9)) hcm ?_
    refine lv_istore (lv' := [(15, .int (nI j9)), (13, .long (dgS (n, ch, pm, st, kf, rg))), (0, .ref b), (1, .ref (ad 0)), (2, .int (nI n)), (3, .int (nI st)), (4, .int (nI rg)), (5, .int (nI ch)), (6, .int (nI ti)), (7, .int v), (8, .int (nI a)), (9, .int (nI b9)), (10, .int (nI (hrk (pm a) n n))), (11, .int (nI (ivs (pm a) n % 2))), (12, .int (nI (hrk (pm a) n n)))]) hx hb dL_law_318 hl (by decide) rfl (fun ls hl => ?_)
    refine lv_aload_n hx hb dL_law_320 rfl (lv_at hl 3 rfl) ?_
    refine xn_bipush (v := 40) hx hb dL_law_321 (by decide) ?_
    refine xoC (As := [.int (nI 40)]) (rest := []) ⟨hx, hb, hml, hown, hts⟩ (kDiffer_ l hst9 D cI cC ad hj (n, ch, pm, st, kf, rg) hI (nI 40)) (fun _ _ hB => no1 (t_differ (S := (n, ch, pm, st, kf, rg))) hB) (cwV 1 hts gL_law_X3_differ rfl rfl rfl (by decide +kernel) ⟨Nat.le_of_ble_eq_true rfl, Nat.le_of_ble_eq_true rfl⟩) hK hZ hW rfl hl.1 rfl (Nat.le_of_ble_eq_true rfl) dL_law_323 ⟨(by show cells0 + 384 + 10 + 10 ≤ 600172; omega), (by show slots0 + 2304 + 60 + 60 ≤ 7300668; omega)⟩ hS hA (fun H1 locs1 hW hS => ?_)
    obtain ⟨d9, hdf, hd1, hd2, hd3⟩ := v_differ (S := (n, ch, pm, st, kf, rg)) (show st ≠ 0 by omega)
    refine xz_i (y := nI d9) hdf ?_
    refine lv_istore (lv' := [(16, .int (nI d9)), (15, .int (nI j9)), (13, .long (dgS (n, ch, pm, st, kf, rg))), (0, .ref b), (1, .ref (ad 0)), (2, .int (nI n)), (3, .int (nI st)), (4, .int (nI rg)), (5, .int (nI ch)), (6, .int (nI ti)), (7, .int v), (8, .int (nI a)), (9, .int (nI b9)), (10, .int (nI (hrk (pm a) n n))), (11, .int (nI (ivs (pm a) n % 2))), (12, .int (nI (hrk (pm a) n n)))]) hx hb dL_law_326 hl (by decide) rfl (fun ls hl => ?_)
    refine lv_aload_n hx hb dL_law_328 rfl (lv_at hl 4 rfl) ?_
    refine lv_iload hx hb dL_law_329 (lv_at hl 11 rfl) ?_
    refine xoC (As := [.int (nI a)]) (rest := []) ⟨hx, hb, hml, hown, hts⟩ (kAdvise_ l hst9 D cI cC ad hj (n, ch, pm, st, kf, rg) hI (nI a)) (fun _ _ hB => no1 (t_in (S := (n, ch, pm, st, kf, rg)) hI (show a < ch by omega)) hB) (cwV 1 hts gL_law_X3_advise rfl rfl rfl (by decide +kernel) ⟨Nat.le_of_ble_eq_true rfl, Nat.le_of_ble_eq_true rfl⟩) hK hZ hW rfl hl.1 rfl (Nat.le_of_ble_eq_true rfl) dL_law_331 ⟨(by show cells0 + 384 + 10 + 10 + 10 ≤ 600172; omega), (by show slots0 + 2304 + 60 + 60 + 60 ≤ 7300668; omega)⟩ hS hA (fun H1 locs1 hW hS => ?_)
    obtain ⟨e9, had, he9⟩ := v_advise (S := (n, ch, pm, st, kf, rg)) (a := a) (show 1 ≤ ch by omega)
    have he9 : e9 < ch := he9
    refine xz_i (y := nI e9) had ?_
    refine lv_istore (lv' := [(17, .int (nI e9)), (16, .int (nI d9)), (15, .int (nI j9)), (13, .long (dgS (n, ch, pm, st, kf, rg))), (0, .ref b), (1, .ref (ad 0)), (2, .int (nI n)), (3, .int (nI st)), (4, .int (nI rg)), (5, .int (nI ch)), (6, .int (nI ti)), (7, .int v), (8, .int (nI a)), (9, .int (nI b9)), (10, .int (nI (hrk (pm a) n n))), (11, .int (nI (ivs (pm a) n % 2))), (12, .int (nI (hrk (pm a) n n)))]) hx hb dL_law_334 hl (by decide) rfl (fun ls hl => ?_)
    refine lv_aload_n hx hb dL_law_336 rfl (lv_at hl 5 rfl) ?_
    refine xoL (As := []) (rest := []) ⟨hx, hb, hml, hown, hts⟩ (kDigest_ l hst9 D cI cC ad hj (n, ch, pm, st, kf, rg) hI) (cwV 0 hts gL_law_X3_digest rfl rfl rfl (by decide +kernel) ⟨Nat.le_of_ble_eq_true rfl, Nat.le_of_ble_eq_true rfl⟩) hK hZ hW rfl hl.1 rfl (Nat.le_of_ble_eq_true rfl) dL_law_337 ⟨(by show cells0 + 384 + 10 + 10 + 10 + 384 ≤ 600172; omega), (by show slots0 + 2304 + 60 + 60 + 60 + 2304 ≤ 7300668; omega)⟩ hS hA (fun H1 locs1 hW hS => ?_)
    refine lv_lload hx hb dL_law_340 (lv_at hl 3 rfl) ?_
    refine W.lcmp hx hb dL_law_342 ?_
    refine xz_i (y := nI 0) ((lg_cmp_eq _ _).mpr rfl) ?_
    refine xn_if_ne (tgt := 410) hx hb dL_law_343 (by decide) (by decide) (fun c => absurd c (by decide)) (fun _ => ?_)
    refine lv_iload hx hb dL_law_346 (lv_at hl 2 rfl) ?_
    refine xn_if_eq (tgt := 410) hx hb dL_law_348 (by decide) (by omega) (fun c348 => ?_) (fun c348 => ?_)
    · exact absurd c348 (by first | omega | decide)
    · refine lv_iload hx hb dL_law_351 (lv_at hl 2 rfl) ?_
      refine xn_sipush (v := 400) hx hb dL_law_353 (by decide) ?_
      refine xn_icmp_gt (tgt := 410) hx hb dL_law_356 (by decide) (by omega) (by decide) (fun c356 => ?_) (fun c356 => ?_)
      · exact absurd c356 (by first | omega | decide)
      · refine lv_iload hx hb dL_law_359 (lv_at hl 1 rfl) ?_
        refine xn_iconst (v := 1) hx hb dL_law_361 (by decide) ?_
        refine xn_icmp_lt (tgt := 410) hx hb dL_law_362 (by decide) (by omega) (by decide) (fun c362 => ?_) (fun c362 => ?_)
        · exact absurd c362 (by omega)
        · refine lv_iload hx hb dL_law_365 (lv_at hl 1 rfl) ?_
          refine xn_bipush (v := 41) hx hb dL_law_367 (by decide) ?_
          refine xn_icmp_gt (tgt := 410) hx hb dL_law_369 (by decide) (by omega) (by decide) (fun c369 => ?_) (fun c369 => ?_)
          · exact absurd c369 (by omega)
          · refine lv_iload hx hb dL_law_372 (lv_at hl 2 rfl) ?_
            refine xn_if_le (tgt := 398) hx hb dL_law_374 (by decide) (by omega) (fun c374 => ?_) (fun c374 => ?_)
            · exact absurd c374 (by omega)
            · refine lv_iload hx hb dL_law_377 (lv_at hl 2 rfl) ?_
              refine xn_bipush (v := 40) hx hb dL_law_379 (by decide) ?_
              refine xn_icmp_gt (tgt := 398) hx hb dL_law_381 (by decide) (by omega) (by decide) (fun c381 => ?_) (fun c381 => ?_)
              · refine lv_iload hx hb dL_law_398 (lv_at hl 0 rfl) ?_
                refine xn_if_lt (tgt := 410) hx hb dL_law_400 (by decide) (by omega) ?_
                refine lv_iload hx hb dL_law_403 (lv_at hl 0 rfl) ?_
                refine lv_iload hx hb dL_law_405 (lv_at hl 9 rfl) ?_
                refine xn_icmp_lt (tgt := 412) hx hb dL_law_407 (by decide) (by omega) (by omega) (fun c407 => ?_) (fun c407 => ?_)
                · refine lv_iload hx hb dL_law_412 (lv_at hl 2 rfl) ?_
                  refine xn_if_le (tgt := 447) hx hb dL_law_414 (by decide) (by omega) (fun c414 => ?_) (fun c414 => ?_)
                  · exact absurd c414 (by omega)
                  · refine lv_iload hx hb dL_law_417 (lv_at hl 2 rfl) ?_
                    refine xn_sipush (v := 200) hx hb dL_law_419 (by decide) ?_
                    refine xn_icmp_gt (tgt := 447) hx hb dL_law_422 (by decide) (by omega) (by decide) (fun c422 => ?_) (fun c422 => ?_)
                    · exact J ch pm rg _ _ _ _ _ hI (by omega) (by omega) (by omega) hW hS (by omega) (by omega) (lv_sub hl [4, 5, 6, 7, 8, 9, 10, 12, 16] rfl)
                    · refine lv_aload_n hx hb dL_law_425 rfl (lv_at hl 5 rfl) ?_
                      refine lv_iload hx hb dL_law_426 (lv_at hl 12 rfl) ?_
                      refine lv_iload hx hb dL_law_428 (lv_at hl 2 rfl) ?_
                      have ht := t_ring (S := (n, ch, pm, st, kf, rg)) hI (show a < ch by omega) (show 1 ≤ j9 by omega) (show j9 ≤ 200 by omega)
                      refine xoC (As := [.int (nI a), .int (nI j9)]) (rest := []) ⟨hx, hb, hml, hown, hts⟩ (kRing_ l hst9 D cI cC ad hj (n, ch, pm, st, kf, rg) hI (nI a) (nI j9)) (fun _ _ hB => no2 ht hB) (cwV 2 hts gL_law_X3_ring rfl rfl rfl (by decide +kernel) ⟨Nat.le_of_ble_eq_true rfl, Nat.le_of_ble_eq_true rfl⟩) hK hZ hW rfl hl.1 rfl (Nat.le_of_ble_eq_true rfl) dL_law_430 ⟨(by show cells0 + 384 + 10 + 10 + 10 + 384 + 10 ≤ 600172; omega), (by show slots0 + 2304 + 60 + 60 + 60 + 2304 + 60 ≤ 7300668; omega)⟩ hS hA (fun H1 locs1 hW hS => ?_)
                      have hI1 := AI_ring hI (nI a) (nI j9)
                      rw [n_ring ht (show st ≠ 0 by omega) (by omega) (by omega)] at hW hI1
                      obtain ⟨pm1, hpm1⟩ : ∃ q9 : Nat → Nat → Nat, q9 = va_up pm a (rgF (n, ch, pm, st, kf, rg) a (j9)) := ⟨_, rfl⟩
                      have hW : xXW D cI cC ad (n, ch, pm1, st, kf, rg + j9) H1 := by rw [hpm1]; exact hW
                      have hI0 := hI
                      have hI : AI (n, ch, pm1, st, kf, rg + j9) := by rw [hpm1]; exact hI1
                      have hpa : pm1 a = rgF (n, ch, pm, st, kf, rg) a (j9) := by rw [hpm1]; exact va_up_self _ _ _
                      refine xz_i (y := nI (hrk (pm1 a) n n)) ((v_ring (by omega) (by omega)).trans (congrArg (fun f9 => nI (hrk f9 n n)) hpa.symm)) ?_
                      have hce9 : hrk (pm1 a) n n = hrk (pm a) n n := by rw [hpa]; exact hce
                      refine lv_iload hx hb dL_law_433 (lv_at hl 14 rfl) ?_
                      refine xn_icmp_eq (tgt := 440) hx hb dL_law_435 (by decide) (b_hrk hn8) (b_hrk hn8) (fun c435 => ?_) (fun c435 => ?_)
                      · refine lv_iload hx hb dL_law_440 (lv_at hl 8 rfl) ?_
                        refine lv_iload hx hb dL_law_442 (lv_at hl 2 rfl) ?_
                        refine xn_iadd hx hb dL_law_444 ?_
                        refine lv_istore (lv' := [(4, .int (nI (rg + j9))), (17, .int (nI e9)), (16, .int (nI d9)), (15, .int (nI j9)), (13, .long (dgS (n, ch, pm, st, kf, rg))), (0, .ref b), (1, .ref (ad 0)), (2, .int (nI n)), (3, .int (nI st)), (5, .int (nI ch)), (6, .int (nI ti)), (7, .int v), (8, .int (nI a)), (9, .int (nI b9)), (10, .int (nI (hrk (pm a) n n))), (11, .int (nI (ivs (pm a) n % 2))), (12, .int (nI (hrk (pm a) n n)))]) hx hb dL_law_445 hl (by decide) rfl (fun ls hl => ?_)
                        exact J ch pm1 (rg + j9) _ _ _ _ _ hI (by omega) (by omega) (by omega) hW hS (by omega) (by omega) (by rw [hce9]; exact lv_sub hl [5, 6, 7, 8, 0, 9, 10, 12, 16] rfl)
                      · exact absurd hce9 c435
                · exact absurd c407 (by omega)
              · refine lv_iload hx hb dL_law_384 (lv_at hl 2 rfl) ?_
                refine lv_iload_n hx hb dL_law_386 rfl (lv_at hl 7 rfl) ?_
                refine xn_irem hx hb (by omega) (by omega) (by omega) dL_law_387 ?_
                refine xn_if_ne (tgt := 398) hx hb dL_law_388 (by decide) (Nat.lt_of_le_of_lt (Nat.mod_le _ _) (by omega)) (fun c388 => ?_) (fun c388 => ?_)
                · refine lv_iload hx hb dL_law_398 (lv_at hl 0 rfl) ?_
                  refine xn_if_lt (tgt := 410) hx hb dL_law_400 (by decide) (by omega) ?_
                  refine lv_iload hx hb dL_law_403 (lv_at hl 0 rfl) ?_
                  refine lv_iload hx hb dL_law_405 (lv_at hl 9 rfl) ?_
                  refine xn_icmp_lt (tgt := 412) hx hb dL_law_407 (by decide) (by omega) (by omega) (fun c407 => ?_) (fun c407 => ?_)
                  · refine lv_iload hx hb dL_law_412 (lv_at hl 2 rfl) ?_
                    refine xn_if_le (tgt := 447) hx hb dL_law_414 (by decide) (by omega) (fun c414 => ?_) (fun c414 => ?_)
                    · exact absurd c414 (by omega)
                    · refine lv_iload hx hb dL_law_417 (lv_at hl 2 rfl) ?_
                      refine xn_sipush (v := 200) hx hb dL_law_419 (by decide) ?_
                      refine xn_icmp_gt (tgt := 447) hx hb dL_law_422 (by decide) (by omega) (by decide) (fun c422 => ?_) (fun c422 => ?_)
                      · exact J ch pm rg _ _ _ _ _ hI (by omega) (by omega) (by omega) hW hS (by omega) (by omega) (lv_sub hl [4, 5, 6, 7, 8, 9, 10, 12, 16] rfl)
                      · refine lv_aload_n hx hb dL_law_425 rfl (lv_at hl 5 rfl) ?_
                        refine lv_iload hx hb dL_law_426 (lv_at hl 12 rfl) ?_
                        refine lv_iload hx hb dL_law_428 (lv_at hl 2 rfl) ?_
                        have ht := t_ring (S := (n, ch, pm, st, kf, rg)) hI (show a < ch by omega) (show 1 ≤ j9 by omega) (show j9 ≤ 200 by omega)
                        refine xoC (As := [.int (nI a), .int (nI j9)]) (rest := []) ⟨hx, hb, hml, hown, hts⟩ (kRing_ l hst9 D cI cC ad hj (n, ch, pm, st, kf, rg) hI (nI a) (nI j9)) (fun _ _ hB => no2 ht hB) (cwV 2 hts gL_law_X3_ring rfl rfl rfl (by decide +kernel) ⟨Nat.le_of_ble_eq_true rfl, Nat.le_of_ble_eq_true rfl⟩) hK hZ hW rfl hl.1 rfl (Nat.le_of_ble_eq_true rfl) dL_law_430 ⟨(by show cells0 + 384 + 10 + 10 + 10 + 384 + 10 ≤ 600172; omega), (by show slots0 + 2304 + 60 + 60 + 60 + 2304 + 60 ≤ 7300668; omega)⟩ hS hA (fun H1 locs1 hW hS => ?_)
                        have hI1 := AI_ring hI (nI a) (nI j9)
                        rw [n_ring ht (show st ≠ 0 by omega) (by omega) (by omega)] at hW hI1
                        obtain ⟨pm1, hpm1⟩ : ∃ q9 : Nat → Nat → Nat, q9 = va_up pm a (rgF (n, ch, pm, st, kf, rg) a (j9)) := ⟨_, rfl⟩
                        have hW : xXW D cI cC ad (n, ch, pm1, st, kf, rg + j9) H1 := by rw [hpm1]; exact hW
                        have hI0 := hI
                        have hI : AI (n, ch, pm1, st, kf, rg + j9) := by rw [hpm1]; exact hI1
                        have hpa : pm1 a = rgF (n, ch, pm, st, kf, rg) a (j9) := by rw [hpm1]; exact va_up_self _ _ _
                        refine xz_i (y := nI (hrk (pm1 a) n n)) ((v_ring (by omega) (by omega)).trans (congrArg (fun f9 => nI (hrk f9 n n)) hpa.symm)) ?_
                        have hce9 : hrk (pm1 a) n n = hrk (pm a) n n := by rw [hpa]; exact hce
                        refine lv_iload hx hb dL_law_433 (lv_at hl 14 rfl) ?_
                        refine xn_icmp_eq (tgt := 440) hx hb dL_law_435 (by decide) (b_hrk hn8) (b_hrk hn8) (fun c435 => ?_) (fun c435 => ?_)
                        · refine lv_iload hx hb dL_law_440 (lv_at hl 8 rfl) ?_
                          refine lv_iload hx hb dL_law_442 (lv_at hl 2 rfl) ?_
                          refine xn_iadd hx hb dL_law_444 ?_
                          refine lv_istore (lv' := [(4, .int (nI (rg + j9))), (17, .int (nI e9)), (16, .int (nI d9)), (15, .int (nI j9)), (13, .long (dgS (n, ch, pm, st, kf, rg))), (0, .ref b), (1, .ref (ad 0)), (2, .int (nI n)), (3, .int (nI st)), (5, .int (nI ch)), (6, .int (nI ti)), (7, .int v), (8, .int (nI a)), (9, .int (nI b9)), (10, .int (nI (hrk (pm a) n n))), (11, .int (nI (ivs (pm a) n % 2))), (12, .int (nI (hrk (pm a) n n)))]) hx hb dL_law_445 hl (by decide) rfl (fun ls hl => ?_)
                          exact J ch pm1 (rg + j9) _ _ _ _ _ hI (by omega) (by omega) (by omega) hW hS (by omega) (by omega) (by rw [hce9]; exact lv_sub hl [5, 6, 7, 8, 0, 9, 10, 12, 16] rfl)
                        · exact absurd hce9 c435
                  · exact absurd c407 (by omega)
                · refine lv_iload hx hb dL_law_391 (lv_at hl 1 rfl) ?_
                  refine lv_iload hx hb dL_law_393 (lv_at hl 2 rfl) ?_
                  refine xn_icmp_gt (tgt := 410) hx hb dL_law_395 (by decide) (by omega) (by omega) (fun c395 => ?_) (fun c395 => ?_)
                  · exact absurd (df_cc (S := (n, ch, pm, st, kf, rg)) hI ha (show st ≠ 0 by omega) hj1 (by omega) c388 hce) (by omega)
                  · refine lv_iload hx hb dL_law_398 (lv_at hl 0 rfl) ?_
                    refine xn_if_lt (tgt := 410) hx hb dL_law_400 (by decide) (by omega) ?_
                    refine lv_iload hx hb dL_law_403 (lv_at hl 0 rfl) ?_
                    refine lv_iload hx hb dL_law_405 (lv_at hl 9 rfl) ?_
                    refine xn_icmp_lt (tgt := 412) hx hb dL_law_407 (by decide) (by omega) (by omega) (fun c407 => ?_) (fun c407 => ?_)
                    · refine lv_iload hx hb dL_law_412 (lv_at hl 2 rfl) ?_
                      refine xn_if_le (tgt := 447) hx hb dL_law_414 (by decide) (by omega) (fun c414 => ?_) (fun c414 => ?_)
                      · exact absurd c414 (by omega)
                      · refine lv_iload hx hb dL_law_417 (lv_at hl 2 rfl) ?_
                        refine xn_sipush (v := 200) hx hb dL_law_419 (by decide) ?_
                        refine xn_icmp_gt (tgt := 447) hx hb dL_law_422 (by decide) (by omega) (by decide) (fun c422 => ?_) (fun c422 => ?_)
                        · exact J ch pm rg _ _ _ _ _ hI (by omega) (by omega) (by omega) hW hS (by omega) (by omega) (lv_sub hl [4, 5, 6, 7, 8, 9, 10, 12, 16] rfl)
                        · refine lv_aload_n hx hb dL_law_425 rfl (lv_at hl 5 rfl) ?_
                          refine lv_iload hx hb dL_law_426 (lv_at hl 12 rfl) ?_
                          refine lv_iload hx hb dL_law_428 (lv_at hl 2 rfl) ?_
                          have ht := t_ring (S := (n, ch, pm, st, kf, rg)) hI (show a < ch by omega) (show 1 ≤ j9 by omega) (show j9 ≤ 200 by omega)
                          refine xoC (As := [.int (nI a), .int (nI j9)]) (rest := []) ⟨hx, hb, hml, hown, hts⟩ (kRing_ l hst9 D cI cC ad hj (n, ch, pm, st, kf, rg) hI (nI a) (nI j9)) (fun _ _ hB => no2 ht hB) (cwV 2 hts gL_law_X3_ring rfl rfl rfl (by decide +kernel) ⟨Nat.le_of_ble_eq_true rfl, Nat.le_of_ble_eq_true rfl⟩) hK hZ hW rfl hl.1 rfl (Nat.le_of_ble_eq_true rfl) dL_law_430 ⟨(by show cells0 + 384 + 10 + 10 + 10 + 384 + 10 ≤ 600172; omega), (by show slots0 + 2304 + 60 + 60 + 60 + 2304 + 60 ≤ 7300668; omega)⟩ hS hA (fun H1 locs1 hW hS => ?_)
                          have hI1 := AI_ring hI (nI a) (nI j9)
                          rw [n_ring ht (show st ≠ 0 by omega) (by omega) (by omega)] at hW hI1
                          obtain ⟨pm1, hpm1⟩ : ∃ q9 : Nat → Nat → Nat, q9 = va_up pm a (rgF (n, ch, pm, st, kf, rg) a (j9)) := ⟨_, rfl⟩
                          have hW : xXW D cI cC ad (n, ch, pm1, st, kf, rg + j9) H1 := by rw [hpm1]; exact hW
                          have hI0 := hI
                          have hI : AI (n, ch, pm1, st, kf, rg + j9) := by rw [hpm1]; exact hI1
                          have hpa : pm1 a = rgF (n, ch, pm, st, kf, rg) a (j9) := by rw [hpm1]; exact va_up_self _ _ _
                          refine xz_i (y := nI (hrk (pm1 a) n n)) ((v_ring (by omega) (by omega)).trans (congrArg (fun f9 => nI (hrk f9 n n)) hpa.symm)) ?_
                          have hce9 : hrk (pm1 a) n n = hrk (pm a) n n := by rw [hpa]; exact hce
                          refine lv_iload hx hb dL_law_433 (lv_at hl 14 rfl) ?_
                          refine xn_icmp_eq (tgt := 440) hx hb dL_law_435 (by decide) (b_hrk hn8) (b_hrk hn8) (fun c435 => ?_) (fun c435 => ?_)
                          · refine lv_iload hx hb dL_law_440 (lv_at hl 8 rfl) ?_
                            refine lv_iload hx hb dL_law_442 (lv_at hl 2 rfl) ?_
                            refine xn_iadd hx hb dL_law_444 ?_
                            refine lv_istore (lv' := [(4, .int (nI (rg + j9))), (17, .int (nI e9)), (16, .int (nI d9)), (15, .int (nI j9)), (13, .long (dgS (n, ch, pm, st, kf, rg))), (0, .ref b), (1, .ref (ad 0)), (2, .int (nI n)), (3, .int (nI st)), (5, .int (nI ch)), (6, .int (nI ti)), (7, .int v), (8, .int (nI a)), (9, .int (nI b9)), (10, .int (nI (hrk (pm a) n n))), (11, .int (nI (ivs (pm a) n % 2))), (12, .int (nI (hrk (pm a) n n)))]) hx hb dL_law_445 hl (by decide) rfl (fun ls hl => ?_)
                            exact J ch pm1 (rg + j9) _ _ _ _ _ hI (by omega) (by omega) (by omega) hW hS (by omega) (by omega) (by rw [hce9]; exact lv_sub hl [5, 6, 7, 8, 0, 9, 10, 12, 16] rfl)
                          · exact absurd hce9 c435
                    · exact absurd c407 (by omega)
set_option maxRecDepth 100000 in
set_option maxHeartbeats 4000000 in
theorem lwT_ {p : Program} {l : Launch} {e : Env} {s : State} {m : MethodId} {below : List Frame} {meth : Method} {c : Code} {b L : Nat} {xs : Nat → Int32} {D : va_G} {cI cC : ClassId} {ad : Nat → Nat} {Q : State → Prop} {n st : Nat} {kf : Nat → Nat} (hst9 : l.stackTraces = false) (C : qC p s m c b L xs D cI cC ad) {ch : Nat} {pm : Nat → Nat → Nat} {rg ti a : Nat} (hI : AI (n, ch, pm, st, kf, rg)) (ha : a < ch) (hrg : rg ≤ 200 * (ti + 1)) (hti : ti < 30) {H : Heap} {locs : List Loc} {cells0 slots0 : Nat} {ls : Array Slot} (hW : xXW D cI cC ad (n, ch, pm, st, kf, rg) H) (hS : va_S (fun q : Nat => s.heap.size ≤ q) s.heap H locs) (hc : cells0 + 6930 ≤ 600172) (hs : slots0 + 41580 ≤ 7300668) (hl : lv_has ls 18 [(0, .ref b), (1, .ref (ad 0)), (2, .int (nI n)), (3, .int (nI st)), (4, .int (nI rg)), (5, .int (nI ch)), (6, .int (nI ti)), (8, .int (nI a)), (12, .int (nI (hrk (pm a) n n)))])
    (K : ∀ (H1 : Heap) (locs1 : List Loc) (cells1 slots1 : Nat) (ls1 : Array Slot), xXW D cI cC ad (n, ch, pm, st, kf, rg) H1 → va_S (fun q : Nat => s.heap.size ≤ q) s.heap H1 locs1 → cells1 ≤ cells0 + 6930 → slots1 ≤ slots0 + 41580 → lv_has ls1 18 [(0, .ref b), (1, .ref (ad 0)), (2, .int (nI n)), (3, .int (nI st)), (4, .int (nI rg)), (5, .int (nI ch)), (6, .int (nI (ti + 1)))] → W p l e room_1 s m #[Value.ref b] below meth c H1 locs1 cells1 slots1 Q (F0 m 26 ls1 [])) :
    W p l e room_1 s m #[Value.ref b] below meth c H locs cells0 slots0 Q (F0 m 447 ls []) := by
  obtain ⟨hx, hb, hml, hown, hts, hX, hbl, hL, hK, hZ, hj, hA⟩ := id C
  have hbA : ¬ (fun q : Nat => s.heap.size ≤ q) b := Nat.not_le.mpr hbl
  obtain ⟨⟨hn2, hn8⟩, hch, hst, hpm8, hpm, hkv, hkb⟩ := id hI
  have hn2 : 2 ≤ n := hn2
  have hn8 : n ≤ 8 := hn8
  have hch : ch ≤ 16 := hch
  have hst : st ≤ 10 := hst
  have hpm8 : ∀ k i, pm k i < 8 := hpm8
  have hpm : ∀ k, k < ch → Prm n (pm k) := hpm
  have hfp := fac_pos n
  have hfl := fac_le n hn8
  refine lv_aload_n hx hb dL_law_447 rfl (lv_at hl 1 rfl) ?_
  refine lv_iload hx hb dL_law_448 (lv_at hl 7 rfl) ?_
  refine xn_iconst (v := 0) hx hb dL_law_450 (by decide) ?_
  refine xoC (As := [.int (nI a), .int (nI 0)]) (rest := []) ⟨hx, hb, hml, hown, hts⟩ (kTold_ l hst9 D cI cC ad hj (n, ch, pm, st, kf, rg) hI (nI a) (nI 0)) (fun _ _ hB => no1 (t_told (S := (n, ch, pm, st, kf, rg)) hI (show a < ch by omega) (by decide)) hB) (cwV 2 hts gL_law_X3_told rfl rfl rfl (by decide +kernel) ⟨Nat.le_of_ble_eq_true rfl, Nat.le_of_ble_eq_true rfl⟩) hK hZ hW rfl hl.1 rfl (Nat.le_of_ble_eq_true rfl) dL_law_451 ⟨(by show cells0 + 10 ≤ 600172; omega), (by show slots0 + 60 ≤ 7300668; omega)⟩ hS hA (fun H1 locs1 hW hS => ?_)
  refine xz_i (y := nI (hrk (pm a) n n)) (v_told (by omega) (by decide)) ?_
  refine lv_iload hx hb dL_law_454 (lv_at hl 8 rfl) ?_
  refine xn_icmp_ne (tgt := 511) hx hb dL_law_456 (by decide) (b_hrk hn8) (b_hrk hn8) (fun c456 => ?_) (fun c456 => ?_)
  · exact absurd rfl c456
  · refine lv_iload hx hb dL_law_459 (lv_at hl 8 rfl) ?_
    refine xn_if_lt (tgt := 511) hx hb dL_law_461 (by decide) (b_hrk hn8) ?_
    refine lv_iload hx hb dL_law_464 (lv_at hl 8 rfl) ?_
    refine lv_iload_n hx hb dL_law_466 rfl (lv_at hl 2 rfl) ?_
    refine lcS (As := [.int (nI n)]) (rest := [.int (nI (hrk (pm a) n n))]) ⟨hx, hb, hml, hown, hts⟩ (product_at l n (show 1 ≤ n ∧ n ≤ 8 by omega)) (va_cwS 1 hts gL_law_L_product rfl rfl rfl (by decide +kernel) ⟨(by show n - 1 + 1 ≤ 2048; omega), (by show 8 + (1 + 11) + 40 * (n - 1) ≤ 84000; omega)⟩) lpre0 rfl hl.1 rfl (Nat.le_of_ble_eq_true rfl) dL_law_467 ⟨(by show cells0 + 10 ≤ 600172; omega), (by show slots0 + 60 ≤ 7300668; omega)⟩ (fun x467 e467 => ?_)
    subst e467
    refine xn_icmp_ge (tgt := 511) hx hb dL_law_470 (by decide) (b_hrk hn8) (Nat.lt_of_le_of_lt (fac_le n hn8) (by decide)) (fun c470 => ?_) (fun c470 => ?_)
    · exact absurd c470 (Nat.not_le.mpr (hrk_lt _ _))
    · refine lv_aload_n hx hb dL_law_473 rfl (lv_at hl 1 rfl) ?_
      refine xn_iconst (v := 2) hx hb dL_law_474 (by decide) ?_
      refine xoC (As := [.int (nI 2)]) (rest := []) ⟨hx, hb, hml, hown, hts⟩ (kCount_ l hst9 D cI cC ad hj (n, ch, pm, st, kf, rg) hI (nI 2)) (fun _ _ hB => no1 (t_count (S := (n, ch, pm, st, kf, rg)) (by decide)) hB) (cwV 1 hts gL_law_X3_count rfl rfl rfl (by decide +kernel) ⟨Nat.le_of_ble_eq_true rfl, Nat.le_of_ble_eq_true rfl⟩) hK hZ hW rfl hl.1 rfl (Nat.le_of_ble_eq_true rfl) dL_law_475 ⟨(by show cells0 + 10 + 10 ≤ 600172; omega), (by show slots0 + 60 + 60 ≤ 7300668; omega)⟩ hS hA (fun H1 locs1 hW hS => ?_)
      refine xz_i (y := nI ch) (v_count (by decide)) ?_
      refine lv_iload hx hb dL_law_478 (lv_at hl 5 rfl) ?_
      refine xn_icmp_ne (tgt := 511) hx hb dL_law_480 (by decide) (by omega) (by omega) (fun c480 => ?_) (fun c480 => ?_)
      · exact absurd rfl c480
      · refine lv_aload_n hx hb dL_law_483 rfl (lv_at hl 1 rfl) ?_
        refine xn_iconst (v := 4) hx hb dL_law_484 (by decide) ?_
        refine xoC (As := [.int (nI 4)]) (rest := []) ⟨hx, hb, hml, hown, hts⟩ (kCount_ l hst9 D cI cC ad hj (n, ch, pm, st, kf, rg) hI (nI 4)) (fun _ _ hB => no1 (t_count (S := (n, ch, pm, st, kf, rg)) (by decide)) hB) (cwV 1 hts gL_law_X3_count rfl rfl rfl (by decide +kernel) ⟨Nat.le_of_ble_eq_true rfl, Nat.le_of_ble_eq_true rfl⟩) hK hZ hW rfl hl.1 rfl (Nat.le_of_ble_eq_true rfl) dL_law_485 ⟨(by show cells0 + 10 + 10 + 10 ≤ 600172; omega), (by show slots0 + 60 + 60 + 60 ≤ 7300668; omega)⟩ hS hA (fun H1 locs1 hW hS => ?_)
        refine xz_i (y := nI st) (v_count (by decide)) ?_
        refine lv_iload_n hx hb dL_law_488 rfl (lv_at hl 3 rfl) ?_
        refine xn_icmp_ne (tgt := 511) hx hb dL_law_489 (by decide) (by omega) (by omega) (fun c489 => ?_) (fun c489 => ?_)
        · exact absurd rfl c489
        · refine lv_aload_n hx hb dL_law_492 rfl (lv_at hl 1 rfl) ?_
          refine xn_iconst (v := 5) hx hb dL_law_493 (by decide) ?_
          refine xoC (As := [.int (nI 5)]) (rest := []) ⟨hx, hb, hml, hown, hts⟩ (kCount_ l hst9 D cI cC ad hj (n, ch, pm, st, kf, rg) hI (nI 5)) (fun _ _ hB => no1 (t_count (S := (n, ch, pm, st, kf, rg)) (by decide)) hB) (cwV 1 hts gL_law_X3_count rfl rfl rfl (by decide +kernel) ⟨Nat.le_of_ble_eq_true rfl, Nat.le_of_ble_eq_true rfl⟩) hK hZ hW rfl hl.1 rfl (Nat.le_of_ble_eq_true rfl) dL_law_494 ⟨(by show cells0 + 10 + 10 + 10 + 10 ≤ 600172; omega), (by show slots0 + 60 + 60 + 60 + 60 ≤ 7300668; omega)⟩ hS hA (fun H1 locs1 hW hS => ?_)
          refine xz_i (y := nI rg) (v_count (by decide)) ?_
          refine lv_iload hx hb dL_law_497 (lv_at hl 4 rfl) ?_
          refine xn_icmp_ne (tgt := 511) hx hb dL_law_499 (by decide) (by omega) (by omega) (fun c499 => ?_) (fun c499 => ?_)
          · exact absurd rfl c499
          · refine lv_aload_n hx hb dL_law_502 rfl (lv_at hl 1 rfl) ?_
            refine xn_iconst (v := 0) hx hb dL_law_503 (by decide) ?_
            refine xoC (As := [.int (nI 0)]) (rest := []) ⟨hx, hb, hml, hown, hts⟩ (kCount_ l hst9 D cI cC ad hj (n, ch, pm, st, kf, rg) hI (nI 0)) (fun _ _ hB => no1 (t_count (S := (n, ch, pm, st, kf, rg)) (by decide)) hB) (cwV 1 hts gL_law_X3_count rfl rfl rfl (by decide +kernel) ⟨Nat.le_of_ble_eq_true rfl, Nat.le_of_ble_eq_true rfl⟩) hK hZ hW rfl hl.1 rfl (Nat.le_of_ble_eq_true rfl) dL_law_504 ⟨(by show cells0 + 10 + 10 + 10 + 10 + 10 ≤ 600172; omega), (by show slots0 + 60 + 60 + 60 + 60 + 60 ≤ 7300668; omega)⟩ hS hA (fun H1 locs1 hW hS => ?_)
            refine xz_i (y := nI n) (v_count (by decide)) ?_
            refine lv_iload_n hx hb dL_law_507 rfl (lv_at hl 2 rfl) ?_
            refine xn_icmp_eq (tgt := 513) hx hb dL_law_508 (by decide) (by omega) (by omega) (fun c508 => ?_) (fun c508 => ?_)
            · refine lwK_ hst9 C hI (by omega) hW hS (by omega) (by omega) (lv_sub hl [0, 1, 2, 3, 4, 5, 6] rfl) (fun H2 locs2 cells2 slots2 ls hW hS hce hse hl => ?_)
              refine xn_iinc (v := ti + 1) (lv' := [(6, .int (nI (ti + 1))), (0, .ref b), (1, .ref (ad 0)), (2, .int (nI n)), (3, .int (nI st)), (4, .int (nI rg)), (5, .int (nI ch))]) hx hb dL_law_734 hl (k := 6) rfl (xinc1 _) (by decide) rfl (fun ls hl => ?_)
              refine lv_goto (tgt := 26) hx hb dL_law_737 (by decide) ?_
              exact K _ _ _ _ _ hW hS (by omega) (by omega) (lv_sub hl [1, 2, 3, 4, 5, 6, 0] rfl)
            · exact absurd rfl c508
