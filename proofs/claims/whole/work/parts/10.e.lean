/-! ONE ROUND OF THE LAW: what holds at its start, what goes on -/
/-- the addresses: all new, all apart -/
def qAp (ad : Nat → Nat) (o bk kp og sz : Nat) : Prop := xInj ad ∧ (∀ i, i < 42 → sz ≤ ad i) ∧ sz ≤ o ∧ sz ≤ bk ∧ sz ≤ kp ∧ sz ≤ og ∧ (∀ i, i < 42 → ad i ≠ o) ∧ (∀ i, i < 42 → ad i ≠ bk) ∧ (∀ i, i < 42 → ad i ≠ kp) ∧ (∀ i, i < 42 → ad i ≠ og) ∧ o ≠ bk ∧ o ≠ kp ∧ bk ≠ kp ∧ og ≠ o ∧ og ≠ bk ∧ og ≠ kp
def qC (p : Program) (s : State) (m : MethodId) (c : Code) (b L : Nat) (xs : Nat → Int32) (D : va_G) (cI cC cL : ClassId) (ad : Nat → Nat) (o bk kp og : Nat) : Prop := p.tables.exec = Jvm.exec ∧ c.code = cL_law ∧ c.maxLocals = 9 ∧ s.vm.findClass RL = some m.cls ∧ (∀ w ∈ wsL_law, w.before #[Value.ref b] s = true) ∧ va_X b L xs s s.heap ∧ b < s.heap.size ∧ xK D cI cC s ∧ xKL D cL s ∧ xZ (fun q : Nat => s.heap.size ≤ q) s s.heap ∧ va_Nc xES xEI s ∧ va_Nc xEA xEI s ∧ va_Nc xES xEA s ∧ qAp ad o bk kp og s.heap.size
def qH (D : va_G) (cI cC cL : ClassId) (ad : Nat → Nat) (o bk kp og : Nat) (S : AS) (t0 : Nat) (z : Int64) (H : Heap) : Prop := xXW D cI cC ad S H ∧ xMW D cI o bk kp t0 S H ∧ xOut D cL og z H
theorem qAO_in {ad : Nat → Nat} {o bk kp og sz q9 : Nat} (h : qAp ad o bk kp og sz) (h9 : xAO ad og q9) : sz ≤ q9 := by
  rcases h9 with ⟨i, hi, rfl⟩ | rfl
  · exact h.2.1 i hi
  · exact h.2.2.2.2.2.1
theorem qMA_in {ad : Nat → Nat} {o bk kp og sz sz2 q9 : Nat} (h : qAp ad o bk kp og sz) (hz : sz ≤ sz2) (h9 : xMA o bk kp sz2 q9) : sz ≤ q9 := by
  rcases h9 with rfl | rfl | rfl | h9
  · exact h.2.2.1
  · exact h.2.2.2.1
  · exact h.2.2.2.2.1
  · exact Nat.le_trans hz h9
theorem qAO_n {ad : Nat → Nat} {o bk kp og sz : Nat} (h : qAp ad o bk kp og sz) : ¬ xAO ad og o ∧ ¬ xAO ad og bk ∧ ¬ xAO ad og kp := by
  obtain ⟨-, -, -, -, -, -, a1, a2, a3, -, -, -, -, e1, e2, e3⟩ := h
  refine ⟨fun z => ?_, fun z => ?_, fun z => ?_⟩
  · rcases z with ⟨i, hi, e⟩ | e
    · exact a1 i hi e.symm
    · exact e1 e.symm
  · rcases z with ⟨i, hi, e⟩ | e
    · exact a2 i hi e.symm
    · exact e2 e.symm
  · rcases z with ⟨i, hi, e⟩ | e
    · exact a3 i hi e.symm
    · exact e3 e.symm
theorem qMA_n {ad : Nat → Nat} {o bk kp og sz sz2 : Nat} (h : qAp ad o bk kp og sz) : ∀ i, i < 42 → ad i < sz2 → ¬ xMA o bk kp sz2 (ad i) := fun i hi hlt z => by
  obtain ⟨-, -, -, -, -, -, a1, a2, a3, -, -, -, -, e1, e2, e3⟩ := h
  rcases z with e | e | e | e
  · exact a1 i hi e
  · exact a2 i hi e
  · exact a3 i hi e
  · exact absurd hlt (Nat.not_lt.mpr e)
theorem qMA_og {ad : Nat → Nat} {o bk kp og sz sz2 : Nat} (h : qAp ad o bk kp og sz) (hlt : og < sz2) : ¬ xMA o bk kp sz2 og := fun z => by
  obtain ⟨-, -, -, -, -, -, a1, a2, a3, -, -, -, -, e1, e2, e3⟩ := h
  rcases z with e | e | e | e
  · exact e1 e
  · exact e2 e
  · exact e3 e
  · exact absurd hlt (Nat.not_lt.mpr e)
theorem xMW.kept {D : va_G} {cI : ClassId} {o bk kp t : Nat} {S : AS} {H H1 : Heap} {A : Nat → Prop} (h : xMW D cI o bk kp t S H) (hk : ∀ q : Nat, q < H.size → ¬ A q → H1[q]? = H[q]?) (hn : ¬ A o ∧ ¬ A bk ∧ ¬ A kp) : xMW D cI o bk kp t S H1 := by
  obtain ⟨bf, hM, h1, h2⟩ := h
  exact ⟨bf, xMo_keep hM (hk o hM.1.lt hn.1) (hk bk hM.2.1.lt hn.2.1) (hk kp hM.2.2.lt hn.2.2), h1, h2⟩
theorem xMW.recv_ {D : va_G} {cI cC : ClassId} {o bk kp t : Nat} {S : AS} {H : Heap} {s : State} (h : xMW D cI o bk kp t S H) (hK : xK D cI cC s := by assumption) : ∃ cell : Cell, H[o]? = some cell ∧ cell.vm.isStatics = false ∧ s.vm.findClass RX4 = some cell.cls := by
  obtain ⟨bf, hM, h1, h2⟩ := h
  exact xRecv hK rfl hM.1
theorem xXW_lt {D : va_G} {cI cC : ClassId} {ad : Nat → Nat} {S : AS} {H : Heap} (h : xXW D cI cC ad S H) : ∀ i, i < 42 → ad i < H.size := by
  obtain ⟨zr, zm, zs, fr, fm, fs, zf, h1, h2, h3, h4, h5, h6, h7, h8, h9, h10⟩ := h
  intro i hi
  rcases (show i = 0 ∨ i = 1 ∨ i = 2 ∨ i = 3 ∨ i = 4 ∨ i = 5 ∨ i = 6 ∨ i = 7 ∨ i = 8 ∨ i = 9 ∨ (∃ k, k < 16 ∧ i = 10 + k) ∨ (∃ k, k < 16 ∧ i = 26 + k) by
    by_cases c1 : i < 10
    · omega
    · by_cases c2 : i < 26
      · have : ∃ k, k < 16 ∧ i = 10 + k := ⟨i - 10, by omega, by omega⟩
        simp [this]
      · have : ∃ k, k < 16 ∧ i = 26 + k := ⟨i - 26, by omega, by omega⟩
        simp [this]) with rfl | rfl | rfl | rfl | rfl | rfl | rfl | rfl | rfl | rfl | ⟨k, hk, rfl⟩ | ⟨k, hk, rfl⟩
  · exact va_at.lt h1
  · exact va_at.lt h2
  · exact va_at.lt h3.1
  · exact va_at.lt h3.2
  · exact va_at.lt h4.1
  · exact va_at.lt h4.2
  · exact va_at.lt h6.1
  · exact va_at.lt h6.2
  · exact va_at.lt h8.1
  · exact va_at.lt h8.2
  · exact va_at.lt (h9 k hk).1
  · exact va_at.lt (h9 k hk).2
theorem xXW.kept {D : va_G} {cI cC : ClassId} {ad : Nat → Nat} {S : AS} {H H1 : Heap} {A : Nat → Prop} (h : xXW D cI cC ad S H) (hk : ∀ q : Nat, q < H.size → ¬ A q → H1[q]? = H[q]?) (hn : ∀ i, i < 42 → ad i < H.size → ¬ A (ad i)) : xXW D cI cC ad S H1 :=
  xXW_put h (fun i hi => hk (ad i) (xXW_lt h i hi) (hn i hi (xXW_lt h i hi)))
theorem q_sld {p : Program} {l : Launch} {e : Env} {R : Room} {s : State} {m : MethodId} {args : Array Value} {below : List Frame} {meth : Method} {c : Code} {H : Heap} {locs : List Loc} {cells slots : Nat} {Q : State → Prop} {cc : ByteArray} {pc : Nat} {ls : Array Slot} {rest : List Value} {A : Nat → Prop} {H0 : Heap} (hx : p.tables.exec = Jvm.exec) (hb : c.code = cc) {b L : Nat} {xs : Nat → Int32} (hX : va_X b L xs s H0) (hbl : b < H0.size) (hbA : ¬ A b) (hS : va_S A H0 H locs) {j : Nat} (hj : j < L) (hL : L < 2 ^ 31) (hdg : decode cc pc = .ok (.iaload, 1))
    (kk : W p l e R s m args below meth c H locs cells slots Q (F0 m (pc + 1) ls (.int (xs j) :: rest))) : W p l e R s m args below meth c H locs cells slots Q (F0 m pc ls (.int (nI j) :: .ref b :: rest)) :=
  va_sld hx hb hX hbl hbA hS (vp_in_nI hj hL) hdg (by rw [nI_clamp (Nat.lt_trans hj hL)]; exact kk)
theorem t1_lt {P : Prop} [Decidable P] : (if P then 0 else 1 : Nat) < 2 ^ 31 := by split <;> decide
theorem t2_lt {P Q : Prop} [Decidable P] [Decidable Q] : (if P then (if Q then 2 else 0) else 1 : Nat) < 2 ^ 31 := by split <;> (try split) <;> decide
theorem t3_lt {P Q : Prop} [Decidable P] [Decidable Q] : (if P then (if Q then 0 else 2) else 1 : Nat) < 2 ^ 31 := by split <;> (try split) <;> decide
theorem q_nI0 {k : Nat} (h : nI k = 0) (hk : k < 2 ^ 31) : k = 0 := by
  have h2 := congrArg Int32.toNatClampNeg h
  rw [nI_clamp hk] at h2
  exact h2
theorem q_lcmp (x : Int64) : lg_cmp x x = 0 := by simp [lg_cmp]
set_option maxRecDepth 100000 in
set_option maxHeartbeats 4000000 in
theorem qSetBells_ {p : Program} {l : Launch} {e : Env} {s : State} {m : MethodId} {below : List Frame} {meth : Method} {c : Code} {b L i : Nat} {xs : Nat → Int32} {D : va_G} {cI cC cL : ClassId} {ad : Nat → Nat} {o bk kp og : Nat} {S : AS} {t0 : Nat} {z : Int64} {H : Heap} {locs : List Loc} {cells slots : Nat} {Q : State → Prop} {ls : Array Slot} (hst9 : l.stackTraces = false) (C : qC p s m c b L xs D cI cC cL ad o bk kp og) (hI : AI S) (hi : i + 2 < L) (hL : L ≤ 1536) (hq : qH D cI cC cL ad o bk kp og S t0 z H) (hS : va_S (fun q : Nat => s.heap.size ≤ q) s.heap H locs) (hc : cells + 1290 ≤ 694872) (hs : slots + 9600 ≤ 7011487) (hl : lv_has ls 9 [(0, .ref b), (1, .ref (ad 0)), (2, .ref o), (3, .ref og), (4, .int (nI i))])
    (kk : ∀ (S1 : AS) (t1 : Nat) (z1 : Int64) (H1 : Heap) (locs1 : List Loc) (cells1 slots1 : Nat) (ls1 : Array Slot), AI S1 → qH D cI cC cL ad o bk kp og S1 t1 z1 H1 → va_S (fun q : Nat => s.heap.size ≤ q) s.heap H1 locs1 → cells1 ≤ cells + 1290 → slots1 ≤ slots + 9600 → lv_has ls1 9 [(0, .ref b), (1, .ref (ad 0)), (2, .ref o), (3, .ref og), (4, .int (nI i))] → W p l e room_1 s m #[Value.ref b] below meth c H1 locs1 cells1 slots1 Q (F0 m 1308 ls1 [])) : W p l e room_1 s m #[Value.ref b] below meth c H locs cells slots Q (F0 m 136 ls []) := by
  obtain ⟨hx, hb, hml, hown, hts, hX, hbl, hK, hKL, hZ, hN1, hN2, hN3, hAp⟩ := id C
  obtain ⟨hj, hA0, hAo, hAbk, hAkp, hAog, ha1, ha2, ha3, ha4, d1, d2, d3, e1, e2, e3⟩ := id hAp
  obtain ⟨hW, hM, hOut⟩ := hq
  have hbA : ¬ (fun q : Nat => s.heap.size ≤ q) b := Nat.not_le.mpr hbl
  refine lv_aload_n hx hb dL_law_136 rfl (lv_at hl 1 rfl) ?_
  refine lv_aload_n hx hb dL_law_137 rfl (lv_at hl 0 rfl) ?_
  refine lv_iload hx hb dL_law_138 (lv_at hl 4 rfl) ?_
  refine xn_iconst (v := 1) hx hb dL_law_140 (by decide) ?_
  refine xn_iadd hx hb dL_law_141 ?_
  refine q_sld hx hb hX hbl hbA hS (by omega) (by omega) dL_law_142 ?_
  refine lv_aload_n hx hb dL_law_143 rfl (lv_at hl 3 rfl) ?_
  refine vx_calli (vx_runSX (As := [.ref (ad 0), .int (xs (i + 1)), .ref og]) (rest := []) ⟨hx, hb, hml, hown, hts⟩ (wSetBells_ l hst9 D cI cC cL ad hj S hI og ha4 z (xs (i + 1))) (vx_cwSW 3 hts gL_law_L_setBells rfl rfl rfl (by decide +kernel) ⟨Nat.le_of_ble_eq_true rfl, Nat.le_of_ble_eq_true rfl⟩) (xWL_PS hK hKL ((hZ.kept hS.2.1).narrow (fun q9 h9 => qAO_in hAp h9)) hN1 hN2 hN3 (P := fun H9 => xXW D cI cC ad S H9 ∧ xOut D cL og z H9) ⟨hW, hOut⟩) rfl rfl hl.1 rfl (lv_room (Nat.le_of_ble_eq_true rfl)) dL_law_144 ⟨(by show cells + 10 ≤ 694872; omega), (by show slots + 60 ≤ 7011487; omega)⟩) hS (fun q9 _ h9 => qAO_in hAp h9) (fun q9 h9 => qAO_in hAp h9) (fun q9 _ h9 => absurd h9 id) (fun E ce q9 u t9 H1 locs1 _ _ _ hB => absurd hB id) (fun k9 u t9 H1 locs1 ht9 _ hp hF hz9 hk9 hS => ?_)
  have hF : xXW D cI cC ad (nSet S (xs (i + 1))) t9.heap ∧ xOut D cL og u t9.heap := hF
  rw [ht9] at hF
  obtain ⟨hW, hOut⟩ := hF
  obtain ⟨hk0, hu⟩ := hp
  subst hk0
  have hM := hM.kept hk9 (qAO_n hAp)
  refine lv_istore (lv' := [(5, .int (nI (tSet S (xs (i + 1))))), (0, .ref b), (1, .ref (ad 0)), (2, .ref o), (3, .ref og), (4, .int (nI i))]) hx hb dL_law_147 hl (by decide) rfl (fun ls hl => ?_)
  refine lv_aload_n hx hb dL_law_149 rfl (lv_at hl 3 rfl) ?_
  refine lv_aload_n hx hb dL_law_150 rfl (lv_at hl 1 rfl) ?_
  refine lv_iload hx hb dL_law_151 (lv_at hl 5 rfl) ?_
  refine xn_iconst (v := 1) hx hb dL_law_153 (by decide) ?_
  refine xn_iadd hx hb dL_law_154 ?_
  refine q_sld hx hb hX hbl hbA hS (by omega) (by omega) dL_law_155 ?_
  refine xmI (As := [.int (xs (i + 1))]) (rest := []) ⟨hx, hb, hml, hown, hts⟩ (mSetBells_ l D cI cC o bk kp d1 d2 d3 t0 S hI H1.size (xs (i + 1))) (cwV 1 hts gL_law_X4_setBells rfl rfl rfl (by decide +kernel) ⟨Nat.le_of_ble_eq_true rfl, Nat.le_of_ble_eq_true rfl⟩) hK ⟨rfl, hM⟩ hM.recv_ rfl hl.1 rfl (Nat.le_of_ble_eq_true rfl) dL_law_156 ⟨(by show cells + 10 + 900 ≤ 694872; omega), (by show slots + 60 + 7200 ≤ 7011487; omega)⟩ hS (fun q9 h9 => qMA_in hAp hS.1 h9) (fun q9 h9 => qMA_in hAp hS.1 h9) (fun r9 u9 H2 locs2 hp2 hM hz8 hk8 hS => ?_)
  have hW := hW.kept hk8 (qMA_n hAp)
  have hOut : xOut D cL og u H2 := va_at.kept hOut (hk8 og (va_at.lt hOut) (qMA_og hAp (va_at.lt hOut)))
  refine lv_istore (lv' := [(6, .int r9), (5, .int (nI (tSet S (xs (i + 1))))), (0, .ref b), (1, .ref (ad 0)), (2, .ref o), (3, .ref og), (4, .int (nI i))]) hx hb dL_law_159 hl (by decide) rfl (fun ls hl => ?_)
  refine lv_aload_n hx hb dL_law_161 rfl (lv_at hl 4 rfl) ?_
  obtain ⟨bf, hMo, hb1, hb2⟩ := id hM
  refine xcV (As := []) (rest := []) ⟨hx, hb, hml, hown, hts⟩ (cX4_thrown_ l D cI cC o bk kp _ _ _ _ _ _ _) (cwV 0 hts gL_law_X4_thrown rfl rfl rfl (by decide +kernel) ⟨Nat.le_of_ble_eq_true rfl, Nat.le_of_ble_eq_true rfl⟩) hK hMo hM.recv_ rfl hl.1 rfl (Nat.le_of_ble_eq_true rfl) dL_law_162 ⟨(by show cells + 10 + 900 ≤ 694872; omega), (by show slots + 60 + 7200 ≤ 7011487; omega)⟩ (fun x9 ex => ?_)
  subst ex
  refine lv_iload hx hb dL_law_165 (lv_at hl 1 rfl) ?_
  refine lv_icmp_eq (tgt := 172) hx hb dL_law_167 (by decide) (fun _ => ?_) (fun h9 => absurd rfl h9)
  refine lv_iload hx hb dL_law_172 (lv_at hl 1 rfl) ?_
  refine lv_if_ne (tgt := 189) hx hb dL_law_174 (by decide) (fun _ => ?_) (fun h9 => ?_)
  · refine lv_goto (tgt := 1308) hx hb dL_law_189 (by decide) ?_
    exact kk _ _ _ _ _ _ _ _ (AI_set hI _) ⟨hW, hM, hOut⟩ hS (by omega) (by omega) (lv_sub hl [2, 3, 4, 5, 6] rfl)
  · have ht : tSet S (xs (i + 1)) = 0 := q_nI0 h9 (by first | exact t1_lt | exact t2_lt | exact t3_lt)
    have hr9 := hp2 ht
    subst hr9
    have hu := hu ht
    subst hu
    refine lv_aload_n hx hb dL_law_177 rfl (lv_at hl 5 rfl) ?_
    refine xn_iconst (v := 0) hx hb dL_law_178 (by decide) ?_
    refine x_laldO hx hb hKL hOut dL_law_179 ?_
    refine lv_iload hx hb dL_law_180 (lv_at hl 0 rfl) ?_
    refine lv_i2l hx hb dL_law_182 rfl ?_
    refine W.lcmp hx hb dL_law_183 ?_
    rw [q_lcmp]
    refine lv_if_eq (tgt := 189) hx hb dL_law_184 (by decide) (fun _ => ?_) (fun h8 => absurd rfl h8)
    refine lv_goto (tgt := 1308) hx hb dL_law_189 (by decide) ?_
    exact kk _ _ _ _ _ _ _ _ (AI_set hI _) ⟨hW, hM, hOut⟩ hS (by omega) (by omega) (lv_sub hl [2, 3, 4, 5, 6] rfl)

set_option maxRecDepth 100000 in
set_option maxHeartbeats 4000000 in
theorem qWrite_ {p : Program} {l : Launch} {e : Env} {s : State} {m : MethodId} {below : List Frame} {meth : Method} {c : Code} {b L i : Nat} {xs : Nat → Int32} {D : va_G} {cI cC cL : ClassId} {ad : Nat → Nat} {o bk kp og : Nat} {S : AS} {t0 : Nat} {z : Int64} {H : Heap} {locs : List Loc} {cells slots : Nat} {Q : State → Prop} {ls : Array Slot} (hst9 : l.stackTraces = false) (C : qC p s m c b L xs D cI cC cL ad o bk kp og) (hI : AI S) (hi : i + 2 < L) (hL : L ≤ 1536) (hq : qH D cI cC cL ad o bk kp og S t0 z H) (hS : va_S (fun q : Nat => s.heap.size ≤ q) s.heap H locs) (hc : cells + 1290 ≤ 694872) (hs : slots + 9600 ≤ 7011487) (hl : lv_has ls 9 [(0, .ref b), (1, .ref (ad 0)), (2, .ref o), (3, .ref og), (4, .int (nI i))])
    (kk : ∀ (S1 : AS) (t1 : Nat) (z1 : Int64) (H1 : Heap) (locs1 : List Loc) (cells1 slots1 : Nat) (ls1 : Array Slot), AI S1 → qH D cI cC cL ad o bk kp og S1 t1 z1 H1 → va_S (fun q : Nat => s.heap.size ≤ q) s.heap H1 locs1 → cells1 ≤ cells + 1290 → slots1 ≤ slots + 9600 → lv_has ls1 9 [(0, .ref b), (1, .ref (ad 0)), (2, .ref o), (3, .ref og), (4, .int (nI i))] → W p l e room_1 s m #[Value.ref b] below meth c H1 locs1 cells1 slots1 Q (F0 m 1308 ls1 [])) : W p l e room_1 s m #[Value.ref b] below meth c H locs cells slots Q (F0 m 192 ls []) := by
  obtain ⟨hx, hb, hml, hown, hts, hX, hbl, hK, hKL, hZ, hN1, hN2, hN3, hAp⟩ := id C
  obtain ⟨hj, hA0, hAo, hAbk, hAkp, hAog, ha1, ha2, ha3, ha4, d1, d2, d3, e1, e2, e3⟩ := id hAp
  obtain ⟨hW, hM, hOut⟩ := hq
  have hbA : ¬ (fun q : Nat => s.heap.size ≤ q) b := Nat.not_le.mpr hbl
  refine lv_aload_n hx hb dL_law_192 rfl (lv_at hl 1 rfl) ?_
  refine lv_aload_n hx hb dL_law_193 rfl (lv_at hl 0 rfl) ?_
  refine lv_iload hx hb dL_law_194 (lv_at hl 4 rfl) ?_
  refine xn_iconst (v := 1) hx hb dL_law_196 (by decide) ?_
  refine xn_iadd hx hb dL_law_197 ?_
  refine q_sld hx hb hX hbl hbA hS (by omega) (by omega) dL_law_198 ?_
  refine lv_aload_n hx hb dL_law_199 rfl (lv_at hl 3 rfl) ?_
  refine vx_calli (vx_runSX (As := [.ref (ad 0), .int (xs (i + 1)), .ref og]) (rest := []) ⟨hx, hb, hml, hown, hts⟩ (wWrite_ l hst9 D cI cC cL ad hj S hI og ha4 z (xs (i + 1))) (vx_cwSW 3 hts gL_law_L_write rfl rfl rfl (by decide +kernel) ⟨Nat.le_of_ble_eq_true rfl, Nat.le_of_ble_eq_true rfl⟩) (xWL_PS hK hKL ((hZ.kept hS.2.1).narrow (fun q9 h9 => qAO_in hAp h9)) hN1 hN2 hN3 (P := fun H9 => xXW D cI cC ad S H9 ∧ xOut D cL og z H9) ⟨hW, hOut⟩) rfl rfl hl.1 rfl (lv_room (Nat.le_of_ble_eq_true rfl)) dL_law_200 ⟨(by show cells + 10 ≤ 694872; omega), (by show slots + 60 ≤ 7011487; omega)⟩) hS (fun q9 _ h9 => qAO_in hAp h9) (fun q9 h9 => qAO_in hAp h9) (fun q9 _ h9 => absurd h9 id) (fun E ce q9 u t9 H1 locs1 _ _ _ hB => absurd hB id) (fun k9 u t9 H1 locs1 ht9 _ hp hF hz9 hk9 hS => ?_)
  have hF : xXW D cI cC ad (nWrite S (xs (i + 1))) t9.heap ∧ xOut D cL og u t9.heap := hF
  rw [ht9] at hF
  obtain ⟨hW, hOut⟩ := hF
  obtain ⟨hk0, hu⟩ := hp
  subst hk0
  have hM := hM.kept hk9 (qAO_n hAp)
  refine lv_istore (lv' := [(5, .int (nI (tWrite S (xs (i + 1))))), (0, .ref b), (1, .ref (ad 0)), (2, .ref o), (3, .ref og), (4, .int (nI i))]) hx hb dL_law_203 hl (by decide) rfl (fun ls hl => ?_)
  refine lv_aload_n hx hb dL_law_205 rfl (lv_at hl 3 rfl) ?_
  refine lv_aload_n hx hb dL_law_206 rfl (lv_at hl 1 rfl) ?_
  refine lv_iload hx hb dL_law_207 (lv_at hl 5 rfl) ?_
  refine xn_iconst (v := 1) hx hb dL_law_209 (by decide) ?_
  refine xn_iadd hx hb dL_law_210 ?_
  refine q_sld hx hb hX hbl hbA hS (by omega) (by omega) dL_law_211 ?_
  refine xmI (As := [.int (xs (i + 1))]) (rest := []) ⟨hx, hb, hml, hown, hts⟩ (mWrite_ l D cI cC o bk kp d1 d2 d3 t0 S hI H1.size (xs (i + 1))) (cwV 1 hts gL_law_X4_write rfl rfl rfl (by decide +kernel) ⟨Nat.le_of_ble_eq_true rfl, Nat.le_of_ble_eq_true rfl⟩) hK ⟨rfl, hM⟩ hM.recv_ rfl hl.1 rfl (Nat.le_of_ble_eq_true rfl) dL_law_212 ⟨(by show cells + 10 + 900 ≤ 694872; omega), (by show slots + 60 + 7200 ≤ 7011487; omega)⟩ hS (fun q9 h9 => qMA_in hAp hS.1 h9) (fun q9 h9 => qMA_in hAp hS.1 h9) (fun r9 u9 H2 locs2 hp2 hM hz8 hk8 hS => ?_)
  have hW := hW.kept hk8 (qMA_n hAp)
  have hOut : xOut D cL og u H2 := va_at.kept hOut (hk8 og (va_at.lt hOut) (qMA_og hAp (va_at.lt hOut)))
  refine lv_istore (lv' := [(6, .int r9), (5, .int (nI (tWrite S (xs (i + 1))))), (0, .ref b), (1, .ref (ad 0)), (2, .ref o), (3, .ref og), (4, .int (nI i))]) hx hb dL_law_215 hl (by decide) rfl (fun ls hl => ?_)
  refine lv_aload_n hx hb dL_law_217 rfl (lv_at hl 4 rfl) ?_
  obtain ⟨bf, hMo, hb1, hb2⟩ := id hM
  refine xcV (As := []) (rest := []) ⟨hx, hb, hml, hown, hts⟩ (cX4_thrown_ l D cI cC o bk kp _ _ _ _ _ _ _) (cwV 0 hts gL_law_X4_thrown rfl rfl rfl (by decide +kernel) ⟨Nat.le_of_ble_eq_true rfl, Nat.le_of_ble_eq_true rfl⟩) hK hMo hM.recv_ rfl hl.1 rfl (Nat.le_of_ble_eq_true rfl) dL_law_218 ⟨(by show cells + 10 + 900 ≤ 694872; omega), (by show slots + 60 + 7200 ≤ 7011487; omega)⟩ (fun x9 ex => ?_)
  subst ex
  refine lv_iload hx hb dL_law_221 (lv_at hl 1 rfl) ?_
  refine lv_icmp_eq (tgt := 228) hx hb dL_law_223 (by decide) (fun _ => ?_) (fun h9 => absurd rfl h9)
  refine lv_iload hx hb dL_law_228 (lv_at hl 1 rfl) ?_
  refine lv_if_ne (tgt := 245) hx hb dL_law_230 (by decide) (fun _ => ?_) (fun h9 => ?_)
  · refine lv_goto (tgt := 1308) hx hb dL_law_245 (by decide) ?_
    exact kk _ _ _ _ _ _ _ _ (AI_write hI _) ⟨hW, hM, hOut⟩ hS (by omega) (by omega) (lv_sub hl [2, 3, 4, 5, 6] rfl)
  · have ht : tWrite S (xs (i + 1)) = 0 := q_nI0 h9 (by first | exact t1_lt | exact t2_lt | exact t3_lt)
    have hr9 := hp2 ht
    subst hr9
    have hu := hu ht
    subst hu
    refine lv_aload_n hx hb dL_law_233 rfl (lv_at hl 5 rfl) ?_
    refine xn_iconst (v := 0) hx hb dL_law_234 (by decide) ?_
    refine x_laldO hx hb hKL hOut dL_law_235 ?_
    refine lv_iload hx hb dL_law_236 (lv_at hl 0 rfl) ?_
    refine lv_i2l hx hb dL_law_238 rfl ?_
    refine W.lcmp hx hb dL_law_239 ?_
    rw [q_lcmp]
    refine lv_if_eq (tgt := 245) hx hb dL_law_240 (by decide) (fun _ => ?_) (fun h8 => absurd rfl h8)
    refine lv_goto (tgt := 1308) hx hb dL_law_245 (by decide) ?_
    exact kk _ _ _ _ _ _ _ _ (AI_write hI _) ⟨hW, hM, hOut⟩ hS (by omega) (by omega) (lv_sub hl [2, 3, 4, 5, 6] rfl)

set_option maxRecDepth 100000 in
set_option maxHeartbeats 4000000 in
theorem qSwap_ {p : Program} {l : Launch} {e : Env} {s : State} {m : MethodId} {below : List Frame} {meth : Method} {c : Code} {b L i : Nat} {xs : Nat → Int32} {D : va_G} {cI cC cL : ClassId} {ad : Nat → Nat} {o bk kp og : Nat} {S : AS} {t0 : Nat} {z : Int64} {H : Heap} {locs : List Loc} {cells slots : Nat} {Q : State → Prop} {ls : Array Slot} (hst9 : l.stackTraces = false) (C : qC p s m c b L xs D cI cC cL ad o bk kp og) (hI : AI S) (hi : i + 2 < L) (hL : L ≤ 1536) (hq : qH D cI cC cL ad o bk kp og S t0 z H) (hS : va_S (fun q : Nat => s.heap.size ≤ q) s.heap H locs) (hc : cells + 1290 ≤ 694872) (hs : slots + 9600 ≤ 7011487) (hl : lv_has ls 9 [(0, .ref b), (1, .ref (ad 0)), (2, .ref o), (3, .ref og), (4, .int (nI i))])
    (kk : ∀ (S1 : AS) (t1 : Nat) (z1 : Int64) (H1 : Heap) (locs1 : List Loc) (cells1 slots1 : Nat) (ls1 : Array Slot), AI S1 → qH D cI cC cL ad o bk kp og S1 t1 z1 H1 → va_S (fun q : Nat => s.heap.size ≤ q) s.heap H1 locs1 → cells1 ≤ cells + 1290 → slots1 ≤ slots + 9600 → lv_has ls1 9 [(0, .ref b), (1, .ref (ad 0)), (2, .ref o), (3, .ref og), (4, .int (nI i))] → W p l e room_1 s m #[Value.ref b] below meth c H1 locs1 cells1 slots1 Q (F0 m 1308 ls1 [])) : W p l e room_1 s m #[Value.ref b] below meth c H locs cells slots Q (F0 m 248 ls []) := by
  obtain ⟨hx, hb, hml, hown, hts, hX, hbl, hK, hKL, hZ, hN1, hN2, hN3, hAp⟩ := id C
  obtain ⟨hj, hA0, hAo, hAbk, hAkp, hAog, ha1, ha2, ha3, ha4, d1, d2, d3, e1, e2, e3⟩ := id hAp
  obtain ⟨hW, hM, hOut⟩ := hq
  have hbA : ¬ (fun q : Nat => s.heap.size ≤ q) b := Nat.not_le.mpr hbl
  refine lv_aload_n hx hb dL_law_248 rfl (lv_at hl 1 rfl) ?_
  refine lv_aload_n hx hb dL_law_249 rfl (lv_at hl 0 rfl) ?_
  refine lv_iload hx hb dL_law_250 (lv_at hl 4 rfl) ?_
  refine xn_iconst (v := 1) hx hb dL_law_252 (by decide) ?_
  refine xn_iadd hx hb dL_law_253 ?_
  refine q_sld hx hb hX hbl hbA hS (by omega) (by omega) dL_law_254 ?_
  refine lv_aload_n hx hb dL_law_255 rfl (lv_at hl 0 rfl) ?_
  refine lv_iload hx hb dL_law_256 (lv_at hl 4 rfl) ?_
  refine xn_iconst (v := 2) hx hb dL_law_258 (by decide) ?_
  refine xn_iadd hx hb dL_law_259 ?_
  refine q_sld hx hb hX hbl hbA hS (by omega) (by omega) dL_law_260 ?_
  refine lv_aload_n hx hb dL_law_261 rfl (lv_at hl 3 rfl) ?_
  refine vx_calli (vx_runSX (As := [.ref (ad 0), .int (xs (i + 1)), .int (xs (i + 2)), .ref og]) (rest := []) ⟨hx, hb, hml, hown, hts⟩ (wSwap_ l hst9 D cI cC cL ad hj S hI og ha4 z (xs (i + 1)) (xs (i + 2))) (vx_cwSW 4 hts gL_law_L_swap rfl rfl rfl (by decide +kernel) ⟨Nat.le_of_ble_eq_true rfl, Nat.le_of_ble_eq_true rfl⟩) (xWL_PS hK hKL ((hZ.kept hS.2.1).narrow (fun q9 h9 => qAO_in hAp h9)) hN1 hN2 hN3 (P := fun H9 => xXW D cI cC ad S H9 ∧ xOut D cL og z H9) ⟨hW, hOut⟩) rfl rfl hl.1 rfl (lv_room (Nat.le_of_ble_eq_true rfl)) dL_law_262 ⟨(by show cells + 10 ≤ 694872; omega), (by show slots + 60 ≤ 7011487; omega)⟩) hS (fun q9 _ h9 => qAO_in hAp h9) (fun q9 h9 => qAO_in hAp h9) (fun q9 _ h9 => absurd h9 id) (fun E ce q9 u t9 H1 locs1 _ _ _ hB => absurd hB id) (fun k9 u t9 H1 locs1 ht9 _ hp hF hz9 hk9 hS => ?_)
  have hF : xXW D cI cC ad (nSwap S (xs (i + 1)) (xs (i + 2))) t9.heap ∧ xOut D cL og u t9.heap := hF
  rw [ht9] at hF
  obtain ⟨hW, hOut⟩ := hF
  obtain ⟨hk0, hu⟩ := hp
  subst hk0
  have hM := hM.kept hk9 (qAO_n hAp)
  refine lv_istore (lv' := [(5, .int (nI (tSwap S (xs (i + 1)) (xs (i + 2))))), (0, .ref b), (1, .ref (ad 0)), (2, .ref o), (3, .ref og), (4, .int (nI i))]) hx hb dL_law_265 hl (by decide) rfl (fun ls hl => ?_)
  refine lv_aload_n hx hb dL_law_267 rfl (lv_at hl 3 rfl) ?_
  refine lv_aload_n hx hb dL_law_268 rfl (lv_at hl 1 rfl) ?_
  refine lv_iload hx hb dL_law_269 (lv_at hl 5 rfl) ?_
  refine xn_iconst (v := 1) hx hb dL_law_271 (by decide) ?_
  refine xn_iadd hx hb dL_law_272 ?_
  refine q_sld hx hb hX hbl hbA hS (by omega) (by omega) dL_law_273 ?_
  refine lv_aload_n hx hb dL_law_274 rfl (lv_at hl 1 rfl) ?_
  refine lv_iload hx hb dL_law_275 (lv_at hl 5 rfl) ?_
  refine xn_iconst (v := 2) hx hb dL_law_277 (by decide) ?_
  refine xn_iadd hx hb dL_law_278 ?_
  refine q_sld hx hb hX hbl hbA hS (by omega) (by omega) dL_law_279 ?_
  refine xmI (As := [.int (xs (i + 1)), .int (xs (i + 2))]) (rest := []) ⟨hx, hb, hml, hown, hts⟩ (mSwap_ l D cI cC o bk kp d1 d2 d3 t0 S hI H1.size (xs (i + 1)) (xs (i + 2))) (cwV 2 hts gL_law_X4_swap rfl rfl rfl (by decide +kernel) ⟨Nat.le_of_ble_eq_true rfl, Nat.le_of_ble_eq_true rfl⟩) hK ⟨rfl, hM⟩ hM.recv_ rfl hl.1 rfl (Nat.le_of_ble_eq_true rfl) dL_law_280 ⟨(by show cells + 10 + 900 ≤ 694872; omega), (by show slots + 60 + 7200 ≤ 7011487; omega)⟩ hS (fun q9 h9 => qMA_in hAp hS.1 h9) (fun q9 h9 => qMA_in hAp hS.1 h9) (fun r9 u9 H2 locs2 hp2 hM hz8 hk8 hS => ?_)
  have hW := hW.kept hk8 (qMA_n hAp)
  have hOut : xOut D cL og u H2 := va_at.kept hOut (hk8 og (va_at.lt hOut) (qMA_og hAp (va_at.lt hOut)))
  refine lv_istore (lv' := [(6, .int r9), (5, .int (nI (tSwap S (xs (i + 1)) (xs (i + 2))))), (0, .ref b), (1, .ref (ad 0)), (2, .ref o), (3, .ref og), (4, .int (nI i))]) hx hb dL_law_283 hl (by decide) rfl (fun ls hl => ?_)
  refine lv_aload_n hx hb dL_law_285 rfl (lv_at hl 4 rfl) ?_
  obtain ⟨bf, hMo, hb1, hb2⟩ := id hM
  refine xcV (As := []) (rest := []) ⟨hx, hb, hml, hown, hts⟩ (cX4_thrown_ l D cI cC o bk kp _ _ _ _ _ _ _) (cwV 0 hts gL_law_X4_thrown rfl rfl rfl (by decide +kernel) ⟨Nat.le_of_ble_eq_true rfl, Nat.le_of_ble_eq_true rfl⟩) hK hMo hM.recv_ rfl hl.1 rfl (Nat.le_of_ble_eq_true rfl) dL_law_286 ⟨(by show cells + 10 + 900 ≤ 694872; omega), (by show slots + 60 + 7200 ≤ 7011487; omega)⟩ (fun x9 ex => ?_)
  subst ex
  refine lv_iload hx hb dL_law_289 (lv_at hl 1 rfl) ?_
  refine lv_icmp_eq (tgt := 296) hx hb dL_law_291 (by decide) (fun _ => ?_) (fun h9 => absurd rfl h9)
  refine lv_iload hx hb dL_law_296 (lv_at hl 1 rfl) ?_
  refine lv_if_ne (tgt := 313) hx hb dL_law_298 (by decide) (fun _ => ?_) (fun h9 => ?_)
  · refine lv_goto (tgt := 1308) hx hb dL_law_313 (by decide) ?_
    exact kk _ _ _ _ _ _ _ _ (AI_swap hI _ _) ⟨hW, hM, hOut⟩ hS (by omega) (by omega) (lv_sub hl [2, 3, 4, 5, 6] rfl)
  · have ht : tSwap S (xs (i + 1)) (xs (i + 2)) = 0 := q_nI0 h9 (by first | exact t1_lt | exact t2_lt | exact t3_lt)
    have hr9 := hp2 ht
    subst hr9
    have hu := hu ht
    subst hu
    refine lv_aload_n hx hb dL_law_301 rfl (lv_at hl 5 rfl) ?_
    refine xn_iconst (v := 0) hx hb dL_law_302 (by decide) ?_
    refine x_laldO hx hb hKL hOut dL_law_303 ?_
    refine lv_iload hx hb dL_law_304 (lv_at hl 0 rfl) ?_
    refine lv_i2l hx hb dL_law_306 rfl ?_
    refine W.lcmp hx hb dL_law_307 ?_
    rw [q_lcmp]
    refine lv_if_eq (tgt := 313) hx hb dL_law_308 (by decide) (fun _ => ?_) (fun h8 => absurd rfl h8)
    refine lv_goto (tgt := 1308) hx hb dL_law_313 (by decide) ?_
    exact kk _ _ _ _ _ _ _ _ (AI_swap hI _ _) ⟨hW, hM, hOut⟩ hS (by omega) (by omega) (lv_sub hl [2, 3, 4, 5, 6] rfl)

set_option maxRecDepth 100000 in
set_option maxHeartbeats 4000000 in
theorem qNext_ {p : Program} {l : Launch} {e : Env} {s : State} {m : MethodId} {below : List Frame} {meth : Method} {c : Code} {b L i : Nat} {xs : Nat → Int32} {D : va_G} {cI cC cL : ClassId} {ad : Nat → Nat} {o bk kp og : Nat} {S : AS} {t0 : Nat} {z : Int64} {H : Heap} {locs : List Loc} {cells slots : Nat} {Q : State → Prop} {ls : Array Slot} (hst9 : l.stackTraces = false) (C : qC p s m c b L xs D cI cC cL ad o bk kp og) (hI : AI S) (hi : i + 2 < L) (hL : L ≤ 1536) (hq : qH D cI cC cL ad o bk kp og S t0 z H) (hS : va_S (fun q : Nat => s.heap.size ≤ q) s.heap H locs) (hc : cells + 1290 ≤ 694872) (hs : slots + 9600 ≤ 7011487) (hl : lv_has ls 9 [(0, .ref b), (1, .ref (ad 0)), (2, .ref o), (3, .ref og), (4, .int (nI i))])
    (kk : ∀ (S1 : AS) (t1 : Nat) (z1 : Int64) (H1 : Heap) (locs1 : List Loc) (cells1 slots1 : Nat) (ls1 : Array Slot), AI S1 → qH D cI cC cL ad o bk kp og S1 t1 z1 H1 → va_S (fun q : Nat => s.heap.size ≤ q) s.heap H1 locs1 → cells1 ≤ cells + 1290 → slots1 ≤ slots + 9600 → lv_has ls1 9 [(0, .ref b), (1, .ref (ad 0)), (2, .ref o), (3, .ref og), (4, .int (nI i))] → W p l e room_1 s m #[Value.ref b] below meth c H1 locs1 cells1 slots1 Q (F0 m 1308 ls1 [])) : W p l e room_1 s m #[Value.ref b] below meth c H locs cells slots Q (F0 m 316 ls []) := by
  obtain ⟨hx, hb, hml, hown, hts, hX, hbl, hK, hKL, hZ, hN1, hN2, hN3, hAp⟩ := id C
  obtain ⟨hj, hA0, hAo, hAbk, hAkp, hAog, ha1, ha2, ha3, ha4, d1, d2, d3, e1, e2, e3⟩ := id hAp
  obtain ⟨hW, hM, hOut⟩ := hq
  have hbA : ¬ (fun q : Nat => s.heap.size ≤ q) b := Nat.not_le.mpr hbl
  refine lv_aload_n hx hb dL_law_316 rfl (lv_at hl 1 rfl) ?_
  refine lv_aload_n hx hb dL_law_317 rfl (lv_at hl 0 rfl) ?_
  refine lv_iload hx hb dL_law_318 (lv_at hl 4 rfl) ?_
  refine xn_iconst (v := 1) hx hb dL_law_320 (by decide) ?_
  refine xn_iadd hx hb dL_law_321 ?_
  refine q_sld hx hb hX hbl hbA hS (by omega) (by omega) dL_law_322 ?_
  refine lv_aload_n hx hb dL_law_323 rfl (lv_at hl 3 rfl) ?_
  refine vx_calli (vx_runSX (As := [.ref (ad 0), .int (xs (i + 1)), .ref og]) (rest := []) ⟨hx, hb, hml, hown, hts⟩ (wNext_ l hst9 D cI cC cL ad hj S hI og ha4 z (xs (i + 1))) (vx_cwSW 3 hts gL_law_L_next rfl rfl rfl (by decide +kernel) ⟨Nat.le_of_ble_eq_true rfl, Nat.le_of_ble_eq_true rfl⟩) (xWL_PS hK hKL ((hZ.kept hS.2.1).narrow (fun q9 h9 => qAO_in hAp h9)) hN1 hN2 hN3 (P := fun H9 => xXW D cI cC ad S H9 ∧ xOut D cL og z H9) ⟨hW, hOut⟩) rfl rfl hl.1 rfl (lv_room (Nat.le_of_ble_eq_true rfl)) dL_law_324 ⟨(by show cells + 10 ≤ 694872; omega), (by show slots + 60 ≤ 7011487; omega)⟩) hS (fun q9 _ h9 => qAO_in hAp h9) (fun q9 h9 => qAO_in hAp h9) (fun q9 _ h9 => absurd h9 id) (fun E ce q9 u t9 H1 locs1 _ _ _ hB => absurd hB id) (fun k9 u t9 H1 locs1 ht9 _ hp hF hz9 hk9 hS => ?_)
  have hF : xXW D cI cC ad (nNext S (xs (i + 1))) t9.heap ∧ xOut D cL og u t9.heap := hF
  rw [ht9] at hF
  obtain ⟨hW, hOut⟩ := hF
  obtain ⟨hk0, hu⟩ := hp
  subst hk0
  have hM := hM.kept hk9 (qAO_n hAp)
  refine lv_istore (lv' := [(5, .int (nI (tIn S (xs (i + 1))))), (0, .ref b), (1, .ref (ad 0)), (2, .ref o), (3, .ref og), (4, .int (nI i))]) hx hb dL_law_327 hl (by decide) rfl (fun ls hl => ?_)
  refine lv_aload_n hx hb dL_law_329 rfl (lv_at hl 3 rfl) ?_
  refine lv_aload_n hx hb dL_law_330 rfl (lv_at hl 1 rfl) ?_
  refine lv_iload hx hb dL_law_331 (lv_at hl 5 rfl) ?_
  refine xn_iconst (v := 1) hx hb dL_law_333 (by decide) ?_
  refine xn_iadd hx hb dL_law_334 ?_
  refine q_sld hx hb hX hbl hbA hS (by omega) (by omega) dL_law_335 ?_
  refine xmI (As := [.int (xs (i + 1))]) (rest := []) ⟨hx, hb, hml, hown, hts⟩ (mNext_ l D cI cC o bk kp d1 d2 d3 t0 S hI H1.size (xs (i + 1))) (cwV 1 hts gL_law_X4_next rfl rfl rfl (by decide +kernel) ⟨Nat.le_of_ble_eq_true rfl, Nat.le_of_ble_eq_true rfl⟩) hK ⟨rfl, hM⟩ hM.recv_ rfl hl.1 rfl (Nat.le_of_ble_eq_true rfl) dL_law_336 ⟨(by show cells + 10 + 900 ≤ 694872; omega), (by show slots + 60 + 7200 ≤ 7011487; omega)⟩ hS (fun q9 h9 => qMA_in hAp hS.1 h9) (fun q9 h9 => qMA_in hAp hS.1 h9) (fun r9 u9 H2 locs2 hp2 hM hz8 hk8 hS => ?_)
  have hW := hW.kept hk8 (qMA_n hAp)
  have hOut : xOut D cL og u H2 := va_at.kept hOut (hk8 og (va_at.lt hOut) (qMA_og hAp (va_at.lt hOut)))
  refine lv_istore (lv' := [(6, .int r9), (5, .int (nI (tIn S (xs (i + 1))))), (0, .ref b), (1, .ref (ad 0)), (2, .ref o), (3, .ref og), (4, .int (nI i))]) hx hb dL_law_339 hl (by decide) rfl (fun ls hl => ?_)
  refine lv_aload_n hx hb dL_law_341 rfl (lv_at hl 4 rfl) ?_
  obtain ⟨bf, hMo, hb1, hb2⟩ := id hM
  refine xcV (As := []) (rest := []) ⟨hx, hb, hml, hown, hts⟩ (cX4_thrown_ l D cI cC o bk kp _ _ _ _ _ _ _) (cwV 0 hts gL_law_X4_thrown rfl rfl rfl (by decide +kernel) ⟨Nat.le_of_ble_eq_true rfl, Nat.le_of_ble_eq_true rfl⟩) hK hMo hM.recv_ rfl hl.1 rfl (Nat.le_of_ble_eq_true rfl) dL_law_342 ⟨(by show cells + 10 + 900 ≤ 694872; omega), (by show slots + 60 + 7200 ≤ 7011487; omega)⟩ (fun x9 ex => ?_)
  subst ex
  refine lv_iload hx hb dL_law_345 (lv_at hl 1 rfl) ?_
  refine lv_icmp_eq (tgt := 352) hx hb dL_law_347 (by decide) (fun _ => ?_) (fun h9 => absurd rfl h9)
  refine lv_iload hx hb dL_law_352 (lv_at hl 1 rfl) ?_
  refine lv_if_ne (tgt := 369) hx hb dL_law_354 (by decide) (fun _ => ?_) (fun h9 => ?_)
  · refine lv_goto (tgt := 1308) hx hb dL_law_369 (by decide) ?_
    exact kk _ _ _ _ _ _ _ _ (AI_next hI _) ⟨hW, hM, hOut⟩ hS (by omega) (by omega) (lv_sub hl [2, 3, 4, 5, 6] rfl)
  · have ht : tIn S (xs (i + 1)) = 0 := q_nI0 h9 (by first | exact t1_lt | exact t2_lt | exact t3_lt)
    have hr9 := hp2 ht
    subst hr9
    have hu := hu ht
    subst hu
    refine lv_aload_n hx hb dL_law_357 rfl (lv_at hl 5 rfl) ?_
    refine xn_iconst (v := 0) hx hb dL_law_358 (by decide) ?_
    refine x_laldO hx hb hKL hOut dL_law_359 ?_
    refine lv_iload hx hb dL_law_360 (lv_at hl 0 rfl) ?_
    refine lv_i2l hx hb dL_law_362 rfl ?_
    refine W.lcmp hx hb dL_law_363 ?_
    rw [q_lcmp]
    refine lv_if_eq (tgt := 369) hx hb dL_law_364 (by decide) (fun _ => ?_) (fun h8 => absurd rfl h8)
    refine lv_goto (tgt := 1308) hx hb dL_law_369 (by decide) ?_
    exact kk _ _ _ _ _ _ _ _ (AI_next hI _) ⟨hW, hM, hOut⟩ hS (by omega) (by omega) (lv_sub hl [2, 3, 4, 5, 6] rfl)

set_option maxRecDepth 100000 in
set_option maxHeartbeats 4000000 in
theorem qBehind_ {p : Program} {l : Launch} {e : Env} {s : State} {m : MethodId} {below : List Frame} {meth : Method} {c : Code} {b L i : Nat} {xs : Nat → Int32} {D : va_G} {cI cC cL : ClassId} {ad : Nat → Nat} {o bk kp og : Nat} {S : AS} {t0 : Nat} {z : Int64} {H : Heap} {locs : List Loc} {cells slots : Nat} {Q : State → Prop} {ls : Array Slot} (hst9 : l.stackTraces = false) (C : qC p s m c b L xs D cI cC cL ad o bk kp og) (hI : AI S) (hi : i + 2 < L) (hL : L ≤ 1536) (hq : qH D cI cC cL ad o bk kp og S t0 z H) (hS : va_S (fun q : Nat => s.heap.size ≤ q) s.heap H locs) (hc : cells + 1290 ≤ 694872) (hs : slots + 9600 ≤ 7011487) (hl : lv_has ls 9 [(0, .ref b), (1, .ref (ad 0)), (2, .ref o), (3, .ref og), (4, .int (nI i))])
    (kk : ∀ (S1 : AS) (t1 : Nat) (z1 : Int64) (H1 : Heap) (locs1 : List Loc) (cells1 slots1 : Nat) (ls1 : Array Slot), AI S1 → qH D cI cC cL ad o bk kp og S1 t1 z1 H1 → va_S (fun q : Nat => s.heap.size ≤ q) s.heap H1 locs1 → cells1 ≤ cells + 1290 → slots1 ≤ slots + 9600 → lv_has ls1 9 [(0, .ref b), (1, .ref (ad 0)), (2, .ref o), (3, .ref og), (4, .int (nI i))] → W p l e room_1 s m #[Value.ref b] below meth c H1 locs1 cells1 slots1 Q (F0 m 1308 ls1 [])) : W p l e room_1 s m #[Value.ref b] below meth c H locs cells slots Q (F0 m 372 ls []) := by
  obtain ⟨hx, hb, hml, hown, hts, hX, hbl, hK, hKL, hZ, hN1, hN2, hN3, hAp⟩ := id C
  obtain ⟨hj, hA0, hAo, hAbk, hAkp, hAog, ha1, ha2, ha3, ha4, d1, d2, d3, e1, e2, e3⟩ := id hAp
  obtain ⟨hW, hM, hOut⟩ := hq
  have hbA : ¬ (fun q : Nat => s.heap.size ≤ q) b := Nat.not_le.mpr hbl
  refine lv_aload_n hx hb dL_law_372 rfl (lv_at hl 1 rfl) ?_
  refine lv_aload_n hx hb dL_law_373 rfl (lv_at hl 0 rfl) ?_
  refine lv_iload hx hb dL_law_374 (lv_at hl 4 rfl) ?_
  refine xn_iconst (v := 1) hx hb dL_law_376 (by decide) ?_
  refine xn_iadd hx hb dL_law_377 ?_
  refine q_sld hx hb hX hbl hbA hS (by omega) (by omega) dL_law_378 ?_
  refine lv_aload_n hx hb dL_law_379 rfl (lv_at hl 0 rfl) ?_
  refine lv_iload hx hb dL_law_380 (lv_at hl 4 rfl) ?_
  refine xn_iconst (v := 2) hx hb dL_law_382 (by decide) ?_
  refine xn_iadd hx hb dL_law_383 ?_
  refine q_sld hx hb hX hbl hbA hS (by omega) (by omega) dL_law_384 ?_
  refine lv_aload_n hx hb dL_law_385 rfl (lv_at hl 3 rfl) ?_
  refine vx_calli (vx_runSX (As := [.ref (ad 0), .int (xs (i + 1)), .int (xs (i + 2)), .ref og]) (rest := []) ⟨hx, hb, hml, hown, hts⟩ (wBehind_ l hst9 D cI cC cL ad hj S hI og ha4 z (xs (i + 1)) (xs (i + 2))) (vx_cwSW 4 hts gL_law_L_behind rfl rfl rfl (by decide +kernel) ⟨Nat.le_of_ble_eq_true rfl, Nat.le_of_ble_eq_true rfl⟩) (xWL_PS hK hKL ((hZ.kept hS.2.1).narrow (fun q9 h9 => qAO_in hAp h9)) hN1 hN2 hN3 (P := fun H9 => xXW D cI cC ad S H9 ∧ xOut D cL og z H9) ⟨hW, hOut⟩) rfl rfl hl.1 rfl (lv_room (Nat.le_of_ble_eq_true rfl)) dL_law_386 ⟨(by show cells + 10 ≤ 694872; omega), (by show slots + 60 ≤ 7011487; omega)⟩) hS (fun q9 _ h9 => qAO_in hAp h9) (fun q9 h9 => qAO_in hAp h9) (fun q9 _ h9 => absurd h9 id) (fun E ce q9 u t9 H1 locs1 _ _ _ hB => absurd hB id) (fun k9 u t9 H1 locs1 ht9 _ hp hF hz9 hk9 hS => ?_)
  have hF : xXW D cI cC ad (nBehind S (xs (i + 1)) (xs (i + 2))) t9.heap ∧ xOut D cL og u t9.heap := hF
  rw [ht9] at hF
  obtain ⟨hW, hOut⟩ := hF
  obtain ⟨hk0, hu⟩ := hp
  subst hk0
  have hM := hM.kept hk9 (qAO_n hAp)
  refine lv_istore (lv' := [(5, .int (nI (tBehind S (xs (i + 1)) (xs (i + 2))))), (0, .ref b), (1, .ref (ad 0)), (2, .ref o), (3, .ref og), (4, .int (nI i))]) hx hb dL_law_389 hl (by decide) rfl (fun ls hl => ?_)
  refine lv_aload_n hx hb dL_law_391 rfl (lv_at hl 3 rfl) ?_
  refine lv_aload_n hx hb dL_law_392 rfl (lv_at hl 1 rfl) ?_
  refine lv_iload hx hb dL_law_393 (lv_at hl 5 rfl) ?_
  refine xn_iconst (v := 1) hx hb dL_law_395 (by decide) ?_
  refine xn_iadd hx hb dL_law_396 ?_
  refine q_sld hx hb hX hbl hbA hS (by omega) (by omega) dL_law_397 ?_
  refine lv_aload_n hx hb dL_law_398 rfl (lv_at hl 1 rfl) ?_
  refine lv_iload hx hb dL_law_399 (lv_at hl 5 rfl) ?_
  refine xn_iconst (v := 2) hx hb dL_law_401 (by decide) ?_
  refine xn_iadd hx hb dL_law_402 ?_
  refine q_sld hx hb hX hbl hbA hS (by omega) (by omega) dL_law_403 ?_
  refine xmI (As := [.int (xs (i + 1)), .int (xs (i + 2))]) (rest := []) ⟨hx, hb, hml, hown, hts⟩ (mBehind_ l D cI cC o bk kp d1 d2 d3 t0 S hI H1.size (xs (i + 1)) (xs (i + 2))) (cwV 2 hts gL_law_X4_behind rfl rfl rfl (by decide +kernel) ⟨Nat.le_of_ble_eq_true rfl, Nat.le_of_ble_eq_true rfl⟩) hK ⟨rfl, hM⟩ hM.recv_ rfl hl.1 rfl (Nat.le_of_ble_eq_true rfl) dL_law_404 ⟨(by show cells + 10 + 900 ≤ 694872; omega), (by show slots + 60 + 7200 ≤ 7011487; omega)⟩ hS (fun q9 h9 => qMA_in hAp hS.1 h9) (fun q9 h9 => qMA_in hAp hS.1 h9) (fun r9 u9 H2 locs2 hp2 hM hz8 hk8 hS => ?_)
  have hW := hW.kept hk8 (qMA_n hAp)
  have hOut : xOut D cL og u H2 := va_at.kept hOut (hk8 og (va_at.lt hOut) (qMA_og hAp (va_at.lt hOut)))
  refine lv_istore (lv' := [(6, .int r9), (5, .int (nI (tBehind S (xs (i + 1)) (xs (i + 2))))), (0, .ref b), (1, .ref (ad 0)), (2, .ref o), (3, .ref og), (4, .int (nI i))]) hx hb dL_law_407 hl (by decide) rfl (fun ls hl => ?_)
  refine lv_aload_n hx hb dL_law_409 rfl (lv_at hl 4 rfl) ?_
  obtain ⟨bf, hMo, hb1, hb2⟩ := id hM
  refine xcV (As := []) (rest := []) ⟨hx, hb, hml, hown, hts⟩ (cX4_thrown_ l D cI cC o bk kp _ _ _ _ _ _ _) (cwV 0 hts gL_law_X4_thrown rfl rfl rfl (by decide +kernel) ⟨Nat.le_of_ble_eq_true rfl, Nat.le_of_ble_eq_true rfl⟩) hK hMo hM.recv_ rfl hl.1 rfl (Nat.le_of_ble_eq_true rfl) dL_law_410 ⟨(by show cells + 10 + 900 ≤ 694872; omega), (by show slots + 60 + 7200 ≤ 7011487; omega)⟩ (fun x9 ex => ?_)
  subst ex
  refine lv_iload hx hb dL_law_413 (lv_at hl 1 rfl) ?_
  refine lv_icmp_eq (tgt := 420) hx hb dL_law_415 (by decide) (fun _ => ?_) (fun h9 => absurd rfl h9)
  refine lv_iload hx hb dL_law_420 (lv_at hl 1 rfl) ?_
  refine lv_if_ne (tgt := 437) hx hb dL_law_422 (by decide) (fun _ => ?_) (fun h9 => ?_)
  · refine lv_goto (tgt := 1308) hx hb dL_law_437 (by decide) ?_
    exact kk _ _ _ _ _ _ _ _ (AI_behind hI _ _) ⟨hW, hM, hOut⟩ hS (by omega) (by omega) (lv_sub hl [2, 3, 4, 5, 6] rfl)
  · have ht : tBehind S (xs (i + 1)) (xs (i + 2)) = 0 := q_nI0 h9 (by first | exact t1_lt | exact t2_lt | exact t3_lt)
    have hr9 := hp2 ht
    subst hr9
    have hu := hu ht
    subst hu
    refine lv_aload_n hx hb dL_law_425 rfl (lv_at hl 5 rfl) ?_
    refine xn_iconst (v := 0) hx hb dL_law_426 (by decide) ?_
    refine x_laldO hx hb hKL hOut dL_law_427 ?_
    refine lv_iload hx hb dL_law_428 (lv_at hl 0 rfl) ?_
    refine lv_i2l hx hb dL_law_430 rfl ?_
    refine W.lcmp hx hb dL_law_431 ?_
    rw [q_lcmp]
    refine lv_if_eq (tgt := 437) hx hb dL_law_432 (by decide) (fun _ => ?_) (fun h8 => absurd rfl h8)
    refine lv_goto (tgt := 1308) hx hb dL_law_437 (by decide) ?_
    exact kk _ _ _ _ _ _ _ _ (AI_behind hI _ _) ⟨hW, hM, hOut⟩ hS (by omega) (by omega) (lv_sub hl [2, 3, 4, 5, 6] rfl)

set_option maxRecDepth 100000 in
set_option maxHeartbeats 4000000 in
theorem qBack_ {p : Program} {l : Launch} {e : Env} {s : State} {m : MethodId} {below : List Frame} {meth : Method} {c : Code} {b L i : Nat} {xs : Nat → Int32} {D : va_G} {cI cC cL : ClassId} {ad : Nat → Nat} {o bk kp og : Nat} {S : AS} {t0 : Nat} {z : Int64} {H : Heap} {locs : List Loc} {cells slots : Nat} {Q : State → Prop} {ls : Array Slot} (hst9 : l.stackTraces = false) (C : qC p s m c b L xs D cI cC cL ad o bk kp og) (hI : AI S) (hi : i + 2 < L) (hL : L ≤ 1536) (hq : qH D cI cC cL ad o bk kp og S t0 z H) (hS : va_S (fun q : Nat => s.heap.size ≤ q) s.heap H locs) (hc : cells + 1290 ≤ 694872) (hs : slots + 9600 ≤ 7011487) (hl : lv_has ls 9 [(0, .ref b), (1, .ref (ad 0)), (2, .ref o), (3, .ref og), (4, .int (nI i))])
    (kk : ∀ (S1 : AS) (t1 : Nat) (z1 : Int64) (H1 : Heap) (locs1 : List Loc) (cells1 slots1 : Nat) (ls1 : Array Slot), AI S1 → qH D cI cC cL ad o bk kp og S1 t1 z1 H1 → va_S (fun q : Nat => s.heap.size ≤ q) s.heap H1 locs1 → cells1 ≤ cells + 1290 → slots1 ≤ slots + 9600 → lv_has ls1 9 [(0, .ref b), (1, .ref (ad 0)), (2, .ref o), (3, .ref og), (4, .int (nI i))] → W p l e room_1 s m #[Value.ref b] below meth c H1 locs1 cells1 slots1 Q (F0 m 1308 ls1 [])) : W p l e room_1 s m #[Value.ref b] below meth c H locs cells slots Q (F0 m 440 ls []) := by
  obtain ⟨hx, hb, hml, hown, hts, hX, hbl, hK, hKL, hZ, hN1, hN2, hN3, hAp⟩ := id C
  obtain ⟨hj, hA0, hAo, hAbk, hAkp, hAog, ha1, ha2, ha3, ha4, d1, d2, d3, e1, e2, e3⟩ := id hAp
  obtain ⟨hW, hM, hOut⟩ := hq
  have hbA : ¬ (fun q : Nat => s.heap.size ≤ q) b := Nat.not_le.mpr hbl
  refine lv_aload_n hx hb dL_law_440 rfl (lv_at hl 1 rfl) ?_
  refine lv_aload_n hx hb dL_law_441 rfl (lv_at hl 0 rfl) ?_
  refine lv_iload hx hb dL_law_442 (lv_at hl 4 rfl) ?_
  refine xn_iconst (v := 1) hx hb dL_law_444 (by decide) ?_
  refine xn_iadd hx hb dL_law_445 ?_
  refine q_sld hx hb hX hbl hbA hS (by omega) (by omega) dL_law_446 ?_
  refine lv_aload_n hx hb dL_law_447 rfl (lv_at hl 3 rfl) ?_
  refine vx_calli (vx_runSX (As := [.ref (ad 0), .int (xs (i + 1)), .ref og]) (rest := []) ⟨hx, hb, hml, hown, hts⟩ (wBack_ l hst9 D cI cC cL ad hj S hI og ha4 z (xs (i + 1))) (vx_cwSW 3 hts gL_law_L_back rfl rfl rfl (by decide +kernel) ⟨Nat.le_of_ble_eq_true rfl, Nat.le_of_ble_eq_true rfl⟩) (xWL_PS hK hKL ((hZ.kept hS.2.1).narrow (fun q9 h9 => qAO_in hAp h9)) hN1 hN2 hN3 (P := fun H9 => xXW D cI cC ad S H9 ∧ xOut D cL og z H9) ⟨hW, hOut⟩) rfl rfl hl.1 rfl (lv_room (Nat.le_of_ble_eq_true rfl)) dL_law_448 ⟨(by show cells + 10 ≤ 694872; omega), (by show slots + 60 ≤ 7011487; omega)⟩) hS (fun q9 _ h9 => qAO_in hAp h9) (fun q9 h9 => qAO_in hAp h9) (fun q9 _ h9 => absurd h9 id) (fun E ce q9 u t9 H1 locs1 _ _ _ hB => absurd hB id) (fun k9 u t9 H1 locs1 ht9 _ hp hF hz9 hk9 hS => ?_)
  have hF : xXW D cI cC ad (nBack S (xs (i + 1))) t9.heap ∧ xOut D cL og u t9.heap := hF
  rw [ht9] at hF
  obtain ⟨hW, hOut⟩ := hF
  obtain ⟨hk0, hu⟩ := hp
  subst hk0
  have hM := hM.kept hk9 (qAO_n hAp)
  refine lv_istore (lv' := [(5, .int (nI (tIn S (xs (i + 1))))), (0, .ref b), (1, .ref (ad 0)), (2, .ref o), (3, .ref og), (4, .int (nI i))]) hx hb dL_law_451 hl (by decide) rfl (fun ls hl => ?_)
  refine lv_aload_n hx hb dL_law_453 rfl (lv_at hl 3 rfl) ?_
  refine lv_aload_n hx hb dL_law_454 rfl (lv_at hl 1 rfl) ?_
  refine lv_iload hx hb dL_law_455 (lv_at hl 5 rfl) ?_
  refine xn_iconst (v := 1) hx hb dL_law_457 (by decide) ?_
  refine xn_iadd hx hb dL_law_458 ?_
  refine q_sld hx hb hX hbl hbA hS (by omega) (by omega) dL_law_459 ?_
  refine xmI (As := [.int (xs (i + 1))]) (rest := []) ⟨hx, hb, hml, hown, hts⟩ (mBack_ l D cI cC o bk kp d1 d2 d3 t0 S hI H1.size (xs (i + 1))) (cwV 1 hts gL_law_X4_back rfl rfl rfl (by decide +kernel) ⟨Nat.le_of_ble_eq_true rfl, Nat.le_of_ble_eq_true rfl⟩) hK ⟨rfl, hM⟩ hM.recv_ rfl hl.1 rfl (Nat.le_of_ble_eq_true rfl) dL_law_460 ⟨(by show cells + 10 + 900 ≤ 694872; omega), (by show slots + 60 + 7200 ≤ 7011487; omega)⟩ hS (fun q9 h9 => qMA_in hAp hS.1 h9) (fun q9 h9 => qMA_in hAp hS.1 h9) (fun r9 u9 H2 locs2 hp2 hM hz8 hk8 hS => ?_)
  have hW := hW.kept hk8 (qMA_n hAp)
  have hOut : xOut D cL og u H2 := va_at.kept hOut (hk8 og (va_at.lt hOut) (qMA_og hAp (va_at.lt hOut)))
  refine lv_istore (lv' := [(6, .int r9), (5, .int (nI (tIn S (xs (i + 1))))), (0, .ref b), (1, .ref (ad 0)), (2, .ref o), (3, .ref og), (4, .int (nI i))]) hx hb dL_law_463 hl (by decide) rfl (fun ls hl => ?_)
  refine lv_aload_n hx hb dL_law_465 rfl (lv_at hl 4 rfl) ?_
  obtain ⟨bf, hMo, hb1, hb2⟩ := id hM
  refine xcV (As := []) (rest := []) ⟨hx, hb, hml, hown, hts⟩ (cX4_thrown_ l D cI cC o bk kp _ _ _ _ _ _ _) (cwV 0 hts gL_law_X4_thrown rfl rfl rfl (by decide +kernel) ⟨Nat.le_of_ble_eq_true rfl, Nat.le_of_ble_eq_true rfl⟩) hK hMo hM.recv_ rfl hl.1 rfl (Nat.le_of_ble_eq_true rfl) dL_law_466 ⟨(by show cells + 10 + 900 ≤ 694872; omega), (by show slots + 60 + 7200 ≤ 7011487; omega)⟩ (fun x9 ex => ?_)
  subst ex
  refine lv_iload hx hb dL_law_469 (lv_at hl 1 rfl) ?_
  refine lv_icmp_eq (tgt := 476) hx hb dL_law_471 (by decide) (fun _ => ?_) (fun h9 => absurd rfl h9)
  refine lv_iload hx hb dL_law_476 (lv_at hl 1 rfl) ?_
  refine lv_if_ne (tgt := 493) hx hb dL_law_478 (by decide) (fun _ => ?_) (fun h9 => ?_)
  · refine lv_goto (tgt := 1308) hx hb dL_law_493 (by decide) ?_
    exact kk _ _ _ _ _ _ _ _ (AI_back hI _) ⟨hW, hM, hOut⟩ hS (by omega) (by omega) (lv_sub hl [2, 3, 4, 5, 6] rfl)
  · have ht : tIn S (xs (i + 1)) = 0 := q_nI0 h9 (by first | exact t1_lt | exact t2_lt | exact t3_lt)
    have hr9 := hp2 ht
    subst hr9
    have hu := hu ht
    subst hu
    refine lv_aload_n hx hb dL_law_481 rfl (lv_at hl 5 rfl) ?_
    refine xn_iconst (v := 0) hx hb dL_law_482 (by decide) ?_
    refine x_laldO hx hb hKL hOut dL_law_483 ?_
    refine lv_iload hx hb dL_law_484 (lv_at hl 0 rfl) ?_
    refine lv_i2l hx hb dL_law_486 rfl ?_
    refine W.lcmp hx hb dL_law_487 ?_
    rw [q_lcmp]
    refine lv_if_eq (tgt := 493) hx hb dL_law_488 (by decide) (fun _ => ?_) (fun h8 => absurd rfl h8)
    refine lv_goto (tgt := 1308) hx hb dL_law_493 (by decide) ?_
    exact kk _ _ _ _ _ _ _ _ (AI_back hI _) ⟨hW, hM, hOut⟩ hS (by omega) (by omega) (lv_sub hl [2, 3, 4, 5, 6] rfl)

set_option maxRecDepth 100000 in
set_option maxHeartbeats 4000000 in
theorem qRepeat_ {p : Program} {l : Launch} {e : Env} {s : State} {m : MethodId} {below : List Frame} {meth : Method} {c : Code} {b L i : Nat} {xs : Nat → Int32} {D : va_G} {cI cC cL : ClassId} {ad : Nat → Nat} {o bk kp og : Nat} {S : AS} {t0 : Nat} {z : Int64} {H : Heap} {locs : List Loc} {cells slots : Nat} {Q : State → Prop} {ls : Array Slot} (hst9 : l.stackTraces = false) (C : qC p s m c b L xs D cI cC cL ad o bk kp og) (hI : AI S) (hi : i + 2 < L) (hL : L ≤ 1536) (hq : qH D cI cC cL ad o bk kp og S t0 z H) (hS : va_S (fun q : Nat => s.heap.size ≤ q) s.heap H locs) (hc : cells + 1290 ≤ 694872) (hs : slots + 9600 ≤ 7011487) (hl : lv_has ls 9 [(0, .ref b), (1, .ref (ad 0)), (2, .ref o), (3, .ref og), (4, .int (nI i))])
    (kk : ∀ (S1 : AS) (t1 : Nat) (z1 : Int64) (H1 : Heap) (locs1 : List Loc) (cells1 slots1 : Nat) (ls1 : Array Slot), AI S1 → qH D cI cC cL ad o bk kp og S1 t1 z1 H1 → va_S (fun q : Nat => s.heap.size ≤ q) s.heap H1 locs1 → cells1 ≤ cells + 1290 → slots1 ≤ slots + 9600 → lv_has ls1 9 [(0, .ref b), (1, .ref (ad 0)), (2, .ref o), (3, .ref og), (4, .int (nI i))] → W p l e room_1 s m #[Value.ref b] below meth c H1 locs1 cells1 slots1 Q (F0 m 1308 ls1 [])) : W p l e room_1 s m #[Value.ref b] below meth c H locs cells slots Q (F0 m 496 ls []) := by
  obtain ⟨hx, hb, hml, hown, hts, hX, hbl, hK, hKL, hZ, hN1, hN2, hN3, hAp⟩ := id C
  obtain ⟨hj, hA0, hAo, hAbk, hAkp, hAog, ha1, ha2, ha3, ha4, d1, d2, d3, e1, e2, e3⟩ := id hAp
  obtain ⟨hW, hM, hOut⟩ := hq
  have hbA : ¬ (fun q : Nat => s.heap.size ≤ q) b := Nat.not_le.mpr hbl
  refine lv_aload_n hx hb dL_law_496 rfl (lv_at hl 1 rfl) ?_
  refine lv_aload_n hx hb dL_law_497 rfl (lv_at hl 0 rfl) ?_
  refine lv_iload hx hb dL_law_498 (lv_at hl 4 rfl) ?_
  refine xn_iconst (v := 1) hx hb dL_law_500 (by decide) ?_
  refine xn_iadd hx hb dL_law_501 ?_
  refine q_sld hx hb hX hbl hbA hS (by omega) (by omega) dL_law_502 ?_
  refine lv_aload_n hx hb dL_law_503 rfl (lv_at hl 0 rfl) ?_
  refine lv_iload hx hb dL_law_504 (lv_at hl 4 rfl) ?_
  refine xn_iconst (v := 2) hx hb dL_law_506 (by decide) ?_
  refine xn_iadd hx hb dL_law_507 ?_
  refine q_sld hx hb hX hbl hbA hS (by omega) (by omega) dL_law_508 ?_
  refine lv_aload_n hx hb dL_law_509 rfl (lv_at hl 3 rfl) ?_
  refine vx_calli (vx_runSX (As := [.ref (ad 0), .int (xs (i + 1)), .int (xs (i + 2)), .ref og]) (rest := []) ⟨hx, hb, hml, hown, hts⟩ (wRepeat_ l hst9 D cI cC cL ad hj S hI og ha4 z (xs (i + 1)) (xs (i + 2))) (vx_cwSW 4 hts gL_law_L_repeat rfl rfl rfl (by decide +kernel) ⟨Nat.le_of_ble_eq_true rfl, Nat.le_of_ble_eq_true rfl⟩) (xWL_PS hK hKL ((hZ.kept hS.2.1).narrow (fun q9 h9 => qAO_in hAp h9)) hN1 hN2 hN3 (P := fun H9 => xXW D cI cC ad S H9 ∧ xOut D cL og z H9) ⟨hW, hOut⟩) rfl rfl hl.1 rfl (lv_room (Nat.le_of_ble_eq_true rfl)) dL_law_510 ⟨(by show cells + 10 ≤ 694872; omega), (by show slots + 60 ≤ 7011487; omega)⟩) hS (fun q9 _ h9 => qAO_in hAp h9) (fun q9 h9 => qAO_in hAp h9) (fun q9 _ h9 => absurd h9 id) (fun E ce q9 u t9 H1 locs1 _ _ _ hB => absurd hB id) (fun k9 u t9 H1 locs1 ht9 _ hp hF hz9 hk9 hS => ?_)
  have hF : xXW D cI cC ad (nRepeat S (xs (i + 1)) (xs (i + 2))) t9.heap ∧ xOut D cL og u t9.heap := hF
  rw [ht9] at hF
  obtain ⟨hW, hOut⟩ := hF
  obtain ⟨hk0, hu⟩ := hp
  subst hk0
  have hM := hM.kept hk9 (qAO_n hAp)
  refine lv_istore (lv' := [(5, .int (nI (tRepeat S (xs (i + 1)) (xs (i + 2))))), (0, .ref b), (1, .ref (ad 0)), (2, .ref o), (3, .ref og), (4, .int (nI i))]) hx hb dL_law_513 hl (by decide) rfl (fun ls hl => ?_)
  refine lv_aload_n hx hb dL_law_515 rfl (lv_at hl 3 rfl) ?_
  refine lv_aload_n hx hb dL_law_516 rfl (lv_at hl 1 rfl) ?_
  refine lv_iload hx hb dL_law_517 (lv_at hl 5 rfl) ?_
  refine xn_iconst (v := 1) hx hb dL_law_519 (by decide) ?_
  refine xn_iadd hx hb dL_law_520 ?_
  refine q_sld hx hb hX hbl hbA hS (by omega) (by omega) dL_law_521 ?_
  refine lv_aload_n hx hb dL_law_522 rfl (lv_at hl 1 rfl) ?_
  refine lv_iload hx hb dL_law_523 (lv_at hl 5 rfl) ?_
  refine xn_iconst (v := 2) hx hb dL_law_525 (by decide) ?_
  refine xn_iadd hx hb dL_law_526 ?_
  refine q_sld hx hb hX hbl hbA hS (by omega) (by omega) dL_law_527 ?_
  refine xmI (As := [.int (xs (i + 1)), .int (xs (i + 2))]) (rest := []) ⟨hx, hb, hml, hown, hts⟩ (mRepeat_ l D cI cC o bk kp d1 d2 d3 t0 S hI H1.size (xs (i + 1)) (xs (i + 2))) (cwV 2 hts gL_law_X4_repeat rfl rfl rfl (by decide +kernel) ⟨Nat.le_of_ble_eq_true rfl, Nat.le_of_ble_eq_true rfl⟩) hK ⟨rfl, hM⟩ hM.recv_ rfl hl.1 rfl (Nat.le_of_ble_eq_true rfl) dL_law_528 ⟨(by show cells + 10 + 900 ≤ 694872; omega), (by show slots + 60 + 7200 ≤ 7011487; omega)⟩ hS (fun q9 h9 => qMA_in hAp hS.1 h9) (fun q9 h9 => qMA_in hAp hS.1 h9) (fun r9 u9 H2 locs2 hp2 hM hz8 hk8 hS => ?_)
  have hW := hW.kept hk8 (qMA_n hAp)
  have hOut : xOut D cL og u H2 := va_at.kept hOut (hk8 og (va_at.lt hOut) (qMA_og hAp (va_at.lt hOut)))
  refine lv_istore (lv' := [(6, .int r9), (5, .int (nI (tRepeat S (xs (i + 1)) (xs (i + 2))))), (0, .ref b), (1, .ref (ad 0)), (2, .ref o), (3, .ref og), (4, .int (nI i))]) hx hb dL_law_531 hl (by decide) rfl (fun ls hl => ?_)
  refine lv_aload_n hx hb dL_law_533 rfl (lv_at hl 4 rfl) ?_
  obtain ⟨bf, hMo, hb1, hb2⟩ := id hM
  refine xcV (As := []) (rest := []) ⟨hx, hb, hml, hown, hts⟩ (cX4_thrown_ l D cI cC o bk kp _ _ _ _ _ _ _) (cwV 0 hts gL_law_X4_thrown rfl rfl rfl (by decide +kernel) ⟨Nat.le_of_ble_eq_true rfl, Nat.le_of_ble_eq_true rfl⟩) hK hMo hM.recv_ rfl hl.1 rfl (Nat.le_of_ble_eq_true rfl) dL_law_534 ⟨(by show cells + 10 + 900 ≤ 694872; omega), (by show slots + 60 + 7200 ≤ 7011487; omega)⟩ (fun x9 ex => ?_)
  subst ex
  refine lv_iload hx hb dL_law_537 (lv_at hl 1 rfl) ?_
  refine lv_icmp_eq (tgt := 544) hx hb dL_law_539 (by decide) (fun _ => ?_) (fun h9 => absurd rfl h9)
  refine lv_iload hx hb dL_law_544 (lv_at hl 1 rfl) ?_
  refine lv_if_ne (tgt := 561) hx hb dL_law_546 (by decide) (fun _ => ?_) (fun h9 => ?_)
  · refine lv_goto (tgt := 1308) hx hb dL_law_561 (by decide) ?_
    exact kk _ _ _ _ _ _ _ _ (AI_repeat hI _ _) ⟨hW, hM, hOut⟩ hS (by omega) (by omega) (lv_sub hl [2, 3, 4, 5, 6] rfl)
  · have ht : tRepeat S (xs (i + 1)) (xs (i + 2)) = 0 := q_nI0 h9 (by first | exact t1_lt | exact t2_lt | exact t3_lt)
    have hr9 := hp2 ht
    subst hr9
    have hu := hu ht
    subst hu
    refine lv_aload_n hx hb dL_law_549 rfl (lv_at hl 5 rfl) ?_
    refine xn_iconst (v := 0) hx hb dL_law_550 (by decide) ?_
    refine x_laldO hx hb hKL hOut dL_law_551 ?_
    refine lv_iload hx hb dL_law_552 (lv_at hl 0 rfl) ?_
    refine lv_i2l hx hb dL_law_554 rfl ?_
    refine W.lcmp hx hb dL_law_555 ?_
    rw [q_lcmp]
    refine lv_if_eq (tgt := 561) hx hb dL_law_556 (by decide) (fun _ => ?_) (fun h8 => absurd rfl h8)
    refine lv_goto (tgt := 1308) hx hb dL_law_561 (by decide) ?_
    exact kk _ _ _ _ _ _ _ _ (AI_repeat hI _ _) ⟨hW, hM, hOut⟩ hS (by omega) (by omega) (lv_sub hl [2, 3, 4, 5, 6] rfl)

set_option maxRecDepth 100000 in
set_option maxHeartbeats 4000000 in
theorem qStep_ {p : Program} {l : Launch} {e : Env} {s : State} {m : MethodId} {below : List Frame} {meth : Method} {c : Code} {b L i : Nat} {xs : Nat → Int32} {D : va_G} {cI cC cL : ClassId} {ad : Nat → Nat} {o bk kp og : Nat} {S : AS} {t0 : Nat} {z : Int64} {H : Heap} {locs : List Loc} {cells slots : Nat} {Q : State → Prop} {ls : Array Slot} (hst9 : l.stackTraces = false) (C : qC p s m c b L xs D cI cC cL ad o bk kp og) (hI : AI S) (hi : i + 2 < L) (hL : L ≤ 1536) (hq : qH D cI cC cL ad o bk kp og S t0 z H) (hS : va_S (fun q : Nat => s.heap.size ≤ q) s.heap H locs) (hc : cells + 1290 ≤ 694872) (hs : slots + 9600 ≤ 7011487) (hl : lv_has ls 9 [(0, .ref b), (1, .ref (ad 0)), (2, .ref o), (3, .ref og), (4, .int (nI i))])
    (kk : ∀ (S1 : AS) (t1 : Nat) (z1 : Int64) (H1 : Heap) (locs1 : List Loc) (cells1 slots1 : Nat) (ls1 : Array Slot), AI S1 → qH D cI cC cL ad o bk kp og S1 t1 z1 H1 → va_S (fun q : Nat => s.heap.size ≤ q) s.heap H1 locs1 → cells1 ≤ cells + 1290 → slots1 ≤ slots + 9600 → lv_has ls1 9 [(0, .ref b), (1, .ref (ad 0)), (2, .ref o), (3, .ref og), (4, .int (nI i))] → W p l e room_1 s m #[Value.ref b] below meth c H1 locs1 cells1 slots1 Q (F0 m 1308 ls1 [])) : W p l e room_1 s m #[Value.ref b] below meth c H locs cells slots Q (F0 m 564 ls []) := by
  obtain ⟨hx, hb, hml, hown, hts, hX, hbl, hK, hKL, hZ, hN1, hN2, hN3, hAp⟩ := id C
  obtain ⟨hj, hA0, hAo, hAbk, hAkp, hAog, ha1, ha2, ha3, ha4, d1, d2, d3, e1, e2, e3⟩ := id hAp
  obtain ⟨hW, hM, hOut⟩ := hq
  have hbA : ¬ (fun q : Nat => s.heap.size ≤ q) b := Nat.not_le.mpr hbl
  refine lv_aload_n hx hb dL_law_564 rfl (lv_at hl 1 rfl) ?_
  refine lv_aload_n hx hb dL_law_565 rfl (lv_at hl 0 rfl) ?_
  refine lv_iload hx hb dL_law_566 (lv_at hl 4 rfl) ?_
  refine xn_iconst (v := 1) hx hb dL_law_568 (by decide) ?_
  refine xn_iadd hx hb dL_law_569 ?_
  refine q_sld hx hb hX hbl hbA hS (by omega) (by omega) dL_law_570 ?_
  refine lv_aload_n hx hb dL_law_571 rfl (lv_at hl 3 rfl) ?_
  refine vx_calli (vx_runSX (As := [.ref (ad 0), .int (xs (i + 1)), .ref og]) (rest := []) ⟨hx, hb, hml, hown, hts⟩ (wStep_ l hst9 D cI cC cL ad hj S hI og ha4 z (xs (i + 1))) (vx_cwSW 3 hts gL_law_L_step rfl rfl rfl (by decide +kernel) ⟨Nat.le_of_ble_eq_true rfl, Nat.le_of_ble_eq_true rfl⟩) (xWL_PS hK hKL ((hZ.kept hS.2.1).narrow (fun q9 h9 => qAO_in hAp h9)) hN1 hN2 hN3 (P := fun H9 => xXW D cI cC ad S H9 ∧ xOut D cL og z H9) ⟨hW, hOut⟩) rfl rfl hl.1 rfl (lv_room (Nat.le_of_ble_eq_true rfl)) dL_law_572 ⟨(by show cells + 10 ≤ 694872; omega), (by show slots + 60 ≤ 7011487; omega)⟩) hS (fun q9 _ h9 => qAO_in hAp h9) (fun q9 h9 => qAO_in hAp h9) (fun q9 _ h9 => absurd h9 id) (fun E ce q9 u t9 H1 locs1 _ _ _ hB => absurd hB id) (fun k9 u t9 H1 locs1 ht9 _ hp hF hz9 hk9 hS => ?_)
  have hF : xXW D cI cC ad (nStep S (xs (i + 1))) t9.heap ∧ xOut D cL og u t9.heap := hF
  rw [ht9] at hF
  obtain ⟨hW, hOut⟩ := hF
  obtain ⟨hk0, hu⟩ := hp
  subst hk0
  have hM := hM.kept hk9 (qAO_n hAp)
  refine lv_istore (lv' := [(5, .int (nI (tStep S (xs (i + 1))))), (0, .ref b), (1, .ref (ad 0)), (2, .ref o), (3, .ref og), (4, .int (nI i))]) hx hb dL_law_575 hl (by decide) rfl (fun ls hl => ?_)
  refine lv_aload_n hx hb dL_law_577 rfl (lv_at hl 3 rfl) ?_
  refine lv_aload_n hx hb dL_law_578 rfl (lv_at hl 1 rfl) ?_
  refine lv_iload hx hb dL_law_579 (lv_at hl 5 rfl) ?_
  refine xn_iconst (v := 1) hx hb dL_law_581 (by decide) ?_
  refine xn_iadd hx hb dL_law_582 ?_
  refine q_sld hx hb hX hbl hbA hS (by omega) (by omega) dL_law_583 ?_
  refine xmI (As := [.int (xs (i + 1))]) (rest := []) ⟨hx, hb, hml, hown, hts⟩ (mStep_ l D cI cC o bk kp d1 d2 d3 t0 S hI H1.size (xs (i + 1))) (cwV 1 hts gL_law_X4_step rfl rfl rfl (by decide +kernel) ⟨Nat.le_of_ble_eq_true rfl, Nat.le_of_ble_eq_true rfl⟩) hK ⟨rfl, hM⟩ hM.recv_ rfl hl.1 rfl (Nat.le_of_ble_eq_true rfl) dL_law_584 ⟨(by show cells + 10 + 900 ≤ 694872; omega), (by show slots + 60 + 7200 ≤ 7011487; omega)⟩ hS (fun q9 h9 => qMA_in hAp hS.1 h9) (fun q9 h9 => qMA_in hAp hS.1 h9) (fun r9 u9 H2 locs2 hp2 hM hz8 hk8 hS => ?_)
  have hW := hW.kept hk8 (qMA_n hAp)
  have hOut : xOut D cL og u H2 := va_at.kept hOut (hk8 og (va_at.lt hOut) (qMA_og hAp (va_at.lt hOut)))
  refine lv_istore (lv' := [(6, .int r9), (5, .int (nI (tStep S (xs (i + 1))))), (0, .ref b), (1, .ref (ad 0)), (2, .ref o), (3, .ref og), (4, .int (nI i))]) hx hb dL_law_587 hl (by decide) rfl (fun ls hl => ?_)
  refine lv_aload_n hx hb dL_law_589 rfl (lv_at hl 4 rfl) ?_
  obtain ⟨bf, hMo, hb1, hb2⟩ := id hM
  refine xcV (As := []) (rest := []) ⟨hx, hb, hml, hown, hts⟩ (cX4_thrown_ l D cI cC o bk kp _ _ _ _ _ _ _) (cwV 0 hts gL_law_X4_thrown rfl rfl rfl (by decide +kernel) ⟨Nat.le_of_ble_eq_true rfl, Nat.le_of_ble_eq_true rfl⟩) hK hMo hM.recv_ rfl hl.1 rfl (Nat.le_of_ble_eq_true rfl) dL_law_590 ⟨(by show cells + 10 + 900 ≤ 694872; omega), (by show slots + 60 + 7200 ≤ 7011487; omega)⟩ (fun x9 ex => ?_)
  subst ex
  refine lv_iload hx hb dL_law_593 (lv_at hl 1 rfl) ?_
  refine lv_icmp_eq (tgt := 600) hx hb dL_law_595 (by decide) (fun _ => ?_) (fun h9 => absurd rfl h9)
  refine lv_iload hx hb dL_law_600 (lv_at hl 1 rfl) ?_
  refine lv_if_ne (tgt := 617) hx hb dL_law_602 (by decide) (fun _ => ?_) (fun h9 => ?_)
  · refine lv_goto (tgt := 1308) hx hb dL_law_617 (by decide) ?_
    exact kk _ _ _ _ _ _ _ _ (AI_step hI _) ⟨hW, hM, hOut⟩ hS (by omega) (by omega) (lv_sub hl [2, 3, 4, 5, 6] rfl)
  · have ht : tStep S (xs (i + 1)) = 0 := q_nI0 h9 (by first | exact t1_lt | exact t2_lt | exact t3_lt)
    have hr9 := hp2 ht
    subst hr9
    have hu := hu ht
    subst hu
    refine lv_aload_n hx hb dL_law_605 rfl (lv_at hl 5 rfl) ?_
    refine xn_iconst (v := 0) hx hb dL_law_606 (by decide) ?_
    refine x_laldO hx hb hKL hOut dL_law_607 ?_
    refine lv_iload hx hb dL_law_608 (lv_at hl 0 rfl) ?_
    refine lv_i2l hx hb dL_law_610 rfl ?_
    refine W.lcmp hx hb dL_law_611 ?_
    rw [q_lcmp]
    refine lv_if_eq (tgt := 617) hx hb dL_law_612 (by decide) (fun _ => ?_) (fun h8 => absurd rfl h8)
    refine lv_goto (tgt := 1308) hx hb dL_law_617 (by decide) ?_
    exact kk _ _ _ _ _ _ _ _ (AI_step hI _) ⟨hW, hM, hOut⟩ hS (by omega) (by omega) (lv_sub hl [2, 3, 4, 5, 6] rfl)

set_option maxRecDepth 100000 in
set_option maxHeartbeats 4000000 in
theorem qRing_ {p : Program} {l : Launch} {e : Env} {s : State} {m : MethodId} {below : List Frame} {meth : Method} {c : Code} {b L i : Nat} {xs : Nat → Int32} {D : va_G} {cI cC cL : ClassId} {ad : Nat → Nat} {o bk kp og : Nat} {S : AS} {t0 : Nat} {z : Int64} {H : Heap} {locs : List Loc} {cells slots : Nat} {Q : State → Prop} {ls : Array Slot} (hst9 : l.stackTraces = false) (C : qC p s m c b L xs D cI cC cL ad o bk kp og) (hI : AI S) (hi : i + 2 < L) (hL : L ≤ 1536) (hq : qH D cI cC cL ad o bk kp og S t0 z H) (hS : va_S (fun q : Nat => s.heap.size ≤ q) s.heap H locs) (hc : cells + 1290 ≤ 694872) (hs : slots + 9600 ≤ 7011487) (hl : lv_has ls 9 [(0, .ref b), (1, .ref (ad 0)), (2, .ref o), (3, .ref og), (4, .int (nI i))])
    (kk : ∀ (S1 : AS) (t1 : Nat) (z1 : Int64) (H1 : Heap) (locs1 : List Loc) (cells1 slots1 : Nat) (ls1 : Array Slot), AI S1 → qH D cI cC cL ad o bk kp og S1 t1 z1 H1 → va_S (fun q : Nat => s.heap.size ≤ q) s.heap H1 locs1 → cells1 ≤ cells + 1290 → slots1 ≤ slots + 9600 → lv_has ls1 9 [(0, .ref b), (1, .ref (ad 0)), (2, .ref o), (3, .ref og), (4, .int (nI i))] → W p l e room_1 s m #[Value.ref b] below meth c H1 locs1 cells1 slots1 Q (F0 m 1308 ls1 [])) : W p l e room_1 s m #[Value.ref b] below meth c H locs cells slots Q (F0 m 633 ls []) := by
  obtain ⟨hx, hb, hml, hown, hts, hX, hbl, hK, hKL, hZ, hN1, hN2, hN3, hAp⟩ := id C
  obtain ⟨hj, hA0, hAo, hAbk, hAkp, hAog, ha1, ha2, ha3, ha4, d1, d2, d3, e1, e2, e3⟩ := id hAp
  obtain ⟨hW, hM, hOut⟩ := hq
  have hbA : ¬ (fun q : Nat => s.heap.size ≤ q) b := Nat.not_le.mpr hbl
  refine lv_aload_n hx hb dL_law_633 rfl (lv_at hl 1 rfl) ?_
  refine lv_aload_n hx hb dL_law_634 rfl (lv_at hl 0 rfl) ?_
  refine lv_iload hx hb dL_law_635 (lv_at hl 4 rfl) ?_
  refine xn_iconst (v := 1) hx hb dL_law_637 (by decide) ?_
  refine xn_iadd hx hb dL_law_638 ?_
  refine q_sld hx hb hX hbl hbA hS (by omega) (by omega) dL_law_639 ?_
  refine lv_aload_n hx hb dL_law_640 rfl (lv_at hl 0 rfl) ?_
  refine lv_iload hx hb dL_law_641 (lv_at hl 4 rfl) ?_
  refine xn_iconst (v := 2) hx hb dL_law_643 (by decide) ?_
  refine xn_iadd hx hb dL_law_644 ?_
  refine q_sld hx hb hX hbl hbA hS (by omega) (by omega) dL_law_645 ?_
  refine lv_aload_n hx hb dL_law_646 rfl (lv_at hl 3 rfl) ?_
  refine vx_calli (vx_runSX (As := [.ref (ad 0), .int (xs (i + 1)), .int (xs (i + 2)), .ref og]) (rest := []) ⟨hx, hb, hml, hown, hts⟩ (wRing_ l hst9 D cI cC cL ad hj S hI og ha4 z (xs (i + 1)) (xs (i + 2))) (vx_cwSW 4 hts gL_law_L_ring rfl rfl rfl (by decide +kernel) ⟨Nat.le_of_ble_eq_true rfl, Nat.le_of_ble_eq_true rfl⟩) (xWL_PS hK hKL ((hZ.kept hS.2.1).narrow (fun q9 h9 => qAO_in hAp h9)) hN1 hN2 hN3 (P := fun H9 => xXW D cI cC ad S H9 ∧ xOut D cL og z H9) ⟨hW, hOut⟩) rfl rfl hl.1 rfl (lv_room (Nat.le_of_ble_eq_true rfl)) dL_law_647 ⟨(by show cells + 10 ≤ 694872; omega), (by show slots + 60 ≤ 7011487; omega)⟩) hS (fun q9 _ h9 => qAO_in hAp h9) (fun q9 h9 => qAO_in hAp h9) (fun q9 _ h9 => absurd h9 id) (fun E ce q9 u t9 H1 locs1 _ _ _ hB => absurd hB id) (fun k9 u t9 H1 locs1 ht9 _ hp hF hz9 hk9 hS => ?_)
  have hF : xXW D cI cC ad (nRing S (xs (i + 1)) (xs (i + 2))) t9.heap ∧ xOut D cL og u t9.heap := hF
  rw [ht9] at hF
  obtain ⟨hW, hOut⟩ := hF
  obtain ⟨hk0, hu⟩ := hp
  subst hk0
  have hM := hM.kept hk9 (qAO_n hAp)
  refine lv_istore (lv' := [(5, .int (nI (tRing S (xs (i + 1)) (xs (i + 2))))), (0, .ref b), (1, .ref (ad 0)), (2, .ref o), (3, .ref og), (4, .int (nI i))]) hx hb dL_law_650 hl (by decide) rfl (fun ls hl => ?_)
  refine lv_aload_n hx hb dL_law_652 rfl (lv_at hl 3 rfl) ?_
  refine lv_aload_n hx hb dL_law_653 rfl (lv_at hl 1 rfl) ?_
  refine lv_iload hx hb dL_law_654 (lv_at hl 5 rfl) ?_
  refine xn_iconst (v := 1) hx hb dL_law_656 (by decide) ?_
  refine xn_iadd hx hb dL_law_657 ?_
  refine q_sld hx hb hX hbl hbA hS (by omega) (by omega) dL_law_658 ?_
  refine lv_aload_n hx hb dL_law_659 rfl (lv_at hl 1 rfl) ?_
  refine lv_iload hx hb dL_law_660 (lv_at hl 5 rfl) ?_
  refine xn_iconst (v := 2) hx hb dL_law_662 (by decide) ?_
  refine xn_iadd hx hb dL_law_663 ?_
  refine q_sld hx hb hX hbl hbA hS (by omega) (by omega) dL_law_664 ?_
  refine xmI (As := [.int (xs (i + 1)), .int (xs (i + 2))]) (rest := []) ⟨hx, hb, hml, hown, hts⟩ (mRing_ l D cI cC o bk kp d1 d2 d3 t0 S hI H1.size (xs (i + 1)) (xs (i + 2))) (cwV 2 hts gL_law_X4_ring rfl rfl rfl (by decide +kernel) ⟨Nat.le_of_ble_eq_true rfl, Nat.le_of_ble_eq_true rfl⟩) hK ⟨rfl, hM⟩ hM.recv_ rfl hl.1 rfl (Nat.le_of_ble_eq_true rfl) dL_law_665 ⟨(by show cells + 10 + 900 ≤ 694872; omega), (by show slots + 60 + 7200 ≤ 7011487; omega)⟩ hS (fun q9 h9 => qMA_in hAp hS.1 h9) (fun q9 h9 => qMA_in hAp hS.1 h9) (fun r9 u9 H2 locs2 hp2 hM hz8 hk8 hS => ?_)
  have hW := hW.kept hk8 (qMA_n hAp)
  have hOut : xOut D cL og u H2 := va_at.kept hOut (hk8 og (va_at.lt hOut) (qMA_og hAp (va_at.lt hOut)))
  refine lv_istore (lv' := [(6, .int r9), (5, .int (nI (tRing S (xs (i + 1)) (xs (i + 2))))), (0, .ref b), (1, .ref (ad 0)), (2, .ref o), (3, .ref og), (4, .int (nI i))]) hx hb dL_law_668 hl (by decide) rfl (fun ls hl => ?_)
  refine lv_aload_n hx hb dL_law_670 rfl (lv_at hl 4 rfl) ?_
  obtain ⟨bf, hMo, hb1, hb2⟩ := id hM
  refine xcV (As := []) (rest := []) ⟨hx, hb, hml, hown, hts⟩ (cX4_thrown_ l D cI cC o bk kp _ _ _ _ _ _ _) (cwV 0 hts gL_law_X4_thrown rfl rfl rfl (by decide +kernel) ⟨Nat.le_of_ble_eq_true rfl, Nat.le_of_ble_eq_true rfl⟩) hK hMo hM.recv_ rfl hl.1 rfl (Nat.le_of_ble_eq_true rfl) dL_law_671 ⟨(by show cells + 10 + 900 ≤ 694872; omega), (by show slots + 60 + 7200 ≤ 7011487; omega)⟩ (fun x9 ex => ?_)
  subst ex
  refine lv_iload hx hb dL_law_674 (lv_at hl 1 rfl) ?_
  refine lv_icmp_eq (tgt := 681) hx hb dL_law_676 (by decide) (fun _ => ?_) (fun h9 => absurd rfl h9)
  refine lv_iload hx hb dL_law_681 (lv_at hl 1 rfl) ?_
  refine lv_if_ne (tgt := 698) hx hb dL_law_683 (by decide) (fun _ => ?_) (fun h9 => ?_)
  · refine lv_goto (tgt := 1308) hx hb dL_law_698 (by decide) ?_
    exact kk _ _ _ _ _ _ _ _ (AI_ring hI _ _) ⟨hW, hM, hOut⟩ hS (by omega) (by omega) (lv_sub hl [2, 3, 4, 5, 6] rfl)
  · have ht : tRing S (xs (i + 1)) (xs (i + 2)) = 0 := q_nI0 h9 (by first | exact t1_lt | exact t2_lt | exact t3_lt)
    have hr9 := hp2 ht
    subst hr9
    have hu := hu ht
    subst hu
    refine lv_aload_n hx hb dL_law_686 rfl (lv_at hl 5 rfl) ?_
    refine xn_iconst (v := 0) hx hb dL_law_687 (by decide) ?_
    refine x_laldO hx hb hKL hOut dL_law_688 ?_
    refine lv_iload hx hb dL_law_689 (lv_at hl 0 rfl) ?_
    refine lv_i2l hx hb dL_law_691 rfl ?_
    refine W.lcmp hx hb dL_law_692 ?_
    rw [q_lcmp]
    refine lv_if_eq (tgt := 698) hx hb dL_law_693 (by decide) (fun _ => ?_) (fun h8 => absurd rfl h8)
    refine lv_goto (tgt := 1308) hx hb dL_law_698 (by decide) ?_
    exact kk _ _ _ _ _ _ _ _ (AI_ring hI _ _) ⟨hW, hM, hOut⟩ hS (by omega) (by omega) (lv_sub hl [2, 3, 4, 5, 6] rfl)

set_option maxRecDepth 100000 in
set_option maxHeartbeats 4000000 in
theorem qBell_ {p : Program} {l : Launch} {e : Env} {s : State} {m : MethodId} {below : List Frame} {meth : Method} {c : Code} {b L i : Nat} {xs : Nat → Int32} {D : va_G} {cI cC cL : ClassId} {ad : Nat → Nat} {o bk kp og : Nat} {S : AS} {t0 : Nat} {z : Int64} {H : Heap} {locs : List Loc} {cells slots : Nat} {Q : State → Prop} {ls : Array Slot} (hst9 : l.stackTraces = false) (C : qC p s m c b L xs D cI cC cL ad o bk kp og) (hI : AI S) (hi : i + 2 < L) (hL : L ≤ 1536) (hq : qH D cI cC cL ad o bk kp og S t0 z H) (hS : va_S (fun q : Nat => s.heap.size ≤ q) s.heap H locs) (hc : cells + 1290 ≤ 694872) (hs : slots + 9600 ≤ 7011487) (hl : lv_has ls 9 [(0, .ref b), (1, .ref (ad 0)), (2, .ref o), (3, .ref og), (4, .int (nI i))])
    (kk : ∀ (S1 : AS) (t1 : Nat) (z1 : Int64) (H1 : Heap) (locs1 : List Loc) (cells1 slots1 : Nat) (ls1 : Array Slot), AI S1 → qH D cI cC cL ad o bk kp og S1 t1 z1 H1 → va_S (fun q : Nat => s.heap.size ≤ q) s.heap H1 locs1 → cells1 ≤ cells + 1290 → slots1 ≤ slots + 9600 → lv_has ls1 9 [(0, .ref b), (1, .ref (ad 0)), (2, .ref o), (3, .ref og), (4, .int (nI i))] → W p l e room_1 s m #[Value.ref b] below meth c H1 locs1 cells1 slots1 Q (F0 m 1308 ls1 [])) : W p l e room_1 s m #[Value.ref b] below meth c H locs cells slots Q (F0 m 701 ls []) := by
  obtain ⟨hx, hb, hml, hown, hts, hX, hbl, hK, hKL, hZ, hN1, hN2, hN3, hAp⟩ := id C
  obtain ⟨hj, hA0, hAo, hAbk, hAkp, hAog, ha1, ha2, ha3, ha4, d1, d2, d3, e1, e2, e3⟩ := id hAp
  obtain ⟨hW, hM, hOut⟩ := hq
  have hbA : ¬ (fun q : Nat => s.heap.size ≤ q) b := Nat.not_le.mpr hbl
  refine lv_aload_n hx hb dL_law_701 rfl (lv_at hl 1 rfl) ?_
  refine lv_aload_n hx hb dL_law_702 rfl (lv_at hl 0 rfl) ?_
  refine lv_iload hx hb dL_law_703 (lv_at hl 4 rfl) ?_
  refine xn_iconst (v := 1) hx hb dL_law_705 (by decide) ?_
  refine xn_iadd hx hb dL_law_706 ?_
  refine q_sld hx hb hX hbl hbA hS (by omega) (by omega) dL_law_707 ?_
  refine lv_aload_n hx hb dL_law_708 rfl (lv_at hl 0 rfl) ?_
  refine lv_iload hx hb dL_law_709 (lv_at hl 4 rfl) ?_
  refine xn_iconst (v := 2) hx hb dL_law_711 (by decide) ?_
  refine xn_iadd hx hb dL_law_712 ?_
  refine q_sld hx hb hX hbl hbA hS (by omega) (by omega) dL_law_713 ?_
  refine lv_aload_n hx hb dL_law_714 rfl (lv_at hl 3 rfl) ?_
  refine vx_calli (vx_runSX (As := [.ref (ad 0), .int (xs (i + 1)), .int (xs (i + 2)), .ref og]) (rest := []) ⟨hx, hb, hml, hown, hts⟩ (wBell_ l hst9 D cI cC cL ad hj S hI og ha4 z (xs (i + 1)) (xs (i + 2))) (vx_cwSW 4 hts gL_law_L_bell rfl rfl rfl (by decide +kernel) ⟨Nat.le_of_ble_eq_true rfl, Nat.le_of_ble_eq_true rfl⟩) (xWL_PS hK hKL ((hZ.kept hS.2.1).narrow (fun q9 h9 => qAO_in hAp h9)) hN1 hN2 hN3 (P := fun H9 => xXW D cI cC ad S H9 ∧ xOut D cL og z H9) ⟨hW, hOut⟩) rfl rfl hl.1 rfl (lv_room (Nat.le_of_ble_eq_true rfl)) dL_law_715 ⟨(by show cells + 10 ≤ 694872; omega), (by show slots + 60 ≤ 7011487; omega)⟩) hS (fun q9 _ h9 => qAO_in hAp h9) (fun q9 h9 => qAO_in hAp h9) (fun q9 _ h9 => absurd h9 id) (fun E ce q9 u t9 H1 locs1 _ _ _ hB => absurd hB id) (fun k9 u t9 H1 locs1 ht9 _ hp hF hz9 hk9 hS => ?_)
  have hF : xXW D cI cC ad (S) t9.heap ∧ xOut D cL og u t9.heap := hF
  rw [ht9] at hF
  obtain ⟨hW, hOut⟩ := hF
  obtain ⟨hk0, hu⟩ := hp
  subst hk0
  have hM := hM.kept hk9 (qAO_n hAp)
  refine lv_istore (lv' := [(5, .int (nI (tBell S (xs (i + 1)) (xs (i + 2))))), (0, .ref b), (1, .ref (ad 0)), (2, .ref o), (3, .ref og), (4, .int (nI i))]) hx hb dL_law_718 hl (by decide) rfl (fun ls hl => ?_)
  refine lv_aload_n hx hb dL_law_720 rfl (lv_at hl 3 rfl) ?_
  refine lv_aload_n hx hb dL_law_721 rfl (lv_at hl 1 rfl) ?_
  refine lv_iload hx hb dL_law_722 (lv_at hl 5 rfl) ?_
  refine xn_iconst (v := 1) hx hb dL_law_724 (by decide) ?_
  refine xn_iadd hx hb dL_law_725 ?_
  refine q_sld hx hb hX hbl hbA hS (by omega) (by omega) dL_law_726 ?_
  refine lv_aload_n hx hb dL_law_727 rfl (lv_at hl 1 rfl) ?_
  refine lv_iload hx hb dL_law_728 (lv_at hl 5 rfl) ?_
  refine xn_iconst (v := 2) hx hb dL_law_730 (by decide) ?_
  refine xn_iadd hx hb dL_law_731 ?_
  refine q_sld hx hb hX hbl hbA hS (by omega) (by omega) dL_law_732 ?_
  refine xmI (As := [.int (xs (i + 1)), .int (xs (i + 2))]) (rest := []) ⟨hx, hb, hml, hown, hts⟩ (mBell_ l D cI cC o bk kp d1 d2 d3 t0 S hI H1.size (xs (i + 1)) (xs (i + 2))) (cwV 2 hts gL_law_X4_bell rfl rfl rfl (by decide +kernel) ⟨Nat.le_of_ble_eq_true rfl, Nat.le_of_ble_eq_true rfl⟩) hK ⟨rfl, hM⟩ hM.recv_ rfl hl.1 rfl (Nat.le_of_ble_eq_true rfl) dL_law_733 ⟨(by show cells + 10 + 900 ≤ 694872; omega), (by show slots + 60 + 7200 ≤ 7011487; omega)⟩ hS (fun q9 h9 => qMA_in hAp hS.1 h9) (fun q9 h9 => qMA_in hAp hS.1 h9) (fun r9 u9 H2 locs2 hp2 hM hz8 hk8 hS => ?_)
  have hW := hW.kept hk8 (qMA_n hAp)
  have hOut : xOut D cL og u H2 := va_at.kept hOut (hk8 og (va_at.lt hOut) (qMA_og hAp (va_at.lt hOut)))
  refine lv_istore (lv' := [(6, .int r9), (5, .int (nI (tBell S (xs (i + 1)) (xs (i + 2))))), (0, .ref b), (1, .ref (ad 0)), (2, .ref o), (3, .ref og), (4, .int (nI i))]) hx hb dL_law_736 hl (by decide) rfl (fun ls hl => ?_)
  refine lv_aload_n hx hb dL_law_738 rfl (lv_at hl 4 rfl) ?_
  obtain ⟨bf, hMo, hb1, hb2⟩ := id hM
  refine xcV (As := []) (rest := []) ⟨hx, hb, hml, hown, hts⟩ (cX4_thrown_ l D cI cC o bk kp _ _ _ _ _ _ _) (cwV 0 hts gL_law_X4_thrown rfl rfl rfl (by decide +kernel) ⟨Nat.le_of_ble_eq_true rfl, Nat.le_of_ble_eq_true rfl⟩) hK hMo hM.recv_ rfl hl.1 rfl (Nat.le_of_ble_eq_true rfl) dL_law_739 ⟨(by show cells + 10 + 900 ≤ 694872; omega), (by show slots + 60 + 7200 ≤ 7011487; omega)⟩ (fun x9 ex => ?_)
  subst ex
  refine lv_iload hx hb dL_law_742 (lv_at hl 1 rfl) ?_
  refine lv_icmp_eq (tgt := 749) hx hb dL_law_744 (by decide) (fun _ => ?_) (fun h9 => absurd rfl h9)
  refine lv_iload hx hb dL_law_749 (lv_at hl 1 rfl) ?_
  refine lv_if_ne (tgt := 766) hx hb dL_law_751 (by decide) (fun _ => ?_) (fun h9 => ?_)
  · refine lv_goto (tgt := 1308) hx hb dL_law_766 (by decide) ?_
    exact kk _ _ _ _ _ _ _ _ (hI) ⟨hW, hM, hOut⟩ hS (by omega) (by omega) (lv_sub hl [2, 3, 4, 5, 6] rfl)
  · have ht : tBell S (xs (i + 1)) (xs (i + 2)) = 0 := q_nI0 h9 (by first | exact t1_lt | exact t2_lt | exact t3_lt)
    have hr9 := hp2 ht
    subst hr9
    have hu := hu ht
    subst hu
    refine lv_aload_n hx hb dL_law_754 rfl (lv_at hl 5 rfl) ?_
    refine xn_iconst (v := 0) hx hb dL_law_755 (by decide) ?_
    refine x_laldO hx hb hKL hOut dL_law_756 ?_
    refine lv_iload hx hb dL_law_757 (lv_at hl 0 rfl) ?_
    refine lv_i2l hx hb dL_law_759 rfl ?_
    refine W.lcmp hx hb dL_law_760 ?_
    rw [q_lcmp]
    refine lv_if_eq (tgt := 766) hx hb dL_law_761 (by decide) (fun _ => ?_) (fun h8 => absurd rfl h8)
    refine lv_goto (tgt := 1308) hx hb dL_law_766 (by decide) ?_
    exact kk _ _ _ _ _ _ _ _ (hI) ⟨hW, hM, hOut⟩ hS (by omega) (by omega) (lv_sub hl [2, 3, 4, 5, 6] rfl)

set_option maxRecDepth 100000 in
set_option maxHeartbeats 4000000 in
theorem qTold_ {p : Program} {l : Launch} {e : Env} {s : State} {m : MethodId} {below : List Frame} {meth : Method} {c : Code} {b L i : Nat} {xs : Nat → Int32} {D : va_G} {cI cC cL : ClassId} {ad : Nat → Nat} {o bk kp og : Nat} {S : AS} {t0 : Nat} {z : Int64} {H : Heap} {locs : List Loc} {cells slots : Nat} {Q : State → Prop} {ls : Array Slot} (hst9 : l.stackTraces = false) (C : qC p s m c b L xs D cI cC cL ad o bk kp og) (hI : AI S) (hi : i + 2 < L) (hL : L ≤ 1536) (hq : qH D cI cC cL ad o bk kp og S t0 z H) (hS : va_S (fun q : Nat => s.heap.size ≤ q) s.heap H locs) (hc : cells + 1290 ≤ 694872) (hs : slots + 9600 ≤ 7011487) (hl : lv_has ls 9 [(0, .ref b), (1, .ref (ad 0)), (2, .ref o), (3, .ref og), (4, .int (nI i))])
    (kk : ∀ (S1 : AS) (t1 : Nat) (z1 : Int64) (H1 : Heap) (locs1 : List Loc) (cells1 slots1 : Nat) (ls1 : Array Slot), AI S1 → qH D cI cC cL ad o bk kp og S1 t1 z1 H1 → va_S (fun q : Nat => s.heap.size ≤ q) s.heap H1 locs1 → cells1 ≤ cells + 1290 → slots1 ≤ slots + 9600 → lv_has ls1 9 [(0, .ref b), (1, .ref (ad 0)), (2, .ref o), (3, .ref og), (4, .int (nI i))] → W p l e room_1 s m #[Value.ref b] below meth c H1 locs1 cells1 slots1 Q (F0 m 1308 ls1 [])) : W p l e room_1 s m #[Value.ref b] below meth c H locs cells slots Q (F0 m 769 ls []) := by
  obtain ⟨hx, hb, hml, hown, hts, hX, hbl, hK, hKL, hZ, hN1, hN2, hN3, hAp⟩ := id C
  obtain ⟨hj, hA0, hAo, hAbk, hAkp, hAog, ha1, ha2, ha3, ha4, d1, d2, d3, e1, e2, e3⟩ := id hAp
  obtain ⟨hW, hM, hOut⟩ := hq
  have hbA : ¬ (fun q : Nat => s.heap.size ≤ q) b := Nat.not_le.mpr hbl
  refine lv_aload_n hx hb dL_law_769 rfl (lv_at hl 1 rfl) ?_
  refine lv_aload_n hx hb dL_law_770 rfl (lv_at hl 0 rfl) ?_
  refine lv_iload hx hb dL_law_771 (lv_at hl 4 rfl) ?_
  refine xn_iconst (v := 1) hx hb dL_law_773 (by decide) ?_
  refine xn_iadd hx hb dL_law_774 ?_
  refine q_sld hx hb hX hbl hbA hS (by omega) (by omega) dL_law_775 ?_
  refine lv_aload_n hx hb dL_law_776 rfl (lv_at hl 0 rfl) ?_
  refine lv_iload hx hb dL_law_777 (lv_at hl 4 rfl) ?_
  refine xn_iconst (v := 2) hx hb dL_law_779 (by decide) ?_
  refine xn_iadd hx hb dL_law_780 ?_
  refine q_sld hx hb hX hbl hbA hS (by omega) (by omega) dL_law_781 ?_
  refine lv_aload_n hx hb dL_law_782 rfl (lv_at hl 3 rfl) ?_
  refine vx_calli (vx_runSX (As := [.ref (ad 0), .int (xs (i + 1)), .int (xs (i + 2)), .ref og]) (rest := []) ⟨hx, hb, hml, hown, hts⟩ (wTold_ l hst9 D cI cC cL ad hj S hI og ha4 z (xs (i + 1)) (xs (i + 2))) (vx_cwSW 4 hts gL_law_L_told rfl rfl rfl (by decide +kernel) ⟨Nat.le_of_ble_eq_true rfl, Nat.le_of_ble_eq_true rfl⟩) (xWL_PS hK hKL ((hZ.kept hS.2.1).narrow (fun q9 h9 => qAO_in hAp h9)) hN1 hN2 hN3 (P := fun H9 => xXW D cI cC ad S H9 ∧ xOut D cL og z H9) ⟨hW, hOut⟩) rfl rfl hl.1 rfl (lv_room (Nat.le_of_ble_eq_true rfl)) dL_law_783 ⟨(by show cells + 10 ≤ 694872; omega), (by show slots + 60 ≤ 7011487; omega)⟩) hS (fun q9 _ h9 => qAO_in hAp h9) (fun q9 h9 => qAO_in hAp h9) (fun q9 _ h9 => absurd h9 id) (fun E ce q9 u t9 H1 locs1 _ _ _ hB => absurd hB id) (fun k9 u t9 H1 locs1 ht9 _ hp hF hz9 hk9 hS => ?_)
  have hF : xXW D cI cC ad (S) t9.heap ∧ xOut D cL og u t9.heap := hF
  rw [ht9] at hF
  obtain ⟨hW, hOut⟩ := hF
  obtain ⟨hk0, hu⟩ := hp
  subst hk0
  have hM := hM.kept hk9 (qAO_n hAp)
  refine lv_istore (lv' := [(5, .int (nI (tTold S (xs (i + 1)) (xs (i + 2))))), (0, .ref b), (1, .ref (ad 0)), (2, .ref o), (3, .ref og), (4, .int (nI i))]) hx hb dL_law_786 hl (by decide) rfl (fun ls hl => ?_)
  refine lv_aload_n hx hb dL_law_788 rfl (lv_at hl 3 rfl) ?_
  refine lv_aload_n hx hb dL_law_789 rfl (lv_at hl 1 rfl) ?_
  refine lv_iload hx hb dL_law_790 (lv_at hl 5 rfl) ?_
  refine xn_iconst (v := 1) hx hb dL_law_792 (by decide) ?_
  refine xn_iadd hx hb dL_law_793 ?_
  refine q_sld hx hb hX hbl hbA hS (by omega) (by omega) dL_law_794 ?_
  refine lv_aload_n hx hb dL_law_795 rfl (lv_at hl 1 rfl) ?_
  refine lv_iload hx hb dL_law_796 (lv_at hl 5 rfl) ?_
  refine xn_iconst (v := 2) hx hb dL_law_798 (by decide) ?_
  refine xn_iadd hx hb dL_law_799 ?_
  refine q_sld hx hb hX hbl hbA hS (by omega) (by omega) dL_law_800 ?_
  refine xmI (As := [.int (xs (i + 1)), .int (xs (i + 2))]) (rest := []) ⟨hx, hb, hml, hown, hts⟩ (mTold_ l D cI cC o bk kp d1 d2 d3 t0 S hI H1.size (xs (i + 1)) (xs (i + 2))) (cwV 2 hts gL_law_X4_told rfl rfl rfl (by decide +kernel) ⟨Nat.le_of_ble_eq_true rfl, Nat.le_of_ble_eq_true rfl⟩) hK ⟨rfl, hM⟩ hM.recv_ rfl hl.1 rfl (Nat.le_of_ble_eq_true rfl) dL_law_801 ⟨(by show cells + 10 + 900 ≤ 694872; omega), (by show slots + 60 + 7200 ≤ 7011487; omega)⟩ hS (fun q9 h9 => qMA_in hAp hS.1 h9) (fun q9 h9 => qMA_in hAp hS.1 h9) (fun r9 u9 H2 locs2 hp2 hM hz8 hk8 hS => ?_)
  have hW := hW.kept hk8 (qMA_n hAp)
  have hOut : xOut D cL og u H2 := va_at.kept hOut (hk8 og (va_at.lt hOut) (qMA_og hAp (va_at.lt hOut)))
  refine lv_istore (lv' := [(6, .int r9), (5, .int (nI (tTold S (xs (i + 1)) (xs (i + 2))))), (0, .ref b), (1, .ref (ad 0)), (2, .ref o), (3, .ref og), (4, .int (nI i))]) hx hb dL_law_804 hl (by decide) rfl (fun ls hl => ?_)
  refine lv_aload_n hx hb dL_law_806 rfl (lv_at hl 4 rfl) ?_
  obtain ⟨bf, hMo, hb1, hb2⟩ := id hM
  refine xcV (As := []) (rest := []) ⟨hx, hb, hml, hown, hts⟩ (cX4_thrown_ l D cI cC o bk kp _ _ _ _ _ _ _) (cwV 0 hts gL_law_X4_thrown rfl rfl rfl (by decide +kernel) ⟨Nat.le_of_ble_eq_true rfl, Nat.le_of_ble_eq_true rfl⟩) hK hMo hM.recv_ rfl hl.1 rfl (Nat.le_of_ble_eq_true rfl) dL_law_807 ⟨(by show cells + 10 + 900 ≤ 694872; omega), (by show slots + 60 + 7200 ≤ 7011487; omega)⟩ (fun x9 ex => ?_)
  subst ex
  refine lv_iload hx hb dL_law_810 (lv_at hl 1 rfl) ?_
  refine lv_icmp_eq (tgt := 817) hx hb dL_law_812 (by decide) (fun _ => ?_) (fun h9 => absurd rfl h9)
  refine lv_iload hx hb dL_law_817 (lv_at hl 1 rfl) ?_
  refine lv_if_ne (tgt := 834) hx hb dL_law_819 (by decide) (fun _ => ?_) (fun h9 => ?_)
  · refine lv_goto (tgt := 1308) hx hb dL_law_834 (by decide) ?_
    exact kk _ _ _ _ _ _ _ _ (hI) ⟨hW, hM, hOut⟩ hS (by omega) (by omega) (lv_sub hl [2, 3, 4, 5, 6] rfl)
  · have ht : tTold S (xs (i + 1)) (xs (i + 2)) = 0 := q_nI0 h9 (by first | exact t1_lt | exact t2_lt | exact t3_lt)
    have hr9 := hp2 ht
    subst hr9
    have hu := hu ht
    subst hu
    refine lv_aload_n hx hb dL_law_822 rfl (lv_at hl 5 rfl) ?_
    refine xn_iconst (v := 0) hx hb dL_law_823 (by decide) ?_
    refine x_laldO hx hb hKL hOut dL_law_824 ?_
    refine lv_iload hx hb dL_law_825 (lv_at hl 0 rfl) ?_
    refine lv_i2l hx hb dL_law_827 rfl ?_
    refine W.lcmp hx hb dL_law_828 ?_
    rw [q_lcmp]
    refine lv_if_eq (tgt := 834) hx hb dL_law_829 (by decide) (fun _ => ?_) (fun h8 => absurd rfl h8)
    refine lv_goto (tgt := 1308) hx hb dL_law_834 (by decide) ?_
    exact kk _ _ _ _ _ _ _ _ (hI) ⟨hW, hM, hOut⟩ hS (by omega) (by omega) (lv_sub hl [2, 3, 4, 5, 6] rfl)

set_option maxRecDepth 100000 in
set_option maxHeartbeats 4000000 in
theorem qRound_ {p : Program} {l : Launch} {e : Env} {s : State} {m : MethodId} {below : List Frame} {meth : Method} {c : Code} {b L i : Nat} {xs : Nat → Int32} {D : va_G} {cI cC cL : ClassId} {ad : Nat → Nat} {o bk kp og : Nat} {S : AS} {t0 : Nat} {z : Int64} {H : Heap} {locs : List Loc} {cells slots : Nat} {Q : State → Prop} {ls : Array Slot} (hst9 : l.stackTraces = false) (C : qC p s m c b L xs D cI cC cL ad o bk kp og) (hI : AI S) (hi : i + 2 < L) (hL : L ≤ 1536) (hq : qH D cI cC cL ad o bk kp og S t0 z H) (hS : va_S (fun q : Nat => s.heap.size ≤ q) s.heap H locs) (hc : cells + 1290 ≤ 694872) (hs : slots + 9600 ≤ 7011487) (hl : lv_has ls 9 [(0, .ref b), (1, .ref (ad 0)), (2, .ref o), (3, .ref og), (4, .int (nI i))])
    (kk : ∀ (S1 : AS) (t1 : Nat) (z1 : Int64) (H1 : Heap) (locs1 : List Loc) (cells1 slots1 : Nat) (ls1 : Array Slot), AI S1 → qH D cI cC cL ad o bk kp og S1 t1 z1 H1 → va_S (fun q : Nat => s.heap.size ≤ q) s.heap H1 locs1 → cells1 ≤ cells + 1290 → slots1 ≤ slots + 9600 → lv_has ls1 9 [(0, .ref b), (1, .ref (ad 0)), (2, .ref o), (3, .ref og), (4, .int (nI i))] → W p l e room_1 s m #[Value.ref b] below meth c H1 locs1 cells1 slots1 Q (F0 m 1308 ls1 [])) : W p l e room_1 s m #[Value.ref b] below meth c H locs cells slots Q (F0 m 837 ls []) := by
  obtain ⟨hx, hb, hml, hown, hts, hX, hbl, hK, hKL, hZ, hN1, hN2, hN3, hAp⟩ := id C
  obtain ⟨hj, hA0, hAo, hAbk, hAkp, hAog, ha1, ha2, ha3, ha4, d1, d2, d3, e1, e2, e3⟩ := id hAp
  obtain ⟨hW, hM, hOut⟩ := hq
  have hbA : ¬ (fun q : Nat => s.heap.size ≤ q) b := Nat.not_le.mpr hbl
  refine lv_aload_n hx hb dL_law_837 rfl (lv_at hl 1 rfl) ?_
  refine lv_aload_n hx hb dL_law_838 rfl (lv_at hl 0 rfl) ?_
  refine lv_iload hx hb dL_law_839 (lv_at hl 4 rfl) ?_
  refine xn_iconst (v := 1) hx hb dL_law_841 (by decide) ?_
  refine xn_iadd hx hb dL_law_842 ?_
  refine q_sld hx hb hX hbl hbA hS (by omega) (by omega) dL_law_843 ?_
  refine lv_aload_n hx hb dL_law_844 rfl (lv_at hl 0 rfl) ?_
  refine lv_iload hx hb dL_law_845 (lv_at hl 4 rfl) ?_
  refine xn_iconst (v := 2) hx hb dL_law_847 (by decide) ?_
  refine xn_iadd hx hb dL_law_848 ?_
  refine q_sld hx hb hX hbl hbA hS (by omega) (by omega) dL_law_849 ?_
  refine lv_aload_n hx hb dL_law_850 rfl (lv_at hl 3 rfl) ?_
  refine vx_calli (vx_runSX (As := [.ref (ad 0), .int (xs (i + 1)), .int (xs (i + 2)), .ref og]) (rest := []) ⟨hx, hb, hml, hown, hts⟩ (wRound_ l hst9 D cI cC cL ad hj S hI og ha4 z (xs (i + 1)) (xs (i + 2))) (vx_cwSW 4 hts gL_law_L_round rfl rfl rfl (by decide +kernel) ⟨Nat.le_of_ble_eq_true rfl, Nat.le_of_ble_eq_true rfl⟩) (xWL_PS hK hKL ((hZ.kept hS.2.1).narrow (fun q9 h9 => qAO_in hAp h9)) hN1 hN2 hN3 (P := fun H9 => xXW D cI cC ad S H9 ∧ xOut D cL og z H9) ⟨hW, hOut⟩) rfl rfl hl.1 rfl (lv_room (Nat.le_of_ble_eq_true rfl)) dL_law_851 ⟨(by show cells + 10 ≤ 694872; omega), (by show slots + 60 ≤ 7011487; omega)⟩) hS (fun q9 _ h9 => qAO_in hAp h9) (fun q9 h9 => qAO_in hAp h9) (fun q9 _ h9 => absurd h9 id) (fun E ce q9 u t9 H1 locs1 _ _ _ hB => absurd hB id) (fun k9 u t9 H1 locs1 ht9 _ hp hF hz9 hk9 hS => ?_)
  have hF : xXW D cI cC ad (S) t9.heap ∧ xOut D cL og u t9.heap := hF
  rw [ht9] at hF
  obtain ⟨hW, hOut⟩ := hF
  obtain ⟨hk0, hu⟩ := hp
  subst hk0
  have hM := hM.kept hk9 (qAO_n hAp)
  refine lv_istore (lv' := [(5, .int (nI (tBell S (xs (i + 1)) (xs (i + 2))))), (0, .ref b), (1, .ref (ad 0)), (2, .ref o), (3, .ref og), (4, .int (nI i))]) hx hb dL_law_854 hl (by decide) rfl (fun ls hl => ?_)
  refine lv_aload_n hx hb dL_law_856 rfl (lv_at hl 3 rfl) ?_
  refine lv_aload_n hx hb dL_law_857 rfl (lv_at hl 1 rfl) ?_
  refine lv_iload hx hb dL_law_858 (lv_at hl 5 rfl) ?_
  refine xn_iconst (v := 1) hx hb dL_law_860 (by decide) ?_
  refine xn_iadd hx hb dL_law_861 ?_
  refine q_sld hx hb hX hbl hbA hS (by omega) (by omega) dL_law_862 ?_
  refine lv_aload_n hx hb dL_law_863 rfl (lv_at hl 1 rfl) ?_
  refine lv_iload hx hb dL_law_864 (lv_at hl 5 rfl) ?_
  refine xn_iconst (v := 2) hx hb dL_law_866 (by decide) ?_
  refine xn_iadd hx hb dL_law_867 ?_
  refine q_sld hx hb hX hbl hbA hS (by omega) (by omega) dL_law_868 ?_
  refine xmI (As := [.int (xs (i + 1)), .int (xs (i + 2))]) (rest := []) ⟨hx, hb, hml, hown, hts⟩ (mRound_ l D cI cC o bk kp d1 d2 d3 t0 S hI H1.size (xs (i + 1)) (xs (i + 2))) (cwV 2 hts gL_law_X4_round rfl rfl rfl (by decide +kernel) ⟨Nat.le_of_ble_eq_true rfl, Nat.le_of_ble_eq_true rfl⟩) hK ⟨rfl, hM⟩ hM.recv_ rfl hl.1 rfl (Nat.le_of_ble_eq_true rfl) dL_law_869 ⟨(by show cells + 10 + 900 ≤ 694872; omega), (by show slots + 60 + 7200 ≤ 7011487; omega)⟩ hS (fun q9 h9 => qMA_in hAp hS.1 h9) (fun q9 h9 => qMA_in hAp hS.1 h9) (fun r9 u9 H2 locs2 hp2 hM hz8 hk8 hS => ?_)
  have hW := hW.kept hk8 (qMA_n hAp)
  have hOut : xOut D cL og u H2 := va_at.kept hOut (hk8 og (va_at.lt hOut) (qMA_og hAp (va_at.lt hOut)))
  refine lv_istore (lv' := [(6, .int r9), (5, .int (nI (tBell S (xs (i + 1)) (xs (i + 2))))), (0, .ref b), (1, .ref (ad 0)), (2, .ref o), (3, .ref og), (4, .int (nI i))]) hx hb dL_law_872 hl (by decide) rfl (fun ls hl => ?_)
  refine lv_aload_n hx hb dL_law_874 rfl (lv_at hl 4 rfl) ?_
  obtain ⟨bf, hMo, hb1, hb2⟩ := id hM
  refine xcV (As := []) (rest := []) ⟨hx, hb, hml, hown, hts⟩ (cX4_thrown_ l D cI cC o bk kp _ _ _ _ _ _ _) (cwV 0 hts gL_law_X4_thrown rfl rfl rfl (by decide +kernel) ⟨Nat.le_of_ble_eq_true rfl, Nat.le_of_ble_eq_true rfl⟩) hK hMo hM.recv_ rfl hl.1 rfl (Nat.le_of_ble_eq_true rfl) dL_law_875 ⟨(by show cells + 10 + 900 ≤ 694872; omega), (by show slots + 60 + 7200 ≤ 7011487; omega)⟩ (fun x9 ex => ?_)
  subst ex
  refine lv_iload hx hb dL_law_878 (lv_at hl 1 rfl) ?_
  refine lv_icmp_eq (tgt := 885) hx hb dL_law_880 (by decide) (fun _ => ?_) (fun h9 => absurd rfl h9)
  refine lv_iload hx hb dL_law_885 (lv_at hl 1 rfl) ?_
  refine lv_if_ne (tgt := 902) hx hb dL_law_887 (by decide) (fun _ => ?_) (fun h9 => ?_)
  · refine lv_goto (tgt := 1308) hx hb dL_law_902 (by decide) ?_
    exact kk _ _ _ _ _ _ _ _ (hI) ⟨hW, hM, hOut⟩ hS (by omega) (by omega) (lv_sub hl [2, 3, 4, 5, 6] rfl)
  · have ht : tBell S (xs (i + 1)) (xs (i + 2)) = 0 := q_nI0 h9 (by first | exact t1_lt | exact t2_lt | exact t3_lt)
    have hr9 := hp2 ht
    subst hr9
    have hu := hu ht
    subst hu
    refine lv_aload_n hx hb dL_law_890 rfl (lv_at hl 5 rfl) ?_
    refine xn_iconst (v := 0) hx hb dL_law_891 (by decide) ?_
    refine x_laldO hx hb hKL hOut dL_law_892 ?_
    refine lv_iload hx hb dL_law_893 (lv_at hl 0 rfl) ?_
    refine lv_i2l hx hb dL_law_895 rfl ?_
    refine W.lcmp hx hb dL_law_896 ?_
    rw [q_lcmp]
    refine lv_if_eq (tgt := 902) hx hb dL_law_897 (by decide) (fun _ => ?_) (fun h8 => absurd rfl h8)
    refine lv_goto (tgt := 1308) hx hb dL_law_902 (by decide) ?_
    exact kk _ _ _ _ _ _ _ _ (hI) ⟨hW, hM, hOut⟩ hS (by omega) (by omega) (lv_sub hl [2, 3, 4, 5, 6] rfl)

set_option maxRecDepth 100000 in
set_option maxHeartbeats 4000000 in
theorem qApart_ {p : Program} {l : Launch} {e : Env} {s : State} {m : MethodId} {below : List Frame} {meth : Method} {c : Code} {b L i : Nat} {xs : Nat → Int32} {D : va_G} {cI cC cL : ClassId} {ad : Nat → Nat} {o bk kp og : Nat} {S : AS} {t0 : Nat} {z : Int64} {H : Heap} {locs : List Loc} {cells slots : Nat} {Q : State → Prop} {ls : Array Slot} (hst9 : l.stackTraces = false) (C : qC p s m c b L xs D cI cC cL ad o bk kp og) (hI : AI S) (hi : i + 2 < L) (hL : L ≤ 1536) (hq : qH D cI cC cL ad o bk kp og S t0 z H) (hS : va_S (fun q : Nat => s.heap.size ≤ q) s.heap H locs) (hc : cells + 1290 ≤ 694872) (hs : slots + 9600 ≤ 7011487) (hl : lv_has ls 9 [(0, .ref b), (1, .ref (ad 0)), (2, .ref o), (3, .ref og), (4, .int (nI i))])
    (kk : ∀ (S1 : AS) (t1 : Nat) (z1 : Int64) (H1 : Heap) (locs1 : List Loc) (cells1 slots1 : Nat) (ls1 : Array Slot), AI S1 → qH D cI cC cL ad o bk kp og S1 t1 z1 H1 → va_S (fun q : Nat => s.heap.size ≤ q) s.heap H1 locs1 → cells1 ≤ cells + 1290 → slots1 ≤ slots + 9600 → lv_has ls1 9 [(0, .ref b), (1, .ref (ad 0)), (2, .ref o), (3, .ref og), (4, .int (nI i))] → W p l e room_1 s m #[Value.ref b] below meth c H1 locs1 cells1 slots1 Q (F0 m 1308 ls1 [])) : W p l e room_1 s m #[Value.ref b] below meth c H locs cells slots Q (F0 m 905 ls []) := by
  obtain ⟨hx, hb, hml, hown, hts, hX, hbl, hK, hKL, hZ, hN1, hN2, hN3, hAp⟩ := id C
  obtain ⟨hj, hA0, hAo, hAbk, hAkp, hAog, ha1, ha2, ha3, ha4, d1, d2, d3, e1, e2, e3⟩ := id hAp
  obtain ⟨hW, hM, hOut⟩ := hq
  have hbA : ¬ (fun q : Nat => s.heap.size ≤ q) b := Nat.not_le.mpr hbl
  refine lv_aload_n hx hb dL_law_905 rfl (lv_at hl 1 rfl) ?_
  refine lv_aload_n hx hb dL_law_906 rfl (lv_at hl 0 rfl) ?_
  refine lv_iload hx hb dL_law_907 (lv_at hl 4 rfl) ?_
  refine xn_iconst (v := 1) hx hb dL_law_909 (by decide) ?_
  refine xn_iadd hx hb dL_law_910 ?_
  refine q_sld hx hb hX hbl hbA hS (by omega) (by omega) dL_law_911 ?_
  refine lv_aload_n hx hb dL_law_912 rfl (lv_at hl 0 rfl) ?_
  refine lv_iload hx hb dL_law_913 (lv_at hl 4 rfl) ?_
  refine xn_iconst (v := 2) hx hb dL_law_915 (by decide) ?_
  refine xn_iadd hx hb dL_law_916 ?_
  refine q_sld hx hb hX hbl hbA hS (by omega) (by omega) dL_law_917 ?_
  refine lv_aload_n hx hb dL_law_918 rfl (lv_at hl 3 rfl) ?_
  refine vx_calli (vx_runSX (As := [.ref (ad 0), .int (xs (i + 1)), .int (xs (i + 2)), .ref og]) (rest := []) ⟨hx, hb, hml, hown, hts⟩ (wApart_ l hst9 D cI cC cL ad hj S hI og ha4 z (xs (i + 1)) (xs (i + 2))) (vx_cwSW 4 hts gL_law_L_apart rfl rfl rfl (by decide +kernel) ⟨Nat.le_of_ble_eq_true rfl, Nat.le_of_ble_eq_true rfl⟩) (xWL_PS hK hKL ((hZ.kept hS.2.1).narrow (fun q9 h9 => qAO_in hAp h9)) hN1 hN2 hN3 (P := fun H9 => xXW D cI cC ad S H9 ∧ xOut D cL og z H9) ⟨hW, hOut⟩) rfl rfl hl.1 rfl (lv_room (Nat.le_of_ble_eq_true rfl)) dL_law_919 ⟨(by show cells + 10 ≤ 694872; omega), (by show slots + 60 ≤ 7011487; omega)⟩) hS (fun q9 _ h9 => qAO_in hAp h9) (fun q9 h9 => qAO_in hAp h9) (fun q9 _ h9 => absurd h9 id) (fun E ce q9 u t9 H1 locs1 _ _ _ hB => absurd hB id) (fun k9 u t9 H1 locs1 ht9 _ hp hF hz9 hk9 hS => ?_)
  have hF : xXW D cI cC ad (S) t9.heap ∧ xOut D cL og u t9.heap := hF
  rw [ht9] at hF
  obtain ⟨hW, hOut⟩ := hF
  obtain ⟨hk0, hu⟩ := hp
  subst hk0
  have hM := hM.kept hk9 (qAO_n hAp)
  refine lv_istore (lv' := [(5, .int (nI (tTwo S (xs (i + 1)) (xs (i + 2))))), (0, .ref b), (1, .ref (ad 0)), (2, .ref o), (3, .ref og), (4, .int (nI i))]) hx hb dL_law_922 hl (by decide) rfl (fun ls hl => ?_)
  refine lv_aload_n hx hb dL_law_924 rfl (lv_at hl 3 rfl) ?_
  refine lv_aload_n hx hb dL_law_925 rfl (lv_at hl 1 rfl) ?_
  refine lv_iload hx hb dL_law_926 (lv_at hl 5 rfl) ?_
  refine xn_iconst (v := 1) hx hb dL_law_928 (by decide) ?_
  refine xn_iadd hx hb dL_law_929 ?_
  refine q_sld hx hb hX hbl hbA hS (by omega) (by omega) dL_law_930 ?_
  refine lv_aload_n hx hb dL_law_931 rfl (lv_at hl 1 rfl) ?_
  refine lv_iload hx hb dL_law_932 (lv_at hl 5 rfl) ?_
  refine xn_iconst (v := 2) hx hb dL_law_934 (by decide) ?_
  refine xn_iadd hx hb dL_law_935 ?_
  refine q_sld hx hb hX hbl hbA hS (by omega) (by omega) dL_law_936 ?_
  refine xmI (As := [.int (xs (i + 1)), .int (xs (i + 2))]) (rest := []) ⟨hx, hb, hml, hown, hts⟩ (mApart_ l D cI cC o bk kp d1 d2 d3 t0 S hI H1.size (xs (i + 1)) (xs (i + 2))) (cwV 2 hts gL_law_X4_apart rfl rfl rfl (by decide +kernel) ⟨Nat.le_of_ble_eq_true rfl, Nat.le_of_ble_eq_true rfl⟩) hK ⟨rfl, hM⟩ hM.recv_ rfl hl.1 rfl (Nat.le_of_ble_eq_true rfl) dL_law_937 ⟨(by show cells + 10 + 900 ≤ 694872; omega), (by show slots + 60 + 7200 ≤ 7011487; omega)⟩ hS (fun q9 h9 => qMA_in hAp hS.1 h9) (fun q9 h9 => qMA_in hAp hS.1 h9) (fun r9 u9 H2 locs2 hp2 hM hz8 hk8 hS => ?_)
  have hW := hW.kept hk8 (qMA_n hAp)
  have hOut : xOut D cL og u H2 := va_at.kept hOut (hk8 og (va_at.lt hOut) (qMA_og hAp (va_at.lt hOut)))
  refine lv_istore (lv' := [(6, .int r9), (5, .int (nI (tTwo S (xs (i + 1)) (xs (i + 2))))), (0, .ref b), (1, .ref (ad 0)), (2, .ref o), (3, .ref og), (4, .int (nI i))]) hx hb dL_law_940 hl (by decide) rfl (fun ls hl => ?_)
  refine lv_aload_n hx hb dL_law_942 rfl (lv_at hl 4 rfl) ?_
  obtain ⟨bf, hMo, hb1, hb2⟩ := id hM
  refine xcV (As := []) (rest := []) ⟨hx, hb, hml, hown, hts⟩ (cX4_thrown_ l D cI cC o bk kp _ _ _ _ _ _ _) (cwV 0 hts gL_law_X4_thrown rfl rfl rfl (by decide +kernel) ⟨Nat.le_of_ble_eq_true rfl, Nat.le_of_ble_eq_true rfl⟩) hK hMo hM.recv_ rfl hl.1 rfl (Nat.le_of_ble_eq_true rfl) dL_law_943 ⟨(by show cells + 10 + 900 ≤ 694872; omega), (by show slots + 60 + 7200 ≤ 7011487; omega)⟩ (fun x9 ex => ?_)
  subst ex
  refine lv_iload hx hb dL_law_946 (lv_at hl 1 rfl) ?_
  refine lv_icmp_eq (tgt := 953) hx hb dL_law_948 (by decide) (fun _ => ?_) (fun h9 => absurd rfl h9)
  refine lv_iload hx hb dL_law_953 (lv_at hl 1 rfl) ?_
  refine lv_if_ne (tgt := 970) hx hb dL_law_955 (by decide) (fun _ => ?_) (fun h9 => ?_)
  · refine lv_goto (tgt := 1308) hx hb dL_law_970 (by decide) ?_
    exact kk _ _ _ _ _ _ _ _ (hI) ⟨hW, hM, hOut⟩ hS (by omega) (by omega) (lv_sub hl [2, 3, 4, 5, 6] rfl)
  · have ht : tTwo S (xs (i + 1)) (xs (i + 2)) = 0 := q_nI0 h9 (by first | exact t1_lt | exact t2_lt | exact t3_lt)
    have hr9 := hp2 ht
    subst hr9
    have hu := hu ht
    subst hu
    refine lv_aload_n hx hb dL_law_958 rfl (lv_at hl 5 rfl) ?_
    refine xn_iconst (v := 0) hx hb dL_law_959 (by decide) ?_
    refine x_laldO hx hb hKL hOut dL_law_960 ?_
    refine lv_iload hx hb dL_law_961 (lv_at hl 0 rfl) ?_
    refine lv_i2l hx hb dL_law_963 rfl ?_
    refine W.lcmp hx hb dL_law_964 ?_
    rw [q_lcmp]
    refine lv_if_eq (tgt := 970) hx hb dL_law_965 (by decide) (fun _ => ?_) (fun h8 => absurd rfl h8)
    refine lv_goto (tgt := 1308) hx hb dL_law_970 (by decide) ?_
    exact kk _ _ _ _ _ _ _ _ (hI) ⟨hW, hM, hOut⟩ hS (by omega) (by omega) (lv_sub hl [2, 3, 4, 5, 6] rfl)

set_option maxRecDepth 100000 in
set_option maxHeartbeats 4000000 in
theorem qCount_ {p : Program} {l : Launch} {e : Env} {s : State} {m : MethodId} {below : List Frame} {meth : Method} {c : Code} {b L i : Nat} {xs : Nat → Int32} {D : va_G} {cI cC cL : ClassId} {ad : Nat → Nat} {o bk kp og : Nat} {S : AS} {t0 : Nat} {z : Int64} {H : Heap} {locs : List Loc} {cells slots : Nat} {Q : State → Prop} {ls : Array Slot} (hst9 : l.stackTraces = false) (C : qC p s m c b L xs D cI cC cL ad o bk kp og) (hI : AI S) (hi : i + 2 < L) (hL : L ≤ 1536) (hq : qH D cI cC cL ad o bk kp og S t0 z H) (hS : va_S (fun q : Nat => s.heap.size ≤ q) s.heap H locs) (hc : cells + 1290 ≤ 694872) (hs : slots + 9600 ≤ 7011487) (hl : lv_has ls 9 [(0, .ref b), (1, .ref (ad 0)), (2, .ref o), (3, .ref og), (4, .int (nI i))])
    (kk : ∀ (S1 : AS) (t1 : Nat) (z1 : Int64) (H1 : Heap) (locs1 : List Loc) (cells1 slots1 : Nat) (ls1 : Array Slot), AI S1 → qH D cI cC cL ad o bk kp og S1 t1 z1 H1 → va_S (fun q : Nat => s.heap.size ≤ q) s.heap H1 locs1 → cells1 ≤ cells + 1290 → slots1 ≤ slots + 9600 → lv_has ls1 9 [(0, .ref b), (1, .ref (ad 0)), (2, .ref o), (3, .ref og), (4, .int (nI i))] → W p l e room_1 s m #[Value.ref b] below meth c H1 locs1 cells1 slots1 Q (F0 m 1308 ls1 [])) : W p l e room_1 s m #[Value.ref b] below meth c H locs cells slots Q (F0 m 973 ls []) := by
  obtain ⟨hx, hb, hml, hown, hts, hX, hbl, hK, hKL, hZ, hN1, hN2, hN3, hAp⟩ := id C
  obtain ⟨hj, hA0, hAo, hAbk, hAkp, hAog, ha1, ha2, ha3, ha4, d1, d2, d3, e1, e2, e3⟩ := id hAp
  obtain ⟨hW, hM, hOut⟩ := hq
  have hbA : ¬ (fun q : Nat => s.heap.size ≤ q) b := Nat.not_le.mpr hbl
  refine lv_aload_n hx hb dL_law_973 rfl (lv_at hl 1 rfl) ?_
  refine lv_aload_n hx hb dL_law_974 rfl (lv_at hl 0 rfl) ?_
  refine lv_iload hx hb dL_law_975 (lv_at hl 4 rfl) ?_
  refine xn_iconst (v := 1) hx hb dL_law_977 (by decide) ?_
  refine xn_iadd hx hb dL_law_978 ?_
  refine q_sld hx hb hX hbl hbA hS (by omega) (by omega) dL_law_979 ?_
  refine lv_aload_n hx hb dL_law_980 rfl (lv_at hl 3 rfl) ?_
  refine vx_calli (vx_runSX (As := [.ref (ad 0), .int (xs (i + 1)), .ref og]) (rest := []) ⟨hx, hb, hml, hown, hts⟩ (wCount_ l hst9 D cI cC cL ad hj S hI og ha4 z (xs (i + 1))) (vx_cwSW 3 hts gL_law_L_count rfl rfl rfl (by decide +kernel) ⟨Nat.le_of_ble_eq_true rfl, Nat.le_of_ble_eq_true rfl⟩) (xWL_PS hK hKL ((hZ.kept hS.2.1).narrow (fun q9 h9 => qAO_in hAp h9)) hN1 hN2 hN3 (P := fun H9 => xXW D cI cC ad S H9 ∧ xOut D cL og z H9) ⟨hW, hOut⟩) rfl rfl hl.1 rfl (lv_room (Nat.le_of_ble_eq_true rfl)) dL_law_981 ⟨(by show cells + 10 ≤ 694872; omega), (by show slots + 60 ≤ 7011487; omega)⟩) hS (fun q9 _ h9 => qAO_in hAp h9) (fun q9 h9 => qAO_in hAp h9) (fun q9 _ h9 => absurd h9 id) (fun E ce q9 u t9 H1 locs1 _ _ _ hB => absurd hB id) (fun k9 u t9 H1 locs1 ht9 _ hp hF hz9 hk9 hS => ?_)
  have hF : xXW D cI cC ad (S) t9.heap ∧ xOut D cL og u t9.heap := hF
  rw [ht9] at hF
  obtain ⟨hW, hOut⟩ := hF
  obtain ⟨hk0, hu⟩ := hp
  subst hk0
  have hM := hM.kept hk9 (qAO_n hAp)
  refine lv_istore (lv' := [(5, .int (nI (tCount S (xs (i + 1))))), (0, .ref b), (1, .ref (ad 0)), (2, .ref o), (3, .ref og), (4, .int (nI i))]) hx hb dL_law_984 hl (by decide) rfl (fun ls hl => ?_)
  refine lv_aload_n hx hb dL_law_986 rfl (lv_at hl 3 rfl) ?_
  refine lv_aload_n hx hb dL_law_987 rfl (lv_at hl 1 rfl) ?_
  refine lv_iload hx hb dL_law_988 (lv_at hl 5 rfl) ?_
  refine xn_iconst (v := 1) hx hb dL_law_990 (by decide) ?_
  refine xn_iadd hx hb dL_law_991 ?_
  refine q_sld hx hb hX hbl hbA hS (by omega) (by omega) dL_law_992 ?_
  refine xmI (As := [.int (xs (i + 1))]) (rest := []) ⟨hx, hb, hml, hown, hts⟩ (mCount_ l D cI cC o bk kp d1 d2 d3 t0 S hI H1.size (xs (i + 1))) (cwV 1 hts gL_law_X4_count rfl rfl rfl (by decide +kernel) ⟨Nat.le_of_ble_eq_true rfl, Nat.le_of_ble_eq_true rfl⟩) hK ⟨rfl, hM⟩ hM.recv_ rfl hl.1 rfl (Nat.le_of_ble_eq_true rfl) dL_law_993 ⟨(by show cells + 10 + 900 ≤ 694872; omega), (by show slots + 60 + 7200 ≤ 7011487; omega)⟩ hS (fun q9 h9 => qMA_in hAp hS.1 h9) (fun q9 h9 => qMA_in hAp hS.1 h9) (fun r9 u9 H2 locs2 hp2 hM hz8 hk8 hS => ?_)
  have hW := hW.kept hk8 (qMA_n hAp)
  have hOut : xOut D cL og u H2 := va_at.kept hOut (hk8 og (va_at.lt hOut) (qMA_og hAp (va_at.lt hOut)))
  refine lv_istore (lv' := [(6, .int r9), (5, .int (nI (tCount S (xs (i + 1))))), (0, .ref b), (1, .ref (ad 0)), (2, .ref o), (3, .ref og), (4, .int (nI i))]) hx hb dL_law_996 hl (by decide) rfl (fun ls hl => ?_)
  refine lv_aload_n hx hb dL_law_998 rfl (lv_at hl 4 rfl) ?_
  obtain ⟨bf, hMo, hb1, hb2⟩ := id hM
  refine xcV (As := []) (rest := []) ⟨hx, hb, hml, hown, hts⟩ (cX4_thrown_ l D cI cC o bk kp _ _ _ _ _ _ _) (cwV 0 hts gL_law_X4_thrown rfl rfl rfl (by decide +kernel) ⟨Nat.le_of_ble_eq_true rfl, Nat.le_of_ble_eq_true rfl⟩) hK hMo hM.recv_ rfl hl.1 rfl (Nat.le_of_ble_eq_true rfl) dL_law_999 ⟨(by show cells + 10 + 900 ≤ 694872; omega), (by show slots + 60 + 7200 ≤ 7011487; omega)⟩ (fun x9 ex => ?_)
  subst ex
  refine lv_iload hx hb dL_law_1002 (lv_at hl 1 rfl) ?_
  refine lv_icmp_eq (tgt := 1009) hx hb dL_law_1004 (by decide) (fun _ => ?_) (fun h9 => absurd rfl h9)
  refine lv_iload hx hb dL_law_1009 (lv_at hl 1 rfl) ?_
  refine lv_if_ne (tgt := 1026) hx hb dL_law_1011 (by decide) (fun _ => ?_) (fun h9 => ?_)
  · refine lv_goto (tgt := 1308) hx hb dL_law_1026 (by decide) ?_
    exact kk _ _ _ _ _ _ _ _ (hI) ⟨hW, hM, hOut⟩ hS (by omega) (by omega) (lv_sub hl [2, 3, 4, 5, 6] rfl)
  · have ht : tCount S (xs (i + 1)) = 0 := q_nI0 h9 (by first | exact t1_lt | exact t2_lt | exact t3_lt)
    have hr9 := hp2 ht
    subst hr9
    have hu := hu ht
    subst hu
    refine lv_aload_n hx hb dL_law_1014 rfl (lv_at hl 5 rfl) ?_
    refine xn_iconst (v := 0) hx hb dL_law_1015 (by decide) ?_
    refine x_laldO hx hb hKL hOut dL_law_1016 ?_
    refine lv_iload hx hb dL_law_1017 (lv_at hl 0 rfl) ?_
    refine lv_i2l hx hb dL_law_1019 rfl ?_
    refine W.lcmp hx hb dL_law_1020 ?_
    rw [q_lcmp]
    refine lv_if_eq (tgt := 1026) hx hb dL_law_1021 (by decide) (fun _ => ?_) (fun h8 => absurd rfl h8)
    refine lv_goto (tgt := 1308) hx hb dL_law_1026 (by decide) ?_
    exact kk _ _ _ _ _ _ _ _ (hI) ⟨hW, hM, hOut⟩ hS (by omega) (by omega) (lv_sub hl [2, 3, 4, 5, 6] rfl)

set_option maxRecDepth 100000 in
set_option maxHeartbeats 4000000 in
theorem qKept_ {p : Program} {l : Launch} {e : Env} {s : State} {m : MethodId} {below : List Frame} {meth : Method} {c : Code} {b L i : Nat} {xs : Nat → Int32} {D : va_G} {cI cC cL : ClassId} {ad : Nat → Nat} {o bk kp og : Nat} {S : AS} {t0 : Nat} {z : Int64} {H : Heap} {locs : List Loc} {cells slots : Nat} {Q : State → Prop} {ls : Array Slot} (hst9 : l.stackTraces = false) (C : qC p s m c b L xs D cI cC cL ad o bk kp og) (hI : AI S) (hi : i + 2 < L) (hL : L ≤ 1536) (hq : qH D cI cC cL ad o bk kp og S t0 z H) (hS : va_S (fun q : Nat => s.heap.size ≤ q) s.heap H locs) (hc : cells + 1290 ≤ 694872) (hs : slots + 9600 ≤ 7011487) (hl : lv_has ls 9 [(0, .ref b), (1, .ref (ad 0)), (2, .ref o), (3, .ref og), (4, .int (nI i))])
    (kk : ∀ (S1 : AS) (t1 : Nat) (z1 : Int64) (H1 : Heap) (locs1 : List Loc) (cells1 slots1 : Nat) (ls1 : Array Slot), AI S1 → qH D cI cC cL ad o bk kp og S1 t1 z1 H1 → va_S (fun q : Nat => s.heap.size ≤ q) s.heap H1 locs1 → cells1 ≤ cells + 1290 → slots1 ≤ slots + 9600 → lv_has ls1 9 [(0, .ref b), (1, .ref (ad 0)), (2, .ref o), (3, .ref og), (4, .int (nI i))] → W p l e room_1 s m #[Value.ref b] below meth c H1 locs1 cells1 slots1 Q (F0 m 1308 ls1 [])) : W p l e room_1 s m #[Value.ref b] below meth c H locs cells slots Q (F0 m 1029 ls []) := by
  obtain ⟨hx, hb, hml, hown, hts, hX, hbl, hK, hKL, hZ, hN1, hN2, hN3, hAp⟩ := id C
  obtain ⟨hj, hA0, hAo, hAbk, hAkp, hAog, ha1, ha2, ha3, ha4, d1, d2, d3, e1, e2, e3⟩ := id hAp
  obtain ⟨hW, hM, hOut⟩ := hq
  have hbA : ¬ (fun q : Nat => s.heap.size ≤ q) b := Nat.not_le.mpr hbl
  refine lv_aload_n hx hb dL_law_1029 rfl (lv_at hl 1 rfl) ?_
  refine lv_aload_n hx hb dL_law_1030 rfl (lv_at hl 0 rfl) ?_
  refine lv_iload hx hb dL_law_1031 (lv_at hl 4 rfl) ?_
  refine xn_iconst (v := 1) hx hb dL_law_1033 (by decide) ?_
  refine xn_iadd hx hb dL_law_1034 ?_
  refine q_sld hx hb hX hbl hbA hS (by omega) (by omega) dL_law_1035 ?_
  refine lv_aload_n hx hb dL_law_1036 rfl (lv_at hl 3 rfl) ?_
  refine vx_calli (vx_runSX (As := [.ref (ad 0), .int (xs (i + 1)), .ref og]) (rest := []) ⟨hx, hb, hml, hown, hts⟩ (wKept_ l hst9 D cI cC cL ad hj S hI og ha4 z (xs (i + 1))) (vx_cwSW 3 hts gL_law_L_kept rfl rfl rfl (by decide +kernel) ⟨Nat.le_of_ble_eq_true rfl, Nat.le_of_ble_eq_true rfl⟩) (xWL_PS hK hKL ((hZ.kept hS.2.1).narrow (fun q9 h9 => qAO_in hAp h9)) hN1 hN2 hN3 (P := fun H9 => xXW D cI cC ad S H9 ∧ xOut D cL og z H9) ⟨hW, hOut⟩) rfl rfl hl.1 rfl (lv_room (Nat.le_of_ble_eq_true rfl)) dL_law_1037 ⟨(by show cells + 10 ≤ 694872; omega), (by show slots + 60 ≤ 7011487; omega)⟩) hS (fun q9 _ h9 => qAO_in hAp h9) (fun q9 h9 => qAO_in hAp h9) (fun q9 _ h9 => absurd h9 id) (fun E ce q9 u t9 H1 locs1 _ _ _ hB => absurd hB id) (fun k9 u t9 H1 locs1 ht9 _ hp hF hz9 hk9 hS => ?_)
  have hF : xXW D cI cC ad (S) t9.heap ∧ xOut D cL og u t9.heap := hF
  rw [ht9] at hF
  obtain ⟨hW, hOut⟩ := hF
  obtain ⟨hk0, hu⟩ := hp
  subst hk0
  have hM := hM.kept hk9 (qAO_n hAp)
  refine lv_istore (lv' := [(5, .int (nI (tKept S (xs (i + 1))))), (0, .ref b), (1, .ref (ad 0)), (2, .ref o), (3, .ref og), (4, .int (nI i))]) hx hb dL_law_1040 hl (by decide) rfl (fun ls hl => ?_)
  refine lv_aload_n hx hb dL_law_1042 rfl (lv_at hl 3 rfl) ?_
  refine lv_aload_n hx hb dL_law_1043 rfl (lv_at hl 1 rfl) ?_
  refine lv_iload hx hb dL_law_1044 (lv_at hl 5 rfl) ?_
  refine xn_iconst (v := 1) hx hb dL_law_1046 (by decide) ?_
  refine xn_iadd hx hb dL_law_1047 ?_
  refine q_sld hx hb hX hbl hbA hS (by omega) (by omega) dL_law_1048 ?_
  refine xmI (As := [.int (xs (i + 1))]) (rest := []) ⟨hx, hb, hml, hown, hts⟩ (mKept_ l D cI cC o bk kp d1 d2 d3 t0 S hI H1.size (xs (i + 1))) (cwV 1 hts gL_law_X4_kept rfl rfl rfl (by decide +kernel) ⟨Nat.le_of_ble_eq_true rfl, Nat.le_of_ble_eq_true rfl⟩) hK ⟨rfl, hM⟩ hM.recv_ rfl hl.1 rfl (Nat.le_of_ble_eq_true rfl) dL_law_1049 ⟨(by show cells + 10 + 900 ≤ 694872; omega), (by show slots + 60 + 7200 ≤ 7011487; omega)⟩ hS (fun q9 h9 => qMA_in hAp hS.1 h9) (fun q9 h9 => qMA_in hAp hS.1 h9) (fun r9 u9 H2 locs2 hp2 hM hz8 hk8 hS => ?_)
  have hW := hW.kept hk8 (qMA_n hAp)
  have hOut : xOut D cL og u H2 := va_at.kept hOut (hk8 og (va_at.lt hOut) (qMA_og hAp (va_at.lt hOut)))
  refine lv_istore (lv' := [(6, .int r9), (5, .int (nI (tKept S (xs (i + 1))))), (0, .ref b), (1, .ref (ad 0)), (2, .ref o), (3, .ref og), (4, .int (nI i))]) hx hb dL_law_1052 hl (by decide) rfl (fun ls hl => ?_)
  refine lv_aload_n hx hb dL_law_1054 rfl (lv_at hl 4 rfl) ?_
  obtain ⟨bf, hMo, hb1, hb2⟩ := id hM
  refine xcV (As := []) (rest := []) ⟨hx, hb, hml, hown, hts⟩ (cX4_thrown_ l D cI cC o bk kp _ _ _ _ _ _ _) (cwV 0 hts gL_law_X4_thrown rfl rfl rfl (by decide +kernel) ⟨Nat.le_of_ble_eq_true rfl, Nat.le_of_ble_eq_true rfl⟩) hK hMo hM.recv_ rfl hl.1 rfl (Nat.le_of_ble_eq_true rfl) dL_law_1055 ⟨(by show cells + 10 + 900 ≤ 694872; omega), (by show slots + 60 + 7200 ≤ 7011487; omega)⟩ (fun x9 ex => ?_)
  subst ex
  refine lv_iload hx hb dL_law_1058 (lv_at hl 1 rfl) ?_
  refine lv_icmp_eq (tgt := 1065) hx hb dL_law_1060 (by decide) (fun _ => ?_) (fun h9 => absurd rfl h9)
  refine lv_iload hx hb dL_law_1065 (lv_at hl 1 rfl) ?_
  refine lv_if_ne (tgt := 1082) hx hb dL_law_1067 (by decide) (fun _ => ?_) (fun h9 => ?_)
  · refine lv_goto (tgt := 1308) hx hb dL_law_1082 (by decide) ?_
    exact kk _ _ _ _ _ _ _ _ (hI) ⟨hW, hM, hOut⟩ hS (by omega) (by omega) (lv_sub hl [2, 3, 4, 5, 6] rfl)
  · have ht : tKept S (xs (i + 1)) = 0 := q_nI0 h9 (by first | exact t1_lt | exact t2_lt | exact t3_lt)
    have hr9 := hp2 ht
    subst hr9
    have hu := hu ht
    subst hu
    refine lv_aload_n hx hb dL_law_1070 rfl (lv_at hl 5 rfl) ?_
    refine xn_iconst (v := 0) hx hb dL_law_1071 (by decide) ?_
    refine x_laldO hx hb hKL hOut dL_law_1072 ?_
    refine lv_iload hx hb dL_law_1073 (lv_at hl 0 rfl) ?_
    refine lv_i2l hx hb dL_law_1075 rfl ?_
    refine W.lcmp hx hb dL_law_1076 ?_
    rw [q_lcmp]
    refine lv_if_eq (tgt := 1082) hx hb dL_law_1077 (by decide) (fun _ => ?_) (fun h8 => absurd rfl h8)
    refine lv_goto (tgt := 1308) hx hb dL_law_1082 (by decide) ?_
    exact kk _ _ _ _ _ _ _ _ (hI) ⟨hW, hM, hOut⟩ hS (by omega) (by omega) (lv_sub hl [2, 3, 4, 5, 6] rfl)

set_option maxRecDepth 100000 in
set_option maxHeartbeats 4000000 in
theorem qComes_ {p : Program} {l : Launch} {e : Env} {s : State} {m : MethodId} {below : List Frame} {meth : Method} {c : Code} {b L i : Nat} {xs : Nat → Int32} {D : va_G} {cI cC cL : ClassId} {ad : Nat → Nat} {o bk kp og : Nat} {S : AS} {t0 : Nat} {z : Int64} {H : Heap} {locs : List Loc} {cells slots : Nat} {Q : State → Prop} {ls : Array Slot} (hst9 : l.stackTraces = false) (C : qC p s m c b L xs D cI cC cL ad o bk kp og) (hI : AI S) (hi : i + 2 < L) (hL : L ≤ 1536) (hq : qH D cI cC cL ad o bk kp og S t0 z H) (hS : va_S (fun q : Nat => s.heap.size ≤ q) s.heap H locs) (hc : cells + 1290 ≤ 694872) (hs : slots + 9600 ≤ 7011487) (hl : lv_has ls 9 [(0, .ref b), (1, .ref (ad 0)), (2, .ref o), (3, .ref og), (4, .int (nI i))])
    (kk : ∀ (S1 : AS) (t1 : Nat) (z1 : Int64) (H1 : Heap) (locs1 : List Loc) (cells1 slots1 : Nat) (ls1 : Array Slot), AI S1 → qH D cI cC cL ad o bk kp og S1 t1 z1 H1 → va_S (fun q : Nat => s.heap.size ≤ q) s.heap H1 locs1 → cells1 ≤ cells + 1290 → slots1 ≤ slots + 9600 → lv_has ls1 9 [(0, .ref b), (1, .ref (ad 0)), (2, .ref o), (3, .ref og), (4, .int (nI i))] → W p l e room_1 s m #[Value.ref b] below meth c H1 locs1 cells1 slots1 Q (F0 m 1308 ls1 [])) : W p l e room_1 s m #[Value.ref b] below meth c H locs cells slots Q (F0 m 1085 ls []) := by
  obtain ⟨hx, hb, hml, hown, hts, hX, hbl, hK, hKL, hZ, hN1, hN2, hN3, hAp⟩ := id C
  obtain ⟨hj, hA0, hAo, hAbk, hAkp, hAog, ha1, ha2, ha3, ha4, d1, d2, d3, e1, e2, e3⟩ := id hAp
  obtain ⟨hW, hM, hOut⟩ := hq
  have hbA : ¬ (fun q : Nat => s.heap.size ≤ q) b := Nat.not_le.mpr hbl
  refine lv_aload_n hx hb dL_law_1085 rfl (lv_at hl 1 rfl) ?_
  refine lv_aload_n hx hb dL_law_1086 rfl (lv_at hl 0 rfl) ?_
  refine lv_iload hx hb dL_law_1087 (lv_at hl 4 rfl) ?_
  refine xn_iconst (v := 1) hx hb dL_law_1089 (by decide) ?_
  refine xn_iadd hx hb dL_law_1090 ?_
  refine q_sld hx hb hX hbl hbA hS (by omega) (by omega) dL_law_1091 ?_
  refine lv_aload_n hx hb dL_law_1092 rfl (lv_at hl 3 rfl) ?_
  refine vx_calli (vx_runSX (As := [.ref (ad 0), .int (xs (i + 1)), .ref og]) (rest := []) ⟨hx, hb, hml, hown, hts⟩ (wComes_ l hst9 D cI cC cL ad hj S hI og ha4 z (xs (i + 1))) (vx_cwSW 3 hts gL_law_L_comes rfl rfl rfl (by decide +kernel) ⟨Nat.le_of_ble_eq_true rfl, Nat.le_of_ble_eq_true rfl⟩) (xWL_PS hK hKL ((hZ.kept hS.2.1).narrow (fun q9 h9 => qAO_in hAp h9)) hN1 hN2 hN3 (P := fun H9 => xXW D cI cC ad S H9 ∧ xOut D cL og z H9) ⟨hW, hOut⟩) rfl rfl hl.1 rfl (lv_room (Nat.le_of_ble_eq_true rfl)) dL_law_1093 ⟨(by show cells + 10 ≤ 694872; omega), (by show slots + 60 ≤ 7011487; omega)⟩) hS (fun q9 _ h9 => qAO_in hAp h9) (fun q9 h9 => qAO_in hAp h9) (fun q9 _ h9 => absurd h9 id) (fun E ce q9 u t9 H1 locs1 _ _ _ hB => absurd hB id) (fun k9 u t9 H1 locs1 ht9 _ hp hF hz9 hk9 hS => ?_)
  have hF : xXW D cI cC ad (S) t9.heap ∧ xOut D cL og u t9.heap := hF
  rw [ht9] at hF
  obtain ⟨hW, hOut⟩ := hF
  obtain ⟨hk0, hu⟩ := hp
  subst hk0
  have hM := hM.kept hk9 (qAO_n hAp)
  refine lv_istore (lv' := [(5, .int (nI (tIn S (xs (i + 1))))), (0, .ref b), (1, .ref (ad 0)), (2, .ref o), (3, .ref og), (4, .int (nI i))]) hx hb dL_law_1096 hl (by decide) rfl (fun ls hl => ?_)
  refine lv_aload_n hx hb dL_law_1098 rfl (lv_at hl 3 rfl) ?_
  refine lv_aload_n hx hb dL_law_1099 rfl (lv_at hl 1 rfl) ?_
  refine lv_iload hx hb dL_law_1100 (lv_at hl 5 rfl) ?_
  refine xn_iconst (v := 1) hx hb dL_law_1102 (by decide) ?_
  refine xn_iadd hx hb dL_law_1103 ?_
  refine q_sld hx hb hX hbl hbA hS (by omega) (by omega) dL_law_1104 ?_
  refine xmI (As := [.int (xs (i + 1))]) (rest := []) ⟨hx, hb, hml, hown, hts⟩ (mComes_ l D cI cC o bk kp d1 d2 d3 t0 S hI H1.size (xs (i + 1))) (cwV 1 hts gL_law_X4_comes rfl rfl rfl (by decide +kernel) ⟨Nat.le_of_ble_eq_true rfl, Nat.le_of_ble_eq_true rfl⟩) hK ⟨rfl, hM⟩ hM.recv_ rfl hl.1 rfl (Nat.le_of_ble_eq_true rfl) dL_law_1105 ⟨(by show cells + 10 + 900 ≤ 694872; omega), (by show slots + 60 + 7200 ≤ 7011487; omega)⟩ hS (fun q9 h9 => qMA_in hAp hS.1 h9) (fun q9 h9 => qMA_in hAp hS.1 h9) (fun r9 u9 H2 locs2 hp2 hM hz8 hk8 hS => ?_)
  have hW := hW.kept hk8 (qMA_n hAp)
  have hOut : xOut D cL og u H2 := va_at.kept hOut (hk8 og (va_at.lt hOut) (qMA_og hAp (va_at.lt hOut)))
  refine lv_istore (lv' := [(6, .int r9), (5, .int (nI (tIn S (xs (i + 1))))), (0, .ref b), (1, .ref (ad 0)), (2, .ref o), (3, .ref og), (4, .int (nI i))]) hx hb dL_law_1108 hl (by decide) rfl (fun ls hl => ?_)
  refine lv_aload_n hx hb dL_law_1110 rfl (lv_at hl 4 rfl) ?_
  obtain ⟨bf, hMo, hb1, hb2⟩ := id hM
  refine xcV (As := []) (rest := []) ⟨hx, hb, hml, hown, hts⟩ (cX4_thrown_ l D cI cC o bk kp _ _ _ _ _ _ _) (cwV 0 hts gL_law_X4_thrown rfl rfl rfl (by decide +kernel) ⟨Nat.le_of_ble_eq_true rfl, Nat.le_of_ble_eq_true rfl⟩) hK hMo hM.recv_ rfl hl.1 rfl (Nat.le_of_ble_eq_true rfl) dL_law_1111 ⟨(by show cells + 10 + 900 ≤ 694872; omega), (by show slots + 60 + 7200 ≤ 7011487; omega)⟩ (fun x9 ex => ?_)
  subst ex
  refine lv_iload hx hb dL_law_1114 (lv_at hl 1 rfl) ?_
  refine lv_icmp_eq (tgt := 1121) hx hb dL_law_1116 (by decide) (fun _ => ?_) (fun h9 => absurd rfl h9)
  refine lv_iload hx hb dL_law_1121 (lv_at hl 1 rfl) ?_
  refine lv_if_ne (tgt := 1138) hx hb dL_law_1123 (by decide) (fun _ => ?_) (fun h9 => ?_)
  · refine lv_goto (tgt := 1308) hx hb dL_law_1138 (by decide) ?_
    exact kk _ _ _ _ _ _ _ _ (hI) ⟨hW, hM, hOut⟩ hS (by omega) (by omega) (lv_sub hl [2, 3, 4, 5, 6] rfl)
  · have ht : tIn S (xs (i + 1)) = 0 := q_nI0 h9 (by first | exact t1_lt | exact t2_lt | exact t3_lt)
    have hr9 := hp2 ht
    subst hr9
    have hu := hu ht
    subst hu
    refine lv_aload_n hx hb dL_law_1126 rfl (lv_at hl 5 rfl) ?_
    refine xn_iconst (v := 0) hx hb dL_law_1127 (by decide) ?_
    refine x_laldO hx hb hKL hOut dL_law_1128 ?_
    refine lv_iload hx hb dL_law_1129 (lv_at hl 0 rfl) ?_
    refine lv_i2l hx hb dL_law_1131 rfl ?_
    refine W.lcmp hx hb dL_law_1132 ?_
    rw [q_lcmp]
    refine lv_if_eq (tgt := 1138) hx hb dL_law_1133 (by decide) (fun _ => ?_) (fun h8 => absurd rfl h8)
    refine lv_goto (tgt := 1308) hx hb dL_law_1138 (by decide) ?_
    exact kk _ _ _ _ _ _ _ _ (hI) ⟨hW, hM, hOut⟩ hS (by omega) (by omega) (lv_sub hl [2, 3, 4, 5, 6] rfl)

set_option maxRecDepth 100000 in
set_option maxHeartbeats 4000000 in
theorem qDiffer_ {p : Program} {l : Launch} {e : Env} {s : State} {m : MethodId} {below : List Frame} {meth : Method} {c : Code} {b L i : Nat} {xs : Nat → Int32} {D : va_G} {cI cC cL : ClassId} {ad : Nat → Nat} {o bk kp og : Nat} {S : AS} {t0 : Nat} {z : Int64} {H : Heap} {locs : List Loc} {cells slots : Nat} {Q : State → Prop} {ls : Array Slot} (hst9 : l.stackTraces = false) (C : qC p s m c b L xs D cI cC cL ad o bk kp og) (hI : AI S) (hi : i + 2 < L) (hL : L ≤ 1536) (hq : qH D cI cC cL ad o bk kp og S t0 z H) (hS : va_S (fun q : Nat => s.heap.size ≤ q) s.heap H locs) (hc : cells + 1290 ≤ 694872) (hs : slots + 9600 ≤ 7011487) (hl : lv_has ls 9 [(0, .ref b), (1, .ref (ad 0)), (2, .ref o), (3, .ref og), (4, .int (nI i))])
    (kk : ∀ (S1 : AS) (t1 : Nat) (z1 : Int64) (H1 : Heap) (locs1 : List Loc) (cells1 slots1 : Nat) (ls1 : Array Slot), AI S1 → qH D cI cC cL ad o bk kp og S1 t1 z1 H1 → va_S (fun q : Nat => s.heap.size ≤ q) s.heap H1 locs1 → cells1 ≤ cells + 1290 → slots1 ≤ slots + 9600 → lv_has ls1 9 [(0, .ref b), (1, .ref (ad 0)), (2, .ref o), (3, .ref og), (4, .int (nI i))] → W p l e room_1 s m #[Value.ref b] below meth c H1 locs1 cells1 slots1 Q (F0 m 1308 ls1 [])) : W p l e room_1 s m #[Value.ref b] below meth c H locs cells slots Q (F0 m 1141 ls []) := by
  obtain ⟨hx, hb, hml, hown, hts, hX, hbl, hK, hKL, hZ, hN1, hN2, hN3, hAp⟩ := id C
  obtain ⟨hj, hA0, hAo, hAbk, hAkp, hAog, ha1, ha2, ha3, ha4, d1, d2, d3, e1, e2, e3⟩ := id hAp
  obtain ⟨hW, hM, hOut⟩ := hq
  have hbA : ¬ (fun q : Nat => s.heap.size ≤ q) b := Nat.not_le.mpr hbl
  refine lv_aload_n hx hb dL_law_1141 rfl (lv_at hl 1 rfl) ?_
  refine lv_aload_n hx hb dL_law_1142 rfl (lv_at hl 0 rfl) ?_
  refine lv_iload hx hb dL_law_1143 (lv_at hl 4 rfl) ?_
  refine xn_iconst (v := 1) hx hb dL_law_1145 (by decide) ?_
  refine xn_iadd hx hb dL_law_1146 ?_
  refine q_sld hx hb hX hbl hbA hS (by omega) (by omega) dL_law_1147 ?_
  refine lv_aload_n hx hb dL_law_1148 rfl (lv_at hl 3 rfl) ?_
  refine vx_calli (vx_runSX (As := [.ref (ad 0), .int (xs (i + 1)), .ref og]) (rest := []) ⟨hx, hb, hml, hown, hts⟩ (wDiffer_ l hst9 D cI cC cL ad hj S hI og ha4 z (xs (i + 1))) (vx_cwSW 3 hts gL_law_L_differ rfl rfl rfl (by decide +kernel) ⟨Nat.le_of_ble_eq_true rfl, Nat.le_of_ble_eq_true rfl⟩) (xWL_PS hK hKL ((hZ.kept hS.2.1).narrow (fun q9 h9 => qAO_in hAp h9)) hN1 hN2 hN3 (P := fun H9 => xXW D cI cC ad S H9 ∧ xOut D cL og z H9) ⟨hW, hOut⟩) rfl rfl hl.1 rfl (lv_room (Nat.le_of_ble_eq_true rfl)) dL_law_1149 ⟨(by show cells + 10 ≤ 694872; omega), (by show slots + 60 ≤ 7011487; omega)⟩) hS (fun q9 _ h9 => qAO_in hAp h9) (fun q9 h9 => qAO_in hAp h9) (fun q9 _ h9 => absurd h9 id) (fun E ce q9 u t9 H1 locs1 _ _ _ hB => absurd hB id) (fun k9 u t9 H1 locs1 ht9 _ hp hF hz9 hk9 hS => ?_)
  have hF : xXW D cI cC ad (S) t9.heap ∧ xOut D cL og u t9.heap := hF
  rw [ht9] at hF
  obtain ⟨hW, hOut⟩ := hF
  obtain ⟨hk0, hu⟩ := hp
  subst hk0
  have hM := hM.kept hk9 (qAO_n hAp)
  refine lv_istore (lv' := [(5, .int (nI (tDiffer S (xs (i + 1))))), (0, .ref b), (1, .ref (ad 0)), (2, .ref o), (3, .ref og), (4, .int (nI i))]) hx hb dL_law_1152 hl (by decide) rfl (fun ls hl => ?_)
  refine lv_aload_n hx hb dL_law_1154 rfl (lv_at hl 3 rfl) ?_
  refine lv_aload_n hx hb dL_law_1155 rfl (lv_at hl 1 rfl) ?_
  refine lv_iload hx hb dL_law_1156 (lv_at hl 5 rfl) ?_
  refine xn_iconst (v := 1) hx hb dL_law_1158 (by decide) ?_
  refine xn_iadd hx hb dL_law_1159 ?_
  refine q_sld hx hb hX hbl hbA hS (by omega) (by omega) dL_law_1160 ?_
  refine xmI (As := [.int (xs (i + 1))]) (rest := []) ⟨hx, hb, hml, hown, hts⟩ (mDiffer_ l D cI cC o bk kp d1 d2 d3 t0 S hI H1.size (xs (i + 1))) (cwV 1 hts gL_law_X4_differ rfl rfl rfl (by decide +kernel) ⟨Nat.le_of_ble_eq_true rfl, Nat.le_of_ble_eq_true rfl⟩) hK ⟨rfl, hM⟩ hM.recv_ rfl hl.1 rfl (Nat.le_of_ble_eq_true rfl) dL_law_1161 ⟨(by show cells + 10 + 900 ≤ 694872; omega), (by show slots + 60 + 7200 ≤ 7011487; omega)⟩ hS (fun q9 h9 => qMA_in hAp hS.1 h9) (fun q9 h9 => qMA_in hAp hS.1 h9) (fun r9 u9 H2 locs2 hp2 hM hz8 hk8 hS => ?_)
  have hW := hW.kept hk8 (qMA_n hAp)
  have hOut : xOut D cL og u H2 := va_at.kept hOut (hk8 og (va_at.lt hOut) (qMA_og hAp (va_at.lt hOut)))
  refine lv_istore (lv' := [(6, .int r9), (5, .int (nI (tDiffer S (xs (i + 1))))), (0, .ref b), (1, .ref (ad 0)), (2, .ref o), (3, .ref og), (4, .int (nI i))]) hx hb dL_law_1164 hl (by decide) rfl (fun ls hl => ?_)
  refine lv_aload_n hx hb dL_law_1166 rfl (lv_at hl 4 rfl) ?_
  obtain ⟨bf, hMo, hb1, hb2⟩ := id hM
  refine xcV (As := []) (rest := []) ⟨hx, hb, hml, hown, hts⟩ (cX4_thrown_ l D cI cC o bk kp _ _ _ _ _ _ _) (cwV 0 hts gL_law_X4_thrown rfl rfl rfl (by decide +kernel) ⟨Nat.le_of_ble_eq_true rfl, Nat.le_of_ble_eq_true rfl⟩) hK hMo hM.recv_ rfl hl.1 rfl (Nat.le_of_ble_eq_true rfl) dL_law_1167 ⟨(by show cells + 10 + 900 ≤ 694872; omega), (by show slots + 60 + 7200 ≤ 7011487; omega)⟩ (fun x9 ex => ?_)
  subst ex
  refine lv_iload hx hb dL_law_1170 (lv_at hl 1 rfl) ?_
  refine lv_icmp_eq (tgt := 1177) hx hb dL_law_1172 (by decide) (fun _ => ?_) (fun h9 => absurd rfl h9)
  refine lv_iload hx hb dL_law_1177 (lv_at hl 1 rfl) ?_
  refine lv_if_ne (tgt := 1194) hx hb dL_law_1179 (by decide) (fun _ => ?_) (fun h9 => ?_)
  · refine lv_goto (tgt := 1308) hx hb dL_law_1194 (by decide) ?_
    exact kk _ _ _ _ _ _ _ _ (hI) ⟨hW, hM, hOut⟩ hS (by omega) (by omega) (lv_sub hl [2, 3, 4, 5, 6] rfl)
  · have ht : tDiffer S (xs (i + 1)) = 0 := q_nI0 h9 (by first | exact t1_lt | exact t2_lt | exact t3_lt)
    have hr9 := hp2 ht
    subst hr9
    have hu := hu ht
    subst hu
    refine lv_aload_n hx hb dL_law_1182 rfl (lv_at hl 5 rfl) ?_
    refine xn_iconst (v := 0) hx hb dL_law_1183 (by decide) ?_
    refine x_laldO hx hb hKL hOut dL_law_1184 ?_
    refine lv_iload hx hb dL_law_1185 (lv_at hl 0 rfl) ?_
    refine lv_i2l hx hb dL_law_1187 rfl ?_
    refine W.lcmp hx hb dL_law_1188 ?_
    rw [q_lcmp]
    refine lv_if_eq (tgt := 1194) hx hb dL_law_1189 (by decide) (fun _ => ?_) (fun h8 => absurd rfl h8)
    refine lv_goto (tgt := 1308) hx hb dL_law_1194 (by decide) ?_
    exact kk _ _ _ _ _ _ _ _ (hI) ⟨hW, hM, hOut⟩ hS (by omega) (by omega) (lv_sub hl [2, 3, 4, 5, 6] rfl)

set_option maxRecDepth 100000 in
set_option maxHeartbeats 4000000 in
theorem qAdvise_ {p : Program} {l : Launch} {e : Env} {s : State} {m : MethodId} {below : List Frame} {meth : Method} {c : Code} {b L i : Nat} {xs : Nat → Int32} {D : va_G} {cI cC cL : ClassId} {ad : Nat → Nat} {o bk kp og : Nat} {S : AS} {t0 : Nat} {z : Int64} {H : Heap} {locs : List Loc} {cells slots : Nat} {Q : State → Prop} {ls : Array Slot} (hst9 : l.stackTraces = false) (C : qC p s m c b L xs D cI cC cL ad o bk kp og) (hI : AI S) (hi : i + 2 < L) (hL : L ≤ 1536) (hq : qH D cI cC cL ad o bk kp og S t0 z H) (hS : va_S (fun q : Nat => s.heap.size ≤ q) s.heap H locs) (hc : cells + 1290 ≤ 694872) (hs : slots + 9600 ≤ 7011487) (hl : lv_has ls 9 [(0, .ref b), (1, .ref (ad 0)), (2, .ref o), (3, .ref og), (4, .int (nI i))])
    (kk : ∀ (S1 : AS) (t1 : Nat) (z1 : Int64) (H1 : Heap) (locs1 : List Loc) (cells1 slots1 : Nat) (ls1 : Array Slot), AI S1 → qH D cI cC cL ad o bk kp og S1 t1 z1 H1 → va_S (fun q : Nat => s.heap.size ≤ q) s.heap H1 locs1 → cells1 ≤ cells + 1290 → slots1 ≤ slots + 9600 → lv_has ls1 9 [(0, .ref b), (1, .ref (ad 0)), (2, .ref o), (3, .ref og), (4, .int (nI i))] → W p l e room_1 s m #[Value.ref b] below meth c H1 locs1 cells1 slots1 Q (F0 m 1308 ls1 [])) : W p l e room_1 s m #[Value.ref b] below meth c H locs cells slots Q (F0 m 1197 ls []) := by
  obtain ⟨hx, hb, hml, hown, hts, hX, hbl, hK, hKL, hZ, hN1, hN2, hN3, hAp⟩ := id C
  obtain ⟨hj, hA0, hAo, hAbk, hAkp, hAog, ha1, ha2, ha3, ha4, d1, d2, d3, e1, e2, e3⟩ := id hAp
  obtain ⟨hW, hM, hOut⟩ := hq
  have hbA : ¬ (fun q : Nat => s.heap.size ≤ q) b := Nat.not_le.mpr hbl
  refine lv_aload_n hx hb dL_law_1197 rfl (lv_at hl 1 rfl) ?_
  refine lv_aload_n hx hb dL_law_1198 rfl (lv_at hl 0 rfl) ?_
  refine lv_iload hx hb dL_law_1199 (lv_at hl 4 rfl) ?_
  refine xn_iconst (v := 1) hx hb dL_law_1201 (by decide) ?_
  refine xn_iadd hx hb dL_law_1202 ?_
  refine q_sld hx hb hX hbl hbA hS (by omega) (by omega) dL_law_1203 ?_
  refine lv_aload_n hx hb dL_law_1204 rfl (lv_at hl 3 rfl) ?_
  refine vx_calli (vx_runSX (As := [.ref (ad 0), .int (xs (i + 1)), .ref og]) (rest := []) ⟨hx, hb, hml, hown, hts⟩ (wAdvise_ l hst9 D cI cC cL ad hj S hI og ha4 z (xs (i + 1))) (vx_cwSW 3 hts gL_law_L_advise rfl rfl rfl (by decide +kernel) ⟨Nat.le_of_ble_eq_true rfl, Nat.le_of_ble_eq_true rfl⟩) (xWL_PS hK hKL ((hZ.kept hS.2.1).narrow (fun q9 h9 => qAO_in hAp h9)) hN1 hN2 hN3 (P := fun H9 => xXW D cI cC ad S H9 ∧ xOut D cL og z H9) ⟨hW, hOut⟩) rfl rfl hl.1 rfl (lv_room (Nat.le_of_ble_eq_true rfl)) dL_law_1205 ⟨(by show cells + 10 ≤ 694872; omega), (by show slots + 60 ≤ 7011487; omega)⟩) hS (fun q9 _ h9 => qAO_in hAp h9) (fun q9 h9 => qAO_in hAp h9) (fun q9 _ h9 => absurd h9 id) (fun E ce q9 u t9 H1 locs1 _ _ _ hB => absurd hB id) (fun k9 u t9 H1 locs1 ht9 _ hp hF hz9 hk9 hS => ?_)
  have hF : xXW D cI cC ad (S) t9.heap ∧ xOut D cL og u t9.heap := hF
  rw [ht9] at hF
  obtain ⟨hW, hOut⟩ := hF
  obtain ⟨hk0, hu⟩ := hp
  subst hk0
  have hM := hM.kept hk9 (qAO_n hAp)
  refine lv_istore (lv' := [(5, .int (nI (tIn S (xs (i + 1))))), (0, .ref b), (1, .ref (ad 0)), (2, .ref o), (3, .ref og), (4, .int (nI i))]) hx hb dL_law_1208 hl (by decide) rfl (fun ls hl => ?_)
  refine lv_aload_n hx hb dL_law_1210 rfl (lv_at hl 3 rfl) ?_
  refine lv_aload_n hx hb dL_law_1211 rfl (lv_at hl 1 rfl) ?_
  refine lv_iload hx hb dL_law_1212 (lv_at hl 5 rfl) ?_
  refine xn_iconst (v := 1) hx hb dL_law_1214 (by decide) ?_
  refine xn_iadd hx hb dL_law_1215 ?_
  refine q_sld hx hb hX hbl hbA hS (by omega) (by omega) dL_law_1216 ?_
  refine xmI (As := [.int (xs (i + 1))]) (rest := []) ⟨hx, hb, hml, hown, hts⟩ (mAdvise_ l D cI cC o bk kp d1 d2 d3 t0 S hI H1.size (xs (i + 1))) (cwV 1 hts gL_law_X4_advise rfl rfl rfl (by decide +kernel) ⟨Nat.le_of_ble_eq_true rfl, Nat.le_of_ble_eq_true rfl⟩) hK ⟨rfl, hM⟩ hM.recv_ rfl hl.1 rfl (Nat.le_of_ble_eq_true rfl) dL_law_1217 ⟨(by show cells + 10 + 900 ≤ 694872; omega), (by show slots + 60 + 7200 ≤ 7011487; omega)⟩ hS (fun q9 h9 => qMA_in hAp hS.1 h9) (fun q9 h9 => qMA_in hAp hS.1 h9) (fun r9 u9 H2 locs2 hp2 hM hz8 hk8 hS => ?_)
  have hW := hW.kept hk8 (qMA_n hAp)
  have hOut : xOut D cL og u H2 := va_at.kept hOut (hk8 og (va_at.lt hOut) (qMA_og hAp (va_at.lt hOut)))
  refine lv_istore (lv' := [(6, .int r9), (5, .int (nI (tIn S (xs (i + 1))))), (0, .ref b), (1, .ref (ad 0)), (2, .ref o), (3, .ref og), (4, .int (nI i))]) hx hb dL_law_1220 hl (by decide) rfl (fun ls hl => ?_)
  refine lv_aload_n hx hb dL_law_1222 rfl (lv_at hl 4 rfl) ?_
  obtain ⟨bf, hMo, hb1, hb2⟩ := id hM
  refine xcV (As := []) (rest := []) ⟨hx, hb, hml, hown, hts⟩ (cX4_thrown_ l D cI cC o bk kp _ _ _ _ _ _ _) (cwV 0 hts gL_law_X4_thrown rfl rfl rfl (by decide +kernel) ⟨Nat.le_of_ble_eq_true rfl, Nat.le_of_ble_eq_true rfl⟩) hK hMo hM.recv_ rfl hl.1 rfl (Nat.le_of_ble_eq_true rfl) dL_law_1223 ⟨(by show cells + 10 + 900 ≤ 694872; omega), (by show slots + 60 + 7200 ≤ 7011487; omega)⟩ (fun x9 ex => ?_)
  subst ex
  refine lv_iload hx hb dL_law_1226 (lv_at hl 1 rfl) ?_
  refine lv_icmp_eq (tgt := 1233) hx hb dL_law_1228 (by decide) (fun _ => ?_) (fun h9 => absurd rfl h9)
  refine lv_iload hx hb dL_law_1233 (lv_at hl 1 rfl) ?_
  refine lv_if_ne (tgt := 1250) hx hb dL_law_1235 (by decide) (fun _ => ?_) (fun h9 => ?_)
  · refine lv_goto (tgt := 1308) hx hb dL_law_1250 (by decide) ?_
    exact kk _ _ _ _ _ _ _ _ (hI) ⟨hW, hM, hOut⟩ hS (by omega) (by omega) (lv_sub hl [2, 3, 4, 5, 6] rfl)
  · have ht : tIn S (xs (i + 1)) = 0 := q_nI0 h9 (by first | exact t1_lt | exact t2_lt | exact t3_lt)
    have hr9 := hp2 ht
    subst hr9
    have hu := hu ht
    subst hu
    refine lv_aload_n hx hb dL_law_1238 rfl (lv_at hl 5 rfl) ?_
    refine xn_iconst (v := 0) hx hb dL_law_1239 (by decide) ?_
    refine x_laldO hx hb hKL hOut dL_law_1240 ?_
    refine lv_iload hx hb dL_law_1241 (lv_at hl 0 rfl) ?_
    refine lv_i2l hx hb dL_law_1243 rfl ?_
    refine W.lcmp hx hb dL_law_1244 ?_
    rw [q_lcmp]
    refine lv_if_eq (tgt := 1250) hx hb dL_law_1245 (by decide) (fun _ => ?_) (fun h8 => absurd rfl h8)
    refine lv_goto (tgt := 1308) hx hb dL_law_1250 (by decide) ?_
    exact kk _ _ _ _ _ _ _ _ (hI) ⟨hW, hM, hOut⟩ hS (by omega) (by omega) (lv_sub hl [2, 3, 4, 5, 6] rfl)

