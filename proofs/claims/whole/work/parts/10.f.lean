/-! ONE ROUND: clear, digest, mean -/
theorem xXW_recv {D : va_G} {cI cC : ClassId} {ad : Nat → Nat} {S : AS} {H : Heap} {s : State} (hK : xK D cI cC s) (h : xXW D cI cC ad S H) : ∃ cell : Cell, H[ad 0]? = some cell ∧ cell.vm.isStatics = false ∧ s.vm.findClass RX3 = some cell.cls := by
  obtain ⟨zr, zm, zs, fr, fm, fs, zf, h1, hr⟩ := h
  exact xRecv hK rfl h1
theorem qAD_n {ad : Nat → Nat} {o bk kp og sz : Nat} (h : qAp ad o bk kp og sz) : ¬ xAD ad o ∧ ¬ xAD ad bk ∧ ¬ xAD ad kp := by
  obtain ⟨h1, h2, h3⟩ := qAO_n h
  exact ⟨fun z => h1 (Or.inl z), fun z => h2 (Or.inl z), fun z => h3 (Or.inl z)⟩
theorem q_nan {b : UInt64} (h : isNaN64 b = true) : FP.Core.decode FP.Core.b64 b.toNat = .nan := by
  have h1 : (0x7ff0000000000000 : UInt64) < b &&& 0x7fffffffffffffff := by
    unfold isNaN64 at h
    exact of_decide_eq_true h
  have h2 : (0x7ff0000000000000 : UInt64).toNat < (b &&& 0x7fffffffffffffff).toNat := h1
  rw [UInt64.toNat_and] at h2
  rw [show (0x7fffffffffffffff : UInt64).toNat = 2 ^ 63 - 1 from rfl, Nat.and_two_pow_sub_one_eq_mod, show (0x7ff0000000000000 : UInt64).toNat = 9218868437227405312 from rfl] at h2
  have hE : FP.Core.fieldE FP.Core.b64 b.toNat = FP.Core.Fmt.exps FP.Core.b64 - 1 := by
    show b.toNat / 4503599627370496 % 2048 = 2048 - 1
    omega
  have hT : ¬ FP.Core.fieldT FP.Core.b64 b.toNat = 0 := by
    show ¬ b.toNat % 4503599627370496 = 0
    omega
  unfold FP.Core.decode
  rw [if_pos hE, if_neg hT]
theorem q_cmpN {a b : UInt64} (h : isNaN64 a = true) : FP.dcmp a b = none := by
  show FP.Core.order (FP.Core.decode FP.Core.b64 a.toNat) (FP.Core.decode FP.Core.b64 b.toNat) = none
  rw [q_nan h]
  rfl
theorem q_icmp (x : Int) : compare x x = .eq := by simp [compare, compareOfLessAndEq]
theorem q_cmpS (r : UInt64) : FP.dcmp r r = none ∨ FP.dcmp r r = some .eq := by
  show FP.Core.order (FP.Core.decode FP.Core.b64 r.toNat) (FP.Core.decode FP.Core.b64 r.toNat) = none ∨ FP.Core.order (FP.Core.decode FP.Core.b64 r.toNat) (FP.Core.decode FP.Core.b64 r.toNat) = some .eq
  generalize FP.Core.decode FP.Core.b64 r.toNat = d
  cases d with
  | nan => exact Or.inl rfl
  | inf s => exact Or.inr (congrArg some (q_icmp _))
  | fin s c q => exact Or.inr (congrArg some (q_icmp _))
theorem q_mean {S : AS} {r1 r2 : UInt64} (h1 : mnP S r1) (h2 : mnP S r2) : Op.cmpValue (FP.dcmp r1 r2) CmpOp.l = 0 ∨ (¬ Op.cmpValue (FP.dcmp r1 r1) CmpOp.l = 0 ∧ ¬ Op.cmpValue (FP.dcmp r2 r2) CmpOp.l = 0) := by
  have he : r1 = r2 ∨ (isNaN64 r1 = true ∧ isNaN64 r2 = true) := by
    unfold mnP at h1 h2
    by_cases c : S.2.1 = 0
    · rw [if_pos c] at h1 h2
      exact Or.inl (h1.trans h2.symm)
    · rw [if_neg c] at h1 h2
      unfold alike64 at h1 h2
      simp only [Bool.or_eq_true, decide_eq_true_eq, Bool.and_eq_true] at h1 h2
      rcases h1 with h1 | h1
      · rcases h2 with h2 | h2
        · exact Or.inl (h1.trans h2.symm)
        · exact Or.inr ⟨by rw [h1]; exact h2.2, h2.1⟩
      · rcases h2 with h2 | h2
        · exact Or.inr ⟨h1.1, by rw [h2]; exact h1.2⟩
        · exact Or.inr ⟨h1.1, h2.1⟩
  rcases he with e | ⟨n1, n2⟩
  · subst e
    rcases q_cmpS r1 with e | e
    · rw [e]; exact Or.inr ⟨by decide, by decide⟩
    · rw [e]; exact Or.inl rfl
  · rw [q_cmpN (b := r1) n1, q_cmpN (b := r2) n2]; exact Or.inr ⟨by decide, by decide⟩
section XZL
variable {p : Program} {l : Launch} {e : Env} {R : Room} {s : State} {m : MethodId} {args : Array Value} {below : List Frame} {meth : Method} {c : Code} {H : Heap} {locs : List Loc} {cells slots : Nat} {Q : State → Prop}
variable {mc ms : Nat} {free : Addr → Prop} {A0 A1 : Nat → Prop} {H0 : Heap} {pc : Nat} {ls : Array Slot} {st0 rest : List Value}
variable {D : va_G} {cI cC : ClassId} {P : Heap → Prop} {A2 : Nat → Prop} {y : MethodName} {bytes cc : ByteArray} {maxL nL n index : Nat} {ret : Option FieldType} {ws : List Cond} {rm : Room} {Ts : List Cond} {own C : String} {b : Addr} {As : List Value}
theorem xzL {S0 : Type} {post : Int64 → S0 → Prop} {F : S0 → Heap → Prop} (S : CallFix p m c cc nL s args Ts own) (hM : Met l y ws rm (va_Pc (.ref b :: As) (xBZ D cI cC P A2)) (xL post F A1) mc ms free) (cw : CallW R s args own C index y bytes maxL ret ws rm mc ms n) (hK : xK D cI cC s) (hZ : xZ A2 s H) (hP : P H) (hr : ∃ cellB : Cell, H[b]? = some cellB ∧ cellB.vm.isStatics = false ∧ s.vm.findClass C = some cellB.cls)
    (hn : As.length = n) (hl : ls.size = nL) (hst : st0 = As.reverse ++ .ref b :: rest) (hcat : (rest.map fun v => v.category).sum ≤ 8) (hdg : decode cc pc = .ok (.invokevirtual index, 3)) (hf : cells + mc ≤ R.cells ∧ slots + ms ≤ R.slots)
    (hS : va_S A0 H0 H locs) (hA : ∀ q, A1 q → A0 q) (hfr : ∀ q, free q → A0 q)
    (kk : ∀ (r : Int64) (u : S0) (H1 : Heap) (locs1 : List Loc), post r u → F u H1 → H.size ≤ H1.size → (∀ q : Nat, q < H.size → ¬ A1 q → H1[q]? = H[q]?) → va_S A0 H0 H1 locs1 → W p l e R s m args below meth c H1 locs1 (cells + mc) (slots + ms) Q (F0 m (pc + 3) ls (.long r :: rest))) : W p l e R s m args below meth c H locs cells slots Q (F0 m pc ls st0) :=
  va_calll (va_runV S hM cw (xZPV hK hZ hP hr) rfl hn hl hst (lv_room hcat) hdg hf) hS (fun q _ h => hA q h) hfr (fun r u t H1 locs1 ht _ hp hF hz hk hS1 => kk r u H1 locs1 hp (ht ▸ hF) hz hk hS1)
end XZL
set_option maxRecDepth 100000 in
set_option maxHeartbeats 4000000 in
theorem qClear_ {p : Program} {l : Launch} {e : Env} {s : State} {m : MethodId} {below : List Frame} {meth : Method} {c : Code} {b L i : Nat} {xs : Nat → Int32} {D : va_G} {cI cC cL : ClassId} {ad : Nat → Nat} {o bk kp og : Nat} {S : AS} {t0 : Nat} {z : Int64} {H : Heap} {locs : List Loc} {cells slots : Nat} {Q : State → Prop} {ls : Array Slot} (hst9 : l.stackTraces = false) (C : qC p s m c b L xs D cI cC cL ad o bk kp og) (hI : AI S) (hi : i + 2 < L) (hL : L ≤ 1536) (hq : qH D cI cC cL ad o bk kp og S t0 z H) (hS : va_S (fun q : Nat => s.heap.size ≤ q) s.heap H locs) (hc : cells + 1290 ≤ 694872) (hs : slots + 9600 ≤ 7011487) (hl : lv_has ls 9 [(0, .ref b), (1, .ref (ad 0)), (2, .ref o), (3, .ref og), (4, .int (nI i))])
    (kk : ∀ (S1 : AS) (t1 : Nat) (z1 : Int64) (H1 : Heap) (locs1 : List Loc) (cells1 slots1 : Nat) (ls1 : Array Slot), AI S1 → qH D cI cC cL ad o bk kp og S1 t1 z1 H1 → va_S (fun q : Nat => s.heap.size ≤ q) s.heap H1 locs1 → cells1 ≤ cells + 1290 → slots1 ≤ slots + 9600 → lv_has ls1 9 [(0, .ref b), (1, .ref (ad 0)), (2, .ref o), (3, .ref og), (4, .int (nI i))] → W p l e room_1 s m #[Value.ref b] below meth c H1 locs1 cells1 slots1 Q (F0 m 1308 ls1 [])) : W p l e room_1 s m #[Value.ref b] below meth c H locs cells slots Q (F0 m 620 ls []) := by
  obtain ⟨hx, hb, hml, hown, hts, hX, hbl, hK, hKL, hZ, hN1, hN2, hN3, hAp⟩ := id C
  obtain ⟨hj, hA0, hAo, hAbk, hAkp, hAog, ha1, ha2, ha3, ha4, d1, d2, d3, e1, e2, e3⟩ := id hAp
  obtain ⟨hW, hM, hOut⟩ := hq
  have hbA : ¬ (fun q : Nat => s.heap.size ≤ q) b := Nat.not_le.mpr hbl
  refine lv_aload_n hx hb dL_law_620 rfl (lv_at hl 1 rfl) ?_
  refine xzI (As := []) (rest := []) ⟨hx, hb, hml, hown, hts⟩ (kClear_ l hst9 D cI cC ad hj S hI) (cwV 0 hts gL_law_X3_clear rfl rfl rfl (by decide +kernel) ⟨Nat.le_of_ble_eq_true rfl, Nat.le_of_ble_eq_true rfl⟩) hK ((hZ.kept hS.2.1).narrow (fun q9 h9 => qAO_in hAp (Or.inl h9))) hW (xXW_recv hK hW) rfl hl.1 rfl (Nat.le_of_ble_eq_true rfl) dL_law_621 ⟨(by show cells + 0 ≤ 694872; omega), (by show slots + 0 ≤ 7011487; omega)⟩ hS (fun q9 h9 => qAO_in hAp (Or.inl h9)) (fun q9 h9 => qAO_in hAp (Or.inl h9)) (fun k9 u H1 locs1 hp hF hz9 hk9 hS => ?_)
  have hW : xXW D cI cC ad (nClear S) H1 := hF
  have hM := hM.kept hk9 (qAD_n hAp)
  have hOut : xOut D cL og z H1 := va_at.kept hOut (hk9 og (va_at.lt hOut) (fun h => by obtain ⟨i9, h8, h9⟩ := h; exact ha4 i9 h8 h9.symm))
  subst hp
  refine lv_aload_n hx hb dL_law_624 rfl (lv_at hl 2 rfl) ?_
  refine xmI (As := []) (rest := [.int (rClear S)]) ⟨hx, hb, hml, hown, hts⟩ (mClear_ l D cI cC o bk kp d1 d2 d3 t0 S hI H1.size) (cwV 0 hts gL_law_X4_clear rfl rfl rfl (by decide +kernel) ⟨Nat.le_of_ble_eq_true rfl, Nat.le_of_ble_eq_true rfl⟩) hK ⟨rfl, hM⟩ hM.recv_ rfl hl.1 rfl (Nat.le_of_ble_eq_true rfl) dL_law_625 ⟨(by show cells + 0 + 900 ≤ 694872; omega), (by show slots + 0 + 7200 ≤ 7011487; omega)⟩ hS (fun q9 h9 => qMA_in hAp hS.1 h9) (fun q9 h9 => qMA_in hAp hS.1 h9) (fun r9 u9 H2 locs2 hp2 hM hz8 hk8 hS => ?_)
  have hW := hW.kept hk8 (qMA_n hAp)
  have hOut : xOut D cL og z H2 := va_at.kept hOut (hk8 og (va_at.lt hOut) (qMA_og hAp (va_at.lt hOut)))
  have hr9 := hp2 rfl
  subst hr9
  refine lv_icmp_eq (tgt := 1308) hx hb dL_law_628 (by decide) (fun _ => ?_) (fun h9 => absurd rfl h9)
  exact kk _ _ _ _ _ _ _ _ (AI_clear hI) ⟨hW, hM, hOut⟩ hS (by omega) (by omega) (lv_sub hl [0, 1, 2, 3, 4] rfl)

set_option maxRecDepth 100000 in
set_option maxHeartbeats 4000000 in
theorem qDigest_ {p : Program} {l : Launch} {e : Env} {s : State} {m : MethodId} {below : List Frame} {meth : Method} {c : Code} {b L i : Nat} {xs : Nat → Int32} {D : va_G} {cI cC cL : ClassId} {ad : Nat → Nat} {o bk kp og : Nat} {S : AS} {t0 : Nat} {z : Int64} {H : Heap} {locs : List Loc} {cells slots : Nat} {Q : State → Prop} {ls : Array Slot} (hst9 : l.stackTraces = false) (C : qC p s m c b L xs D cI cC cL ad o bk kp og) (hI : AI S) (hi : i + 2 < L) (hL : L ≤ 1536) (hq : qH D cI cC cL ad o bk kp og S t0 z H) (hS : va_S (fun q : Nat => s.heap.size ≤ q) s.heap H locs) (hc : cells + 1290 ≤ 694872) (hs : slots + 9600 ≤ 7011487) (hl : lv_has ls 9 [(0, .ref b), (1, .ref (ad 0)), (2, .ref o), (3, .ref og), (4, .int (nI i))])
    (kk : ∀ (S1 : AS) (t1 : Nat) (z1 : Int64) (H1 : Heap) (locs1 : List Loc) (cells1 slots1 : Nat) (ls1 : Array Slot), AI S1 → qH D cI cC cL ad o bk kp og S1 t1 z1 H1 → va_S (fun q : Nat => s.heap.size ≤ q) s.heap H1 locs1 → cells1 ≤ cells + 1290 → slots1 ≤ slots + 9600 → lv_has ls1 9 [(0, .ref b), (1, .ref (ad 0)), (2, .ref o), (3, .ref og), (4, .int (nI i))] → W p l e room_1 s m #[Value.ref b] below meth c H1 locs1 cells1 slots1 Q (F0 m 1308 ls1 [])) : W p l e room_1 s m #[Value.ref b] below meth c H locs cells slots Q (F0 m 1294 ls []) := by
  obtain ⟨hx, hb, hml, hown, hts, hX, hbl, hK, hKL, hZ, hN1, hN2, hN3, hAp⟩ := id C
  obtain ⟨hj, hA0, hAo, hAbk, hAkp, hAog, ha1, ha2, ha3, ha4, d1, d2, d3, e1, e2, e3⟩ := id hAp
  obtain ⟨hW, hM, hOut⟩ := hq
  have hbA : ¬ (fun q : Nat => s.heap.size ≤ q) b := Nat.not_le.mpr hbl
  refine lv_aload_n hx hb dL_law_1294 rfl (lv_at hl 1 rfl) ?_
  refine xzL (As := []) (rest := []) ⟨hx, hb, hml, hown, hts⟩ (kDigest_ l hst9 D cI cC ad hj S hI) (cwV 0 hts gL_law_X3_digest rfl rfl rfl (by decide +kernel) ⟨Nat.le_of_ble_eq_true rfl, Nat.le_of_ble_eq_true rfl⟩) hK ((hZ.kept hS.2.1).narrow (fun q9 h9 => qAO_in hAp (Or.inl h9))) hW (xXW_recv hK hW) rfl hl.1 rfl (Nat.le_of_ble_eq_true rfl) dL_law_1295 ⟨(by show cells + 384 ≤ 694872; omega), (by show slots + 2304 ≤ 7011487; omega)⟩ hS (fun q9 h9 => qAO_in hAp (Or.inl h9)) (fun q9 h9 => qAO_in hAp (Or.inl h9)) (fun k9 u H1 locs1 hp hF hz9 hk9 hS => ?_)
  have hW : xXW D cI cC ad (S) H1 := hF
  have hM := hM.kept hk9 (qAD_n hAp)
  have hOut : xOut D cL og z H1 := va_at.kept hOut (hk9 og (va_at.lt hOut) (fun h => by obtain ⟨i9, h8, h9⟩ := h; exact ha4 i9 h8 h9.symm))
  subst hp
  refine lv_aload_n hx hb dL_law_1298 rfl (lv_at hl 2 rfl) ?_
  refine xmL (As := []) (rest := [.long (dgS S)]) ⟨hx, hb, hml, hown, hts⟩ (mDigest_ l D cI cC o bk kp d1 d2 d3 t0 S hI H1.size) (cwV 0 hts gL_law_X4_digest rfl rfl rfl (by decide +kernel) ⟨Nat.le_of_ble_eq_true rfl, Nat.le_of_ble_eq_true rfl⟩) hK ⟨rfl, hM⟩ hM.recv_ rfl hl.1 rfl (Nat.le_of_ble_eq_true rfl) dL_law_1299 ⟨(by show cells + 384 + 900 ≤ 694872; omega), (by show slots + 2304 + 7200 ≤ 7011487; omega)⟩ hS (fun q9 h9 => qMA_in hAp hS.1 h9) (fun q9 h9 => qMA_in hAp hS.1 h9) (fun r9 u9 H2 locs2 hp2 hM hz8 hk8 hS => ?_)
  have hW := hW.kept hk8 (qMA_n hAp)
  have hOut : xOut D cL og z H2 := va_at.kept hOut (hk8 og (va_at.lt hOut) (qMA_og hAp (va_at.lt hOut)))
  subst hp2
  refine W.lcmp hx hb dL_law_1302 ?_
  rw [q_lcmp]
  refine lv_if_eq (tgt := 1308) hx hb dL_law_1303 (by decide) (fun _ => ?_) (fun h9 => absurd rfl h9)
  exact kk _ _ _ _ _ _ _ _ (hI) ⟨hW, hM, hOut⟩ hS (by omega) (by omega) (lv_sub hl [0, 1, 2, 3, 4] rfl)

set_option maxRecDepth 100000 in
set_option maxHeartbeats 4000000 in
theorem qMean_ {p : Program} {l : Launch} {e : Env} {s : State} {m : MethodId} {below : List Frame} {meth : Method} {c : Code} {b L i : Nat} {xs : Nat → Int32} {D : va_G} {cI cC cL : ClassId} {ad : Nat → Nat} {o bk kp og : Nat} {S : AS} {t0 : Nat} {z : Int64} {H : Heap} {locs : List Loc} {cells slots : Nat} {Q : State → Prop} {ls : Array Slot} {d0 : Drawn} (hd0 : s.drawn.sameBut d0 lw_cs) (hst9 : l.stackTraces = false) (C : qC p s m c b L xs D cI cC cL ad o bk kp og) (hI : AI S) (hi : i + 2 < L) (hL : L ≤ 1536) (hq : qH D cI cC cL ad o bk kp og S t0 z H) (hS : va_S (fun q : Nat => s.heap.size ≤ q) s.heap H locs) (hc : cells + 1290 ≤ 694872) (hs : slots + 9600 ≤ 7011487) (hl : lv_has ls 9 [(0, .ref b), (1, .ref (ad 0)), (2, .ref o), (3, .ref og), (4, .int (nI i))])
    (kk : ∀ (S1 : AS) (t1 : Nat) (z1 : Int64) (H1 : Heap) (locs1 : List Loc) (cells1 slots1 : Nat) (ls1 : Array Slot) (d9 : Drawn), s.drawn.sameBut d9 lw_cs → AI S1 → qH D cI cC cL ad o bk kp og S1 t1 z1 H1 → va_S (fun q : Nat => s.heap.size ≤ q) s.heap H1 locs1 → cells1 ≤ cells + 1290 → slots1 ≤ slots + 9600 → lv_has ls1 9 [(0, .ref b), (1, .ref (ad 0)), (2, .ref o), (3, .ref og), (4, .int (nI i))] → W p l e room_1 (s.setDrawn d9) m #[Value.ref b] below meth c H1 locs1 cells1 slots1 Q (F0 m 1308 ls1 [])) : W p l e room_1 (s.setDrawn d0) m #[Value.ref b] below meth c H locs cells slots Q (F0 m 1253 ls []) := by
  obtain ⟨hx, hb, hml, hown, hts, hX, hbl, hK, hKL, hZ, hN1, hN2, hN3, hAp⟩ := id C
  obtain ⟨hj, hA0, hAo, hAbk, hAkp, hAog, ha1, ha2, ha3, ha4, d1, d2, d3, e1, e2, e3⟩ := id hAp
  obtain ⟨hW, hM, hOut⟩ := hq
  have hbA : ¬ (fun q : Nat => s.heap.size ≤ q) b := Nat.not_le.mpr hbl
  have hts := dr_words hts d0
  refine lv_aload_n hx hb dL_law_1253 rfl (lv_at hl 1 rfl) ?_
  refine va_calldD hd0 (va_runV_D (As := []) (rest := []) ⟨hx, hb, hml, hown, hts⟩ (kMean_ l D cI cC ad hj S hI) (cwV 0 hts gL_law_X3_mean rfl rfl rfl (by decide +kernel) ⟨Nat.le_of_ble_eq_true rfl, Nat.le_of_ble_eq_true rfl⟩) (xPV (s := s.setDrawn d0) hK hW (xXW_recv hK hW)) rfl rfl hl.1 rfl (lv_room (Nat.le_of_ble_eq_true rfl)) dL_law_1254 ⟨(by show cells + 0 ≤ 694872; omega), (by show slots + 0 ≤ 7011487; omega)⟩) hS (fun q9 _ h9 => qAO_in hAp (Or.inl h9)) (fun q9 h9 => qAO_in hAp (Or.inl h9)) (fun r1 u t9 H1 locs1 ht9 _ hp1 hF hz9 hk9 hS d1_ hd1 => ?_)
  have hF : xXW D cI cC ad S t9.heap := hF
  rw [ht9] at hF
  have hW := hF
  have hM := hM.kept hk9 (qAD_n hAp)
  have hOut : xOut D cL og z H1 := va_at.kept hOut (hk9 og (va_at.lt hOut) (fun h => by obtain ⟨i9, h8, h9⟩ := h; exact ha4 i9 h8 h9.symm))
  have hts := dr_words C.2.2.2.2.1 d1_
  refine lv_dstore (lv' := [(5, .double r1), (0, .ref b), (1, .ref (ad 0)), (2, .ref o), (3, .ref og), (4, .int (nI i))]) hx hb dL_law_1257 hl (by decide) rfl (fun ls hl => ?_)
  refine lv_aload_n hx hb dL_law_1259 rfl (lv_at hl 3 rfl) ?_
  refine va_calldD hd1 (va_runV_D (As := []) (rest := []) ⟨hx, hb, hml, hown, hts⟩ (mMean_ l D cI cC o bk kp d1 d2 d3 t0 S hI H1.size) (cwV 0 hts gL_law_X4_mean rfl rfl rfl (by decide +kernel) ⟨Nat.le_of_ble_eq_true rfl, Nat.le_of_ble_eq_true rfl⟩) (xPV (s := s.setDrawn d1_) hK (P := fun H9 => H9.size = H1.size ∧ xMW D cI o bk kp t0 S H9) ⟨rfl, hM⟩ (hM.recv_ (hK := hK))) rfl rfl hl.1 rfl (lv_room (Nat.le_of_ble_eq_true rfl)) dL_law_1260 ⟨(by show cells + 0 + 900 ≤ 694872; omega), (by show slots + 0 + 7200 ≤ 7011487; omega)⟩) hS (fun q9 _ h9 => qMA_in hAp hS.1 h9) (fun q9 h9 => qMA_in hAp hS.1 h9) (fun r2 u2 t8 H2 locs2 ht8 _ hp2 hF2 hz8 hk8 hS d2_ hd2 => ?_)
  have hF2 : xMW D cI o bk kp 0 S t8.heap := hF2
  rw [ht8] at hF2
  have hM := hF2
  have hW := hW.kept hk8 (qMA_n hAp)
  have hOut : xOut D cL og z H2 := va_at.kept hOut (hk8 og (va_at.lt hOut) (qMA_og hAp (va_at.lt hOut)))
  refine lv_dstore (lv' := [(7, .double r2), (5, .double r1), (0, .ref b), (1, .ref (ad 0)), (2, .ref o), (3, .ref og), (4, .int (nI i))]) hx hb dL_law_1263 hl (by decide) rfl (fun ls hl => ?_)
  refine lv_dload hx hb dL_law_1265 (lv_at hl 1 rfl) ?_
  refine lv_dload hx hb dL_law_1267 (lv_at hl 0 rfl) ?_
  have hmm := q_mean (S := S) hp1 hp2
  refine lv_dcmp hx hb dL_law_1269 ?_
  refine lv_if_eq (tgt := 1291) hx hb dL_law_1270 (by decide) (fun _ => ?_) (fun h9 => ?_)
  · refine lv_goto (tgt := 1308) hx hb dL_law_1291 (by decide) ?_
    exact kk _ _ _ _ _ _ _ _ _ hd2 hI ⟨hW, hM, hOut⟩ hS (by omega) (by omega) (lv_sub hl [2, 3, 4, 5, 6] rfl)
  · obtain ⟨hn1, hn2⟩ := hmm.resolve_left h9
    refine lv_dload hx hb dL_law_1273 (lv_at hl 1 rfl) ?_
    refine lv_dload hx hb dL_law_1275 (lv_at hl 1 rfl) ?_
    refine lv_dcmp hx hb dL_law_1277 ?_
    refine lv_if_eq (tgt := 1289) hx hb dL_law_1278 (by decide) (fun h8 => absurd h8 hn1) (fun _ => ?_)
    refine lv_dload hx hb dL_law_1281 (lv_at hl 0 rfl) ?_
    refine lv_dload hx hb dL_law_1283 (lv_at hl 0 rfl) ?_
    refine lv_dcmp hx hb dL_law_1285 ?_
    refine lv_if_ne (tgt := 1291) hx hb dL_law_1286 (by decide) (fun _ => ?_) (fun h8 => absurd h8 hn2)
    refine lv_goto (tgt := 1308) hx hb dL_law_1291 (by decide) ?_
    exact kk _ _ _ _ _ _ _ _ _ hd2 hI ⟨hW, hM, hOut⟩ hS (by omega) (by omega) (lv_sub hl [2, 3, 4, 5, 6] rfl)

