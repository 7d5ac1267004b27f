/-! THE LAW'S LOOP -/

theorem qC_dr {p : Program} {s : State} {m : MethodId} {c : Code} {b L : Nat} {xs : Nat → Int32} {D : va_G} {cI cC cL : ClassId} {ad : Nat → Nat} {o bk kp og : Nat} (C : qC p s m c b L xs D cI cC cL ad o bk kp og) (d0 : Drawn) : qC p (s.setDrawn d0) m c b L xs D cI cC cL ad o bk kp og := by
  obtain ⟨hx, hb, hml, hown, hts, hX, hbl, hK, hKL, hZ, hN1, hN2, hN3, hAp⟩ := C
  exact ⟨hx, hb, hml, hown, dr_words hts d0, va_X.moved (u := s) (U := s.setDrawn d0) (Vm.Alike.refl s.vm) hX, hbl, va_K.moved (u := s) (U := s.setDrawn d0) (Vm.Alike.refl s.vm) hK, va_K.moved (u := s) (U := s.setDrawn d0) (Vm.Alike.refl s.vm) hKL, ⟨vx_Zq.moved (u := s) (U := s.setDrawn d0) (Vm.Alike.refl s.vm) hZ.1, vx_Zq.moved (u := s) (U := s.setDrawn d0) (Vm.Alike.refl s.vm) hZ.2.1, fun w hw => by
    obtain ⟨b9, hb9⟩ := hZ.2.2.1 w hw
    exact ⟨b9, vk_R.same (u := s) (U := s.setDrawn d0) rfl hb9⟩, fun w hw => va_Nw.same (xBad_tab w hw) (u := s) (U := s.setDrawn d0) rfl (hZ.2.2.2 w hw)⟩, hN1, hN2, hN3, hAp⟩
set_option maxRecDepth 100000 in
set_option maxHeartbeats 4000000 in
theorem qLoop_ {p : Program} {l : Launch} {e : Env} {s : State} {m : MethodId} {below : List Frame} {meth : Method} {c : Code} {b L : Nat} {xs : Nat → Int32} {D : va_G} {cI cC cL : ClassId} {ad : Nat → Nat} {o bk kp og : Nat} {Q : State → Prop} (hst9 : l.stackTraces = false) (C : qC p s m c b L xs D cI cC cL ad o bk kp og) (hL : L ≤ 1536) (hL3 : 3 ≤ L)
    (K : ∀ (H1 : Heap) (locs1 : List Loc) (cells1 slots1 : Nat) (ls1 : Array Slot) (d9 : Drawn), s.drawn.sameBut d9 lw_cs → va_S (fun q : Nat => s.heap.size ≤ q) s.heap H1 locs1 → cells1 ≤ 694872 → slots1 ≤ 7011487 → W p l e room_1 (s.setDrawn d9) m #[Value.ref b] below meth c H1 locs1 cells1 slots1 Q (F0 m 1314 ls1 [])) :
    ∀ (k i : Nat) (S : AS) (t0 : Nat) (z : Int64) (H : Heap) (locs : List Loc) (cells slots : Nat) (ls : Array Slot) (d0 : Drawn), s.drawn.sameBut d0 lw_cs → AI S → qH D cI cC cL ad o bk kp og S t0 z H → va_S (fun q : Nat => s.heap.size ≤ q) s.heap H locs → (L < i + 3 * k + 3 ∧ i ≤ L) → cells + 1290 * k ≤ 694872 → slots + 9600 * k ≤ 7011487 → lv_has ls 9 [(0, .ref b), (1, .ref (ad 0)), (2, .ref o), (3, .ref og), (4, .int (nI i))] → W p l e room_1 (s.setDrawn d0) m #[Value.ref b] below meth c H locs cells slots Q (F0 m 23 ls []) := by
  obtain ⟨hx, hb, hml, hown, hts, hX, hbl, hK, hKL, hZ, hN1, hN2, hN3, hAp⟩ := id C
  have hbA : ¬ (fun q : Nat => s.heap.size ≤ q) b := Nat.not_le.mpr hbl
  intro k
  induction k with
  | zero =>
    intro i S t0 z H locs cells slots ls d0 hd0 hI hq hS hk hc hs hl
    refine lv_iload hx hb dL_law_23 (lv_at hl 4 rfl) ?_
    refine lv_aload_n hx hb dL_law_25 rfl (lv_at hl 0 rfl) ?_
    refine va_slen hx hb hX hbl hbA hS dL_law_26 ?_
    refine xz_i (show Int32.ofNat L = nI L from rfl) ?_
    refine xn_iconst (v := 3) hx hb dL_law_27 (by decide) ?_
    refine xn_isub hx hb (by omega) dL_law_28 ?_
    refine xn_icmp_gt (tgt := 1314) hx hb dL_law_29 (by decide) (by omega) (by omega) (fun c29 => ?_) (fun c29 => ?_)
    · exact K _ _ _ _ _ _ hd0 hS (by omega) (by omega)
    · exact absurd c29 (by omega)
  | succ k ih =>
    intro i S t0 z H locs cells slots ls d0 hd0 hI hq hS hk hc hs hl
    refine lv_iload hx hb dL_law_23 (lv_at hl 4 rfl) ?_
    refine lv_aload_n hx hb dL_law_25 rfl (lv_at hl 0 rfl) ?_
    refine va_slen hx hb hX hbl hbA hS dL_law_26 ?_
    refine xz_i (show Int32.ofNat L = nI L from rfl) ?_
    refine xn_iconst (v := 3) hx hb dL_law_27 (by decide) ?_
    refine xn_isub hx hb (by omega) dL_law_28 ?_
    refine xn_icmp_gt (tgt := 1314) hx hb dL_law_29 (by decide) (by omega) (by omega) (fun c29 => ?_) (fun c29 => ?_)
    · exact K _ _ _ _ _ _ hd0 hS (by omega) (by omega)
    · have hi : i + 2 < L := by omega
      have J : ∀ (S1 : AS) (t1 : Nat) (z1 : Int64) (H1 : Heap) (locs1 : List Loc) (cells1 slots1 : Nat) (ls1 : Array Slot) (d9 : Drawn), s.drawn.sameBut d9 lw_cs → AI S1 → qH D cI cC cL ad o bk kp og S1 t1 z1 H1 → va_S (fun q : Nat => s.heap.size ≤ q) s.heap H1 locs1 → cells1 ≤ cells + 1290 → slots1 ≤ slots + 9600 → lv_has ls1 9 [(0, .ref b), (1, .ref (ad 0)), (2, .ref o), (3, .ref og), (4, .int (nI i))] → W p l e room_1 (s.setDrawn d9) m #[Value.ref b] below meth c H1 locs1 cells1 slots1 Q (F0 m 1308 ls1 []) := by
        intro S1 t1 z1 H1 locs1 cells1 slots1 ls1 d9 hd9 hI1 hq1 hS1 hc1 hs1 hl1
        refine xn_iinc (v := i + 3) (lv' := [(4, .int (nI (i + 3))), (0, .ref b), (1, .ref (ad 0)), (2, .ref o), (3, .ref og)]) hx hb dL_law_1308 hl1 (k := 4) rfl (xinc3 _) (by decide) rfl (fun ls2 hl2 => ?_)
        refine lv_goto (tgt := 23) hx hb dL_law_1311 (by decide) ?_
        exact ih (i + 3) S1 t1 z1 H1 locs1 cells1 slots1 ls2 d9 hd9 hI1 hq1 hS1 (by omega) (by omega) (by omega) (lv_sub hl2 [1, 2, 3, 4, 0] rfl)
      refine lv_aload_n hx hb dL_law_32 rfl (lv_at hl 0 rfl) ?_
      refine lv_iload hx hb dL_law_33 (lv_at hl 4 rfl) ?_
      refine q_sld (s := s.setDrawn d0) hx hb (va_X.moved (u := s) (U := s.setDrawn d0) (Vm.Alike.refl s.vm) hX) hbl hbA hS (by omega) (by omega) dL_law_35 ?_
      refine xn_bipush (v := 31) hx hb dL_law_36 (by decide) ?_
      refine lv_iand hx hb dL_law_38 ?_
      generalize xs i &&& nI 31 = w
      have C0 := qC_dr C d0
      by_cases hy : inR w 21
      · obtain ⟨j, hj, hj31, rfl⟩ := inR_of hy
        rcases (show j = 0 ∨ j = 1 ∨ j = 2 ∨ j = 3 ∨ j = 4 ∨ j = 5 ∨ j = 6 ∨ j = 7 ∨ j = 8 ∨ j = 9 ∨ j = 10 ∨ j = 11 ∨ j = 12 ∨ j = 13 ∨ j = 14 ∨ j = 15 ∨ j = 16 ∨ j = 17 ∨ j = 18 ∨ j = 19 ∨ j = 20 by omega) with rfl | rfl | rfl | rfl | rfl | rfl | rfl | rfl | rfl | rfl | rfl | rfl | rfl | rfl | rfl | rfl | rfl | rfl | rfl | rfl | rfl
        · refine lv_tableIn (off := 97) (tgt := 136) hx hb dL_law_39 (by decide) (by decide) rfl (by decide) ?_
          exact qSetBells_ (s := s.setDrawn d0) hst9 C0 hI hi hL hq hS (by omega) (by omega) hl (fun S1 t1 z1 H1 locs1 cells1 slots1 ls1 => J S1 t1 z1 H1 locs1 cells1 slots1 ls1 d0 hd0)
        · refine lv_tableIn (off := 153) (tgt := 192) hx hb dL_law_39 (by decide) (by decide) rfl (by decide) ?_
          exact qWrite_ (s := s.setDrawn d0) hst9 C0 hI hi hL hq hS (by omega) (by omega) hl (fun S1 t1 z1 H1 locs1 cells1 slots1 ls1 => J S1 t1 z1 H1 locs1 cells1 slots1 ls1 d0 hd0)
        · refine lv_tableIn (off := 209) (tgt := 248) hx hb dL_law_39 (by decide) (by decide) rfl (by decide) ?_
          exact qSwap_ (s := s.setDrawn d0) hst9 C0 hI hi hL hq hS (by omega) (by omega) hl (fun S1 t1 z1 H1 locs1 cells1 slots1 ls1 => J S1 t1 z1 H1 locs1 cells1 slots1 ls1 d0 hd0)
        · refine lv_tableIn (off := 277) (tgt := 316) hx hb dL_law_39 (by decide) (by decide) rfl (by decide) ?_
          exact qNext_ (s := s.setDrawn d0) hst9 C0 hI hi hL hq hS (by omega) (by omega) hl (fun S1 t1 z1 H1 locs1 cells1 slots1 ls1 => J S1 t1 z1 H1 locs1 cells1 slots1 ls1 d0 hd0)
        · refine lv_tableIn (off := 333) (tgt := 372) hx hb dL_law_39 (by decide) (by decide) rfl (by decide) ?_
          exact qBehind_ (s := s.setDrawn d0) hst9 C0 hI hi hL hq hS (by omega) (by omega) hl (fun S1 t1 z1 H1 locs1 cells1 slots1 ls1 => J S1 t1 z1 H1 locs1 cells1 slots1 ls1 d0 hd0)
        · refine lv_tableIn (off := 401) (tgt := 440) hx hb dL_law_39 (by decide) (by decide) rfl (by decide) ?_
          exact qBack_ (s := s.setDrawn d0) hst9 C0 hI hi hL hq hS (by omega) (by omega) hl (fun S1 t1 z1 H1 locs1 cells1 slots1 ls1 => J S1 t1 z1 H1 locs1 cells1 slots1 ls1 d0 hd0)
        · refine lv_tableIn (off := 457) (tgt := 496) hx hb dL_law_39 (by decide) (by decide) rfl (by decide) ?_
          exact qRepeat_ (s := s.setDrawn d0) hst9 C0 hI hi hL hq hS (by omega) (by omega) hl (fun S1 t1 z1 H1 locs1 cells1 slots1 ls1 => J S1 t1 z1 H1 locs1 cells1 slots1 ls1 d0 hd0)
        · refine lv_tableIn (off := 525) (tgt := 564) hx hb dL_law_39 (by decide) (by decide) rfl (by decide) ?_
          exact qStep_ (s := s.setDrawn d0) hst9 C0 hI hi hL hq hS (by omega) (by omega) hl (fun S1 t1 z1 H1 locs1 cells1 slots1 ls1 => J S1 t1 z1 H1 locs1 cells1 slots1 ls1 d0 hd0)
        · refine lv_tableIn (off := 581) (tgt := 620) hx hb dL_law_39 (by decide) (by decide) rfl (by decide) ?_
          exact qClear_ (s := s.setDrawn d0) hst9 C0 hI hi hL hq hS (by omega) (by omega) hl (fun S1 t1 z1 H1 locs1 cells1 slots1 ls1 => J S1 t1 z1 H1 locs1 cells1 slots1 ls1 d0 hd0)
        · refine lv_tableIn (off := 594) (tgt := 633) hx hb dL_law_39 (by decide) (by decide) rfl (by decide) ?_
          exact qRing_ (s := s.setDrawn d0) hst9 C0 hI hi hL hq hS (by omega) (by omega) hl (fun S1 t1 z1 H1 locs1 cells1 slots1 ls1 => J S1 t1 z1 H1 locs1 cells1 slots1 ls1 d0 hd0)
        · refine lv_tableIn (off := 662) (tgt := 701) hx hb dL_law_39 (by decide) (by decide) rfl (by decide) ?_
          exact qBell_ (s := s.setDrawn d0) hst9 C0 hI hi hL hq hS (by omega) (by omega) hl (fun S1 t1 z1 H1 locs1 cells1 slots1 ls1 => J S1 t1 z1 H1 locs1 cells1 slots1 ls1 d0 hd0)
        · refine lv_tableIn (off := 730) (tgt := 769) hx hb dL_law_39 (by decide) (by decide) rfl (by decide) ?_
          exact qTold_ (s := s.setDrawn d0) hst9 C0 hI hi hL hq hS (by omega) (by omega) hl (fun S1 t1 z1 H1 locs1 cells1 slots1 ls1 => J S1 t1 z1 H1 locs1 cells1 slots1 ls1 d0 hd0)
        · refine lv_tableIn (off := 798) (tgt := 837) hx hb dL_law_39 (by decide) (by decide) rfl (by decide) ?_
          exact qRound_ (s := s.setDrawn d0) hst9 C0 hI hi hL hq hS (by omega) (by omega) hl (fun S1 t1 z1 H1 locs1 cells1 slots1 ls1 => J S1 t1 z1 H1 locs1 cells1 slots1 ls1 d0 hd0)
        · refine lv_tableIn (off := 866) (tgt := 905) hx hb dL_law_39 (by decide) (by decide) rfl (by decide) ?_
          exact qApart_ (s := s.setDrawn d0) hst9 C0 hI hi hL hq hS (by omega) (by omega) hl (fun S1 t1 z1 H1 locs1 cells1 slots1 ls1 => J S1 t1 z1 H1 locs1 cells1 slots1 ls1 d0 hd0)
        · refine lv_tableIn (off := 934) (tgt := 973) hx hb dL_law_39 (by decide) (by decide) rfl (by decide) ?_
          exact qCount_ (s := s.setDrawn d0) hst9 C0 hI hi hL hq hS (by omega) (by omega) hl (fun S1 t1 z1 H1 locs1 cells1 slots1 ls1 => J S1 t1 z1 H1 locs1 cells1 slots1 ls1 d0 hd0)
        · refine lv_tableIn (off := 990) (tgt := 1029) hx hb dL_law_39 (by decide) (by decide) rfl (by decide) ?_
          exact qKept_ (s := s.setDrawn d0) hst9 C0 hI hi hL hq hS (by omega) (by omega) hl (fun S1 t1 z1 H1 locs1 cells1 slots1 ls1 => J S1 t1 z1 H1 locs1 cells1 slots1 ls1 d0 hd0)
        · refine lv_tableIn (off := 1046) (tgt := 1085) hx hb dL_law_39 (by decide) (by decide) rfl (by decide) ?_
          exact qComes_ (s := s.setDrawn d0) hst9 C0 hI hi hL hq hS (by omega) (by omega) hl (fun S1 t1 z1 H1 locs1 cells1 slots1 ls1 => J S1 t1 z1 H1 locs1 cells1 slots1 ls1 d0 hd0)
        · refine lv_tableIn (off := 1102) (tgt := 1141) hx hb dL_law_39 (by decide) (by decide) rfl (by decide) ?_
          exact qDiffer_ (s := s.setDrawn d0) hst9 C0 hI hi hL hq hS (by omega) (by omega) hl (fun S1 t1 z1 H1 locs1 cells1 slots1 ls1 => J S1 t1 z1 H1 locs1 cells1 slots1 ls1 d0 hd0)
        · refine lv_tableIn (off := 1158) (tgt := 1197) hx hb dL_law_39 (by decide) (by decide) rfl (by decide) ?_
          exact qAdvise_ (s := s.setDrawn d0) hst9 C0 hI hi hL hq hS (by omega) (by omega) hl (fun S1 t1 z1 H1 locs1 cells1 slots1 ls1 => J S1 t1 z1 H1 locs1 cells1 slots1 ls1 d0 hd0)
        · refine lv_tableIn (off := 1214) (tgt := 1253) hx hb dL_law_39 (by decide) (by decide) rfl (by decide) ?_
          exact qMean_ hd0 hst9 C hI hi hL hq hS (by omega) (by omega) hl (fun S1 t1 z1 H1 locs1 cells1 slots1 ls1 d9 hd9 => J S1 t1 z1 H1 locs1 cells1 slots1 ls1 d9 hd9)
        · refine lv_tableIn (off := 1255) (tgt := 1294) hx hb dL_law_39 (by decide) (by decide) rfl (by decide) ?_
          exact qDigest_ (s := s.setDrawn d0) hst9 C0 hI hi hL hq hS (by omega) (by omega) hl (fun S1 t1 z1 H1 locs1 cells1 slots1 ls1 => J S1 t1 z1 H1 locs1 cells1 slots1 ls1 d0 hd0)
      · refine lv_tableOut (tgt := 1308) hx hb dL_law_39 (nin_toInt (N := 21) (by decide) hy) (by decide) ?_
        exact J _ _ _ _ _ _ _ _ _ hd0 hI hq hS (by omega) (by omega) hl
