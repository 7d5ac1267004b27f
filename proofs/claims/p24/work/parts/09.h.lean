/-! the class's cells, where they are -/
def adF (o sz i : Nat) : Nat := if i = 0 then o else if i = 1 then sz else if i < 10 then sz + 31 + i else if i < 26 then sz + 1 + 2 * (i - 10) else sz + 2 + 2 * (i - 26)
theorem adF_at {o sz i : Nat} (hi : i < 42) : (i = 0 ∧ adF o sz i = o) ∨ (i = 1 ∧ adF o sz i = sz) ∨ (2 ≤ i ∧ i < 10 ∧ adF o sz i = sz + 31 + i) ∨ (10 ≤ i ∧ i < 26 ∧ adF o sz i = sz + 1 + 2 * (i - 10)) ∨ (26 ≤ i ∧ adF o sz i = sz + 2 + 2 * (i - 26)) := by
  unfold adF
  by_cases h0 : i = 0
  · exact Or.inl ⟨h0, if_pos h0⟩
  · by_cases h1 : i = 1
    · exact Or.inr (Or.inl ⟨h1, by rw [if_neg h0, if_pos h1]⟩)
    · by_cases h2 : i < 10
      · exact Or.inr (Or.inr (Or.inl ⟨by omega, h2, by rw [if_neg h0, if_neg h1, if_pos h2]⟩))
      · by_cases h3 : i < 26
        · exact Or.inr (Or.inr (Or.inr (Or.inl ⟨by omega, h3, by rw [if_neg h0, if_neg h1, if_neg h2, if_pos h3]⟩)))
        · exact Or.inr (Or.inr (Or.inr (Or.inr ⟨by omega, by rw [if_neg h0, if_neg h1, if_neg h2, if_neg h3]⟩)))
theorem adF_inj {o sz : Nat} (h : o < sz) : xInj (adF o sz) := by
  intro i j hi hj e
  have a := adF_at (o := o) (sz := sz) hi
  have b := adF_at (o := o) (sz := sz) hj
  rw [e] at a
  generalize adF o sz j = z at a b
  omega
theorem adF_c {o sz k : Nat} (h : k < 16) : adF o sz (10 + k) = sz + 1 + 2 * k := by
  unfold adF
  rw [if_neg (by omega), if_neg (by omega), if_neg (by omega), if_pos (by omega), Nat.add_sub_cancel_left]
theorem adF_r {o sz k : Nat} (h : k < 16) : adF o sz (26 + k) = sz + 2 + 2 * k := by
  unfold adF
  rw [if_neg (by omega), if_neg (by omega), if_neg (by omega), if_neg (by omega), Nat.add_sub_cancel_left]
theorem xmk_old {D : va_G} {q : Nat × va_E} {H H1 : Heap} {B : Nat} (h : va_at D vwCl q H) (hb : q.1 < B) (ho : ∀ x : Nat, x < B → H1[x]? = H[x]?) : va_at D vwCl q H1 := va_at.kept h (ho _ hb)
theorem xpair_old {D : va_G} {q r : Nat × va_E} {H H1 : Heap} {B : Nat} (h : va_at D vwCl q H ∧ va_at D vwCl r H) (hb : q.1 < B) (hb2 : r.1 < B) (ho : ∀ x : Nat, x < B → H1[x]? = H[x]?) : va_at D vwCl q H1 ∧ va_at D vwCl r H1 := ⟨va_at.kept h.1 (ho _ hb), va_at.kept h.2 (ho _ hb2)⟩
theorem xpair_kept {D : va_G} {q r : Nat × va_E} {H H1 : Heap} (h : va_at D vwCl q H ∧ va_at D vwCl r H) (h1 : H1[q.1]? = H[q.1]?) (h2 : H1[r.1]? = H[r.1]?) : va_at D vwCl q H1 ∧ va_at D vwCl r H1 := ⟨va_at.kept h.1 h1, va_at.kept h.2 h2⟩
/-- a book of so many blank changes -/
def xNW (D : va_G) (cI cC : ClassId) (o q i : Nat) (fs : List Value) (H : Heap) : Prop := va_at D vwCl (o, .inr (3, fs)) H ∧ va_at D vwCl (q, .inl (cC, 16, .inr (.inr (.inr (.inr (fun j9 => if j9 < i then some (q + 1 + 2 * j9) else none)))))) H ∧ ∀ j9, j9 < i → xCh D cI (q + 1 + 2 * j9) (q + 2 + 2 * j9) 0 (fun _ => 0) H
theorem xNW.older {D : va_G} {cI cC : ClassId} {o q i B : Nat} {fs : List Value} {H H1 : Heap} (h : xNW D cI cC o q i fs H) (hos : o < q) (hB : q + 1 + 2 * i ≤ B) (ho : ∀ x : Nat, x < B → H1[x]? = H[x]?) : xNW D cI cC o q i fs H1 :=
  ⟨xmk_old h.1 (by show o < B; omega) ho, xmk_old h.2.1 (by show q < B; omega) ho, fun j hj => xpair_old (h.2.2 j hj) (by show q + 1 + 2 * j < B; omega) (by show q + 2 + 2 * j < B; omega) ho⟩
theorem xNW.old {D : va_G} {cI cC : ClassId} {o q B : Nat} {fs : List Value} {H H1 : Heap} (h : xNW D cI cC o q 16 fs H) (hos : o < q) (hB : q + 33 ≤ B) (ho : ∀ x : Nat, x < B → H1[x]? = H[x]?) : xNW D cI cC o q 16 fs H1 := h.older hos (by omega) ho
theorem xNW.put {D : va_G} {cI cC : ClassId} {o q i : Nat} {fs fs' : List Value} {H H1 : Heap} (h : xNW D cI cC o q i fs H) (hos : o < q) (hO : va_at D vwCl (o, .inr (3, fs')) H1) (oq : ∀ x : Nat, x ≠ o → H1[x]? = H[x]?) : xNW D cI cC o q i fs' H1 :=
  ⟨hO, va_at.kept h.2.1 (oq _ (show q ≠ o by omega)), fun j hj => xpair_kept (h.2.2 j hj) (oq _ (show q + 1 + 2 * j ≠ o by omega)) (oq _ (show q + 2 + 2 * j ≠ o by omega))⟩
theorem xNW.add {D : va_G} {cI cC : ClassId} {o q i : Nat} {fs : List Value} {H H1 : Heap} (h : xNW D cI cC o q i fs H) (hos : o < q) (hBk : va_at D vwCl (q, .inl (cC, 16, .inr (.inr (.inr (.inr (va_up (fun j9 => if j9 < i then some (q + 1 + 2 * j9) else none) i (some (q + 1 + 2 * i)))))))) H1) (hNw : xCh D cI (q + 1 + 2 * i) (q + 1 + 2 * i + 1) 0 (fun _ => 0) H) (oq : ∀ x : Nat, x ≠ q → H1[x]? = H[x]?) : xNW D cI cC o q (i + 1) fs H1 :=
  ⟨va_at.kept h.1 (oq _ (show o ≠ q by omega)), xrefs_cg hBk (fun j9 hj9 => by
    by_cases c : j9 = i
    · rw [c, va_up_self, if_pos (Nat.lt_succ_self i)]
    · rw [va_up_ne _ _ c]
      by_cases c2 : j9 < i
      · rw [if_pos c2, if_pos (show j9 < i + 1 by omega)]
      · rw [if_neg c2, if_neg (show ¬ j9 < i + 1 by omega)]), fun j9 hj9 => by
    by_cases c : j9 = i
    · subst c
      rw [show q + 2 + 2 * j9 = q + 1 + 2 * j9 + 1 by omega]
      exact xpair_kept hNw (oq _ (show q + 1 + 2 * j9 ≠ q by omega)) (oq _ (show q + 1 + 2 * j9 + 1 ≠ q by omega))
    · exact xpair_kept (h.2.2 j9 (by omega)) (oq _ (show q + 1 + 2 * j9 ≠ q by omega)) (oq _ (show q + 2 + 2 * j9 ≠ q by omega))⟩
theorem xNW.book {D : va_G} {cI cC : ClassId} {o q : Nat} {fs : List Value} {H : Heap} (h : xNW D cI cC o q 16 fs H) : xXB D cC (adF o q) H := xrefs_cg h.2.1 (fun j9 hj9 => by rw [if_pos hj9, adF_c hj9])
theorem xNW.changes {D : va_G} {cI cC : ClassId} {o q : Nat} {fs : List Value} {H : Heap} (h : xNW D cI cC o q 16 fs H) : xXC D cI (adF o q) (fun _ => 0) (fun _ _ => 0) H := fun j9 hj9 => by rw [adF_c hj9, adF_r hj9]; exact h.2.2 j9 hj9
def xBO (D : va_G) (cI cC : ClassId) (P : Heap → Prop) : State → Prop := fun U => P U.heap ∧ xK D cI cC U ∧ va_AO RX0 U
theorem xPSO {D : va_G} {cI cC : ClassId} {P : Heap → Prop} {As : List Value} {s : State} {H : Heap} (hK : xK D cI cC s) (hA : va_AO RX0 s) (hP : P H) : PreS s H (va_Pc As (xBO D cI cC P)) As :=
  ⟨fun a U g mk q => by
    obtain ⟨q0, qP, qK, qA⟩ := q
    exact ⟨q0, qP, va_K.moved (u := U) (U := U.calling g mk a) (Vm.Alike.refl U.vm) qK, va_AO.moved (u := U) (U := U.calling g mk a) (Vm.Alike.refl U.vm) qA⟩, fun U hU hW => ⟨rfl, by rw [hU]; exact hP, va_K.moved hW.alike hK, va_AO.moved hW.alike hA⟩⟩

set_option maxRecDepth 100000 in
set_option maxHeartbeats 4000000 in
theorem x_mkX0 {p : Program} {l : Launch} {e : Env} {s : State} {m : MethodId} {args : Array Value} {below : List Frame} {meth : Method} {c : Code} {H : Heap} {locs : List Loc} {cells slots : Nat} {Q : State → Prop} {pc : Nat} {ls : Array Slot} {rest : List Value} {D : va_G} {cI cC : ClassId} {o sz B : Nat} {H0 : Heap} (hx : p.tables.exec = Jvm.exec) (hb : c.code = cX3_init) (hml : c.maxLocals = 2) (hown : s.vm.findClass RX3 = some m.cls) (hts : ∀ w ∈ wsX3_init, w.before args s = true) (hK : xK D cI cC s) (hS : va_S (fun q9 => q9 = o ∨ sz ≤ q9) H0 H locs) (hsz : H.size = B) (hB : sz ≤ B) (hl : ls.size = 2) (hcat : ((Value.ref B :: rest).map fun v => v.category).sum ≤ 8) (hc : cells + 2 ≤ 41) (hs : slots + 10 ≤ 411) (d0 : decode cX3_init pc = .ok (.new 9, 3)) (d3 : decode cX3_init (pc + 3) = .ok (.dup, 1)) (d4 : decode cX3_init (pc + 4) = .ok (.invokespecial 15, 3))
    (kk : ∀ (H1 : Heap) (locs1 : List Loc), xCh D cI B (B + 1) 0 (fun _ => 0) H1 → H1.size = B + 2 → (∀ x : Nat, x < B → H1[x]? = H[x]?) → va_S (fun q9 => q9 = o ∨ sz ≤ q9) H0 H1 locs1 → W p l e (headSpec wsX3_init (xRm 4 41 411)).room s m args below meth c H1 locs1 (cells + 2) (slots + 10) Q (F0 m (pc + 7) ls (.ref B :: rest))) : W p l e (headSpec wsX3_init (xRm 4 41 411)).room s m args below meth c H locs cells slots Q (F0 m pc ls rest) := by
  refine x_new (ci := 0) (fs := [.null, .int 0]) (C := RX0) (T := TX0) (N := 2) hx hb hts (by decide +kernel) tyX0 tyX0_ok hown (hts (.classLink RX3 9 RX0) (by decide +kernel)) (hts (.instantiable RX0 2) (by decide +kernel)) (hts (.initialized RX0) (by decide +kernel)) hK hS rfl (fun j hj => by rcases (show j = 0 ∨ j = 1 by omega) with rfl | rfl <;> rfl) (by show cells + 1 ≤ 41; omega) (by show slots + 2 ≤ 411; omega) d0 (fun q H2 hq hN hz1 ho2 hS => ?_)
  have hqs : q = B := hq.trans hsz
  subst hqs
  have hsz2 : Array.size H2 = q + 1 := hz1.trans (congrArg (· + 1) hsz)
  refine lv_dup hx hb d3 rfl ?_
  refine va_callv (va_runI (As := []) (rest := .ref q :: rest) ⟨hx, hb, hml, hown, hts⟩ (cX0_init_ l D cI cC q (q + 1) (Nat.lt_succ_self _)) (cwI 0 hts gX3_init_X0_init rfl rfl rfl (hts (.initialized RX0) (by decide +kernel)) (hts (.methodLink RX3 15 yX0_init) (by decide +kernel)) (hts (.instanceMethod yX0_init) (by decide +kernel)) rfl (by decide +kernel) ⟨Nat.le_of_ble_eq_true rfl, Nat.le_of_ble_eq_true rfl⟩) (xPS hK (P := fun H9 => Array.size H9 = q + 1 ∧ va_at D vwCl (q, .inr (0, [.null, .int 0])) H9) ⟨hsz2, hN⟩) rfl rfl hl rfl (lv_room hcat) d4 ⟨(by show cells + 1 + 1 ≤ 41; omega), (by show slots + 2 + 8 ≤ 411; omega)⟩) hS (fun x9 _ h => Or.inr (by have h : x9 = q ∨ q + 1 ≤ x9 := h; omega)) (fun (x9 : Nat) h => Or.inr (by have h : x9 = q ∨ q + 1 ≤ x9 := h; omega)) (fun u t9 H1 locs1 ht9 _ _ hB2 hz9 hk9 hS => ?_)
  have hB2 : xCh D cI q (q + 1) 0 (fun _ => 0) t9.heap ∧ Array.size t9.heap = q + 1 + 1 := hB2
  rw [ht9] at hB2
  exact kk H1 locs1 hB2.1 hB2.2 (fun x9 hx9 => (hk9 x9 (by omega) (by show ¬ (x9 = q ∨ q + 1 ≤ x9); omega)).trans (ho2 x9 (by omega))) hS

set_option maxRecDepth 100000 in
set_option maxHeartbeats 4000000 in
theorem x_mkX1 {p : Program} {l : Launch} {e : Env} {s : State} {m : MethodId} {args : Array Value} {below : List Frame} {meth : Method} {c : Code} {H : Heap} {locs : List Loc} {cells slots : Nat} {Q : State → Prop} {pc : Nat} {ls : Array Slot} {rest : List Value} {D : va_G} {cI cC : ClassId} {o sz B : Nat} {H0 : Heap} (hx : p.tables.exec = Jvm.exec) (hb : c.code = cX3_init) (hml : c.maxLocals = 2) (hown : s.vm.findClass RX3 = some m.cls) (hts : ∀ w ∈ wsX3_init, w.before args s = true) (hK : xK D cI cC s) (hS : va_S (fun q9 => q9 = o ∨ sz ≤ q9) H0 H locs) (hsz : H.size = B) (hB : sz ≤ B) (hl : ls.size = 2) (hcat : ((Value.ref B :: rest).map fun v => v.category).sum ≤ 8) (hc : cells + 2 ≤ 41) (hs : slots + 12 ≤ 411) (d0 : decode cX3_init pc = .ok (.new 16, 3)) (d3 : decode cX3_init (pc + 3) = .ok (.dup, 1)) (d4 : decode cX3_init (pc + 4) = .ok (.invokespecial 18, 3))
    (kk : ∀ (H1 : Heap) (locs1 : List Loc), xMe D cI B (B + 1) 0 (fun _ => 0) H1 → H1.size = B + 2 → (∀ x : Nat, x < B → H1[x]? = H[x]?) → va_S (fun q9 => q9 = o ∨ sz ≤ q9) H0 H1 locs1 → W p l e (headSpec wsX3_init (xRm 4 41 411)).room s m args below meth c H1 locs1 (cells + 2) (slots + 12) Q (F0 m (pc + 7) ls (.ref B :: rest))) : W p l e (headSpec wsX3_init (xRm 4 41 411)).room s m args below meth c H locs cells slots Q (F0 m pc ls rest) := by
  refine x_new (ci := 1) (fs := [.null, .int 0]) (C := RX1) (T := TX1) (N := 2) hx hb hts (by decide +kernel) tyX1 tyX1_ok hown (hts (.classLink RX3 16 RX1) (by decide +kernel)) (hts (.instantiable RX1 2) (by decide +kernel)) (hts (.initialized RX1) (by decide +kernel)) hK hS rfl (fun j hj => by rcases (show j = 0 ∨ j = 1 by omega) with rfl | rfl <;> rfl) (by show cells + 1 ≤ 41; omega) (by show slots + 2 ≤ 411; omega) d0 (fun q H2 hq hN hz1 ho2 hS => ?_)
  have hqs : q = B := hq.trans hsz
  subst hqs
  have hsz2 : Array.size H2 = q + 1 := hz1.trans (congrArg (· + 1) hsz)
  refine lv_dup hx hb d3 rfl ?_
  refine va_callv (va_runI (As := []) (rest := .ref q :: rest) ⟨hx, hb, hml, hown, hts⟩ (cX1_init_ l D cI cC q (q + 1) (Nat.lt_succ_self _)) (cwI 0 hts gX3_init_X1_init rfl rfl rfl (hts (.initialized RX1) (by decide +kernel)) (hts (.methodLink RX3 18 yX1_init) (by decide +kernel)) (hts (.instanceMethod yX1_init) (by decide +kernel)) rfl (by decide +kernel) ⟨Nat.le_of_ble_eq_true rfl, Nat.le_of_ble_eq_true rfl⟩) (xPS hK (P := fun H9 => Array.size H9 = q + 1 ∧ va_at D vwCl (q, .inr (1, [.null, .int 0])) H9) ⟨hsz2, hN⟩) rfl rfl hl rfl (lv_room hcat) d4 ⟨(by show cells + 1 + 1 ≤ 41; omega), (by show slots + 2 + 10 ≤ 411; omega)⟩) hS (fun x9 _ h => Or.inr (by have h : x9 = q ∨ q + 1 ≤ x9 := h; omega)) (fun (x9 : Nat) h => Or.inr (by have h : x9 = q ∨ q + 1 ≤ x9 := h; omega)) (fun u t9 H1 locs1 ht9 _ _ hB2 hz9 hk9 hS => ?_)
  have hB2 : xMe D cI q (q + 1) 0 (fun _ => 0) t9.heap ∧ Array.size t9.heap = q + 1 + 1 := hB2
  rw [ht9] at hB2
  exact kk H1 locs1 hB2.1 hB2.2 (fun x9 hx9 => (hk9 x9 (by omega) (by show ¬ (x9 = q ∨ q + 1 ≤ x9); omega)).trans (ho2 x9 (by omega))) hS

set_option maxRecDepth 100000 in
set_option maxHeartbeats 4000000 in
theorem x_mkX2 {p : Program} {l : Launch} {e : Env} {s : State} {m : MethodId} {args : Array Value} {below : List Frame} {meth : Method} {c : Code} {H : Heap} {locs : List Loc} {cells slots : Nat} {Q : State → Prop} {pc : Nat} {ls : Array Slot} {rest : List Value} {D : va_G} {cI cC : ClassId} {o sz B : Nat} {H0 : Heap} (hx : p.tables.exec = Jvm.exec) (hb : c.code = cX3_init) (hml : c.maxLocals = 2) (hown : s.vm.findClass RX3 = some m.cls) (hts : ∀ w ∈ wsX3_init, w.before args s = true) (hK : xK D cI cC s) (hS : va_S (fun q9 => q9 = o ∨ sz ≤ q9) H0 H locs) (hsz : H.size = B) (hB : sz ≤ B) (hl : ls.size = 2) (hcat : ((Value.ref B :: rest).map fun v => v.category).sum ≤ 8) (hc : cells + 2 ≤ 41) (hs : slots + 203 ≤ 411) (d0 : decode cX3_init pc = .ok (.new 30, 3)) (d3 : decode cX3_init (pc + 3) = .ok (.dup, 1)) (d4 : decode cX3_init (pc + 4) = .ok (.invokespecial 32, 3))
    (kk : ∀ (H1 : Heap) (locs1 : List Loc), xRs D cI B (B + 1) 0 (fun _ => 0) H1 → H1.size = B + 2 → (∀ x : Nat, x < B → H1[x]? = H[x]?) → va_S (fun q9 => q9 = o ∨ sz ≤ q9) H0 H1 locs1 → W p l e (headSpec wsX3_init (xRm 4 41 411)).room s m args below meth c H1 locs1 (cells + 2) (slots + 203) Q (F0 m (pc + 7) ls (.ref B :: rest))) : W p l e (headSpec wsX3_init (xRm 4 41 411)).room s m args below meth c H locs cells slots Q (F0 m pc ls rest) := by
  refine x_new (ci := 2) (fs := [.null, .int 0]) (C := RX2) (T := TX2) (N := 2) hx hb hts (by decide +kernel) tyX2 tyX2_ok hown (hts (.classLink RX3 30 RX2) (by decide +kernel)) (hts (.instantiable RX2 2) (by decide +kernel)) (hts (.initialized RX2) (by decide +kernel)) hK hS rfl (fun j hj => by rcases (show j = 0 ∨ j = 1 by omega) with rfl | rfl <;> rfl) (by show cells + 1 ≤ 41; omega) (by show slots + 2 ≤ 411; omega) d0 (fun q H2 hq hN hz1 ho2 hS => ?_)
  have hqs : q = B := hq.trans hsz
  subst hqs
  have hsz2 : Array.size H2 = q + 1 := hz1.trans (congrArg (· + 1) hsz)
  refine lv_dup hx hb d3 rfl ?_
  refine va_callv (va_runI (As := []) (rest := .ref q :: rest) ⟨hx, hb, hml, hown, hts⟩ (cX2_init_ l D cI cC q (q + 1) (Nat.lt_succ_self _)) (cwI 0 hts gX3_init_X2_init rfl rfl rfl (hts (.initialized RX2) (by decide +kernel)) (hts (.methodLink RX3 32 yX2_init) (by decide +kernel)) (hts (.instanceMethod yX2_init) (by decide +kernel)) rfl (by decide +kernel) ⟨Nat.le_of_ble_eq_true rfl, Nat.le_of_ble_eq_true rfl⟩) (xPS hK (P := fun H9 => Array.size H9 = q + 1 ∧ va_at D vwCl (q, .inr (2, [.null, .int 0])) H9) ⟨hsz2, hN⟩) rfl rfl hl rfl (lv_room hcat) d4 ⟨(by show cells + 1 + 1 ≤ 41; omega), (by show slots + 2 + 201 ≤ 411; omega)⟩) hS (fun x9 _ h => Or.inr (by have h : x9 = q ∨ q + 1 ≤ x9 := h; omega)) (fun (x9 : Nat) h => Or.inr (by have h : x9 = q ∨ q + 1 ≤ x9 := h; omega)) (fun u t9 H1 locs1 ht9 _ _ hB2 hz9 hk9 hS => ?_)
  have hB2 : xRs D cI q (q + 1) 0 (fun _ => 0) t9.heap ∧ Array.size t9.heap = q + 1 + 1 := hB2
  rw [ht9] at hB2
  exact kk H1 locs1 hB2.1 hB2.2 (fun x9 hx9 => (hk9 x9 (by omega) (by show ¬ (x9 = q ∨ q + 1 ≤ x9); omega)).trans (ho2 x9 (by omega))) hS

set_option maxRecDepth 100000 in
set_option maxHeartbeats 4000000 in
theorem cX3_init_ (l : Launch) (D : va_G) (cI cC : ClassId) (o sz : Nat) (hos : o < sz) : Met l yX3_init wsX3_init (xRm 4 41 411) (va_Pc [.ref o] (xBO D cI cC (fun H => H.size = sz ∧ va_at D vwCl (o, .inr (3, [.null, .null, .null, .null, .null, .int 0, .int 0, .int 0])) H))) (xV (fun _ : Unit => True) (fun _ H => xXW D cI cC (adF o sz) (5, 0, (fun _ _ => 0), 0, (fun _ => 0), 0) H ∧ H.size = sz + 41) (fun q9 => q9 = o ∨ sz ≤ q9)) 41 411 (fun q9 => q9 = o ∨ sz ≤ q9) := by
  refine Met.ofW (cc := cX3_init) (maxL := 2) (ret := none) (by decide) rfl ?_
  intro p e s m args below meth c s₁ B hml hv
  obtain ⟨rfl, hP, hK, hAO⟩ := hv
  have hx := B.exec
  have hb := B.bytes
  have hr := B.returns
  have hts := atoms_spec (ws := wsX3_init) B.pre
  have hown : s.vm.findClass RX3 = some m.cls := findClass_of_methodNamed B.named
  have hlocks := B.notSynchronized
  have hin : meth.name = "<init>" := (name_of_methodNamed B.named B.method).1
  obtain ⟨hsz, hO⟩ := hP
  have hS : va_S (fun q9 => q9 = o ∨ sz ≤ q9) s.heap s.heap [] := va_S.rf
  have hl := lv_entry ([.ref o]) (n := 2) (Nat.le_of_ble_eq_true rfl)
  rw [lg_entry_eq]
  generalize (lg_sl ([.ref o]) ++ List.replicate (2 - (lg_sl ([.ref o])).length) Slot.unset).toArray = ls at hl ⊢
  have hl : lv_has ls 2 [(0, .ref o)] := hl
  refine lv_aload_n hx hb dX3_init_0 rfl (lv_at hl 0 rfl) ?_
  refine W.objInit hx hb hown (hts (.methodLink RX3 1 objectInit) (by decide +kernel)) (hts (.instanceMethod objectInit) (by decide +kernel)) (hts _ (List.mem_cons_of_mem _ (List.mem_append_left _ (List.mem_append_left _ (List.mem_append_left _ (List.mem_append_left _ (List.mem_append_left _ (List.mem_of_getElem? (i := 2) rfl)))))))) rfl (by rw [hml]; exact hl.1) rfl dX3_init_1 (Nat.le_of_ble_eq_true rfl) (Nat.le_of_ble_eq_true rfl) ?_
  refine W.eq (g2 := F0 m 4 ls []) rfl ?_
  refine lv_aload_n hx hb dX3_init_4 rfl (lv_at hl 0 rfl) ?_
  refine xn_bipush (v := 16) hx hb dX3_init_5 (by decide) ?_
  refine x_anew hx hb hown (hts (.classLink RX3 9 RX0) (by decide +kernel)) hAO hK hS (by decide) (by show 0 + 1 ≤ 41; decide) (by show 0 + 16 ≤ 411; decide) dX3_init_7 (fun q H1 hq hBk hz1 ho hS => ?_)
  have hqs : q = sz := hq.trans hsz
  subst hqs
  have hO := xat_old hO ho
  have hsz1 : Array.size H1 = q + 1 := hz1.trans (congrArg (· + 1) hsz)
  refine x_putF (v := .ref q) (ty := .array (.object "BellRanks$Change")) (C := RX3) (T := TX3) (N := 8) hx hb hts (by decide +kernel) tyX3 tyX3_ok nmX3 hown hK hO hS (Or.inl rfl) rfl 0 (by decide) (hts (.fieldLink RX3 11 "BellRanks" "book" "[LBellRanks$Change;") (by decide +kernel)) (fun _ h9 => h9) rfl hin rfl (by decide +kernel) rfl rfl (Nat.le_of_ble_eq_true rfl) dX3_init_10 (fun H1 locs1 hO hz oq hS => ?_)
  have hO : va_at D vwCl (o, .inr (3, [.ref q, .null, .null, .null, .null, .int 0, .int 0, .int 0])) H1 := hO
  have hBk := va_at.kept hBk (oq _ (Nat.ne_of_gt hos))
  have hsz2 : Array.size H1 = q + 1 := hz.trans hsz1
  refine xn_iconst (v := 0) hx hb dX3_init_13 (by decide) ?_
  refine lv_istore_n (lv' := [(1, .int (nI 0)), (0, .ref o)]) hx hb dX3_init_14 rfl hl (by decide) rfl (fun ls hl => ?_)
  refine x_loopH (σ := Nat) (fun a => 16 - a) (fun a H locs cells slots ls => (a ≤ 16) ∧ (xNW D cI cC o q a [.ref q, .null, .null, .null, .null, .int 0, .int 0, .int 0] H) ∧ (Array.size H = q + 1 + 2 * a) ∧ (va_S (fun q9 => q9 = o ∨ q ≤ q9) s.heap H locs) ∧ (cells ≤ 1 + 2 * a) ∧ (slots ≤ 16 + 10 * a) ∧ lv_has ls 2 [(0, .ref o), (1, .int (nI a))]) ?_ 0 _ _ _ _ ls ⟨Nat.zero_le _, ⟨hO, xrefs_cg hBk (fun j hj => (if_neg (Nat.not_lt_zero _)).symm), (fun j hj => absurd hj (Nat.not_lt_zero _))⟩, hsz2, hS, (Nat.le_refl _), (Nat.le_refl _), lv_sub hl [1, 0] rfl⟩
  clear hsz2 hsz1 hz hz1 ho hq oq hBk hO hsz hS
  rintro i H locs cells slots ls ⟨hi, hN, hsz, hS, hce, hse, hl⟩ ih15
  refine lv_iload_n hx hb dX3_init_15 rfl (lv_at hl 1 rfl) ?_
  refine lv_aload_n hx hb dX3_init_16 rfl (lv_at hl 0 rfl) ?_
  refine x_get (v := .ref q) (C := RX3) (T := TX3) (N := 8) hx hb hts (by decide +kernel) hown hK hN.1 rfl 0 (by decide) (hts (.fieldLink RX3 11 "BellRanks" "book" "[LBellRanks$Change;") (by decide +kernel)) (fun _ h9 => h9) rfl dX3_init_17 ?_
  refine x_alenC hx hb hK hN.2.1 dX3_init_20 ?_
  refine xn_icmp_ge (tgt := 43) hx hb dX3_init_21 (by decide) (by omega) (by decide) (fun c21 => ?_) (fun c21 => ?_)
  · obtain rfl : i = 16 := by omega
    have hsz : Array.size H = q + 33 := hsz
    refine W.widen (k := 33) (n := 176) (by omega) (by omega) ?_
    clear hce hse ih15 c21 hi
    refine lv_aload_n hx hb dX3_init_43 rfl (lv_at hl 0 rfl) ?_
    refine x_mkX1 (B := q + 33) hx hb hml hown hts hK hS hsz (Nat.le_add_right _ _) hl.1 (Nat.le_of_ble_eq_true rfl) (Nat.le_of_ble_eq_true rfl) (Nat.le_of_ble_eq_true rfl) dX3_init_44 dX3_init_47 dX3_init_48 (fun H1 locs1 hMe hsz1 ho hS => ?_)
    have hN := hN.old hos (Nat.add_le_add_left (by decide : 33 ≤ 33) q) ho
    have hO := hN.1
    refine x_putF (v := .ref (q + 33)) (ty := .object "BellRanks$Method") (C := RX3) (T := TX3) (N := 8) hx hb hts (by decide +kernel) tyX3 tyX3_ok nmX3 hown hK hO hS (Or.inl rfl) rfl 1 (by decide) (hts (.fieldLink RX3 19 "BellRanks" "method" "LBellRanks$Method;") (by decide +kernel)) (fun _ h9 => h9) rfl hin rfl (by decide +kernel) rfl rfl (Nat.le_of_ble_eq_true rfl) dX3_init_51 (fun H1 locs1 hO hz oq hS => ?_)
    have hN : xNW D cI cC o q 16 [.ref q, .ref (q + 33), .null, .null, .null, .int 0, .int 0, .int 0] H1 := hN.put hos hO oq
    have hsz : Array.size H1 = q + 35 := hz.trans hsz1
    have hMe := xpair_kept hMe (oq _ (Nat.ne_of_gt (Nat.lt_of_lt_of_le hos (Nat.le_add_right q 33)))) (oq _ (Nat.ne_of_gt (Nat.lt_of_lt_of_le hos (Nat.le_add_right q 34))))
    refine W.widen (k := 35) (n := 188) (Nat.le_of_ble_eq_true rfl) (Nat.le_of_ble_eq_true rfl) ?_
    clear hz hsz1 ho oq hO
    refine lv_aload_n hx hb dX3_init_54 rfl (lv_at hl 0 rfl) ?_
    refine x_mkX0 (B := q + 35) hx hb hml hown hts hK hS hsz (Nat.le_add_right _ _) hl.1 (Nat.le_of_ble_eq_true rfl) (Nat.le_of_ble_eq_true rfl) (Nat.le_of_ble_eq_true rfl) dX3_init_55 dX3_init_58 dX3_init_59 (fun H1 locs1 hRu hsz1 ho hS => ?_)
    have hN := hN.old hos (Nat.add_le_add_left (by decide : 33 ≤ 35) q) ho
    have hMe := xpair_old hMe (Nat.add_lt_add_left (by decide : 33 < 35) q) (Nat.add_lt_add_left (by decide : 34 < 35) q) ho
    have hO := hN.1
    refine x_putF (v := .ref (q + 35)) (ty := .object "BellRanks$Change") (C := RX3) (T := TX3) (N := 8) hx hb hts (by decide +kernel) tyX3 tyX3_ok nmX3 hown hK hO hS (Or.inl rfl) rfl 2 (by decide) (hts (.fieldLink RX3 23 "BellRanks" "rung" "LBellRanks$Change;") (by decide +kernel)) (fun _ h9 => h9) rfl hin rfl (by decide +kernel) rfl rfl (Nat.le_of_ble_eq_true rfl) dX3_init_62 (fun H1 locs1 hO hz oq hS => ?_)
    have hN : xNW D cI cC o q 16 [.ref q, .ref (q + 33), .ref (q + 35), .null, .null, .int 0, .int 0, .int 0] H1 := hN.put hos hO oq
    have hsz : Array.size H1 = q + 37 := hz.trans hsz1
    have hMe := xpair_kept hMe (oq _ (Nat.ne_of_gt (Nat.lt_of_lt_of_le hos (Nat.le_add_right q 33)))) (oq _ (Nat.ne_of_gt (Nat.lt_of_lt_of_le hos (Nat.le_add_right q 34))))
    have hRu := xpair_kept hRu (oq _ (Nat.ne_of_gt (Nat.lt_of_lt_of_le hos (Nat.le_add_right q 35)))) (oq _ (Nat.ne_of_gt (Nat.lt_of_lt_of_le hos (Nat.le_add_right q 36))))
    refine W.widen (k := 37) (n := 198) (Nat.le_of_ble_eq_true rfl) (Nat.le_of_ble_eq_true rfl) ?_
    clear hz hsz1 ho oq hO
    refine lv_aload_n hx hb dX3_init_65 rfl (lv_at hl 0 rfl) ?_
    refine x_mkX0 (B := q + 37) hx hb hml hown hts hK hS hsz (Nat.le_add_right _ _) hl.1 (Nat.le_of_ble_eq_true rfl) (Nat.le_of_ble_eq_true rfl) (Nat.le_of_ble_eq_true rfl) dX3_init_66 dX3_init_69 dX3_init_70 (fun H1 locs1 hMa hsz1 ho hS => ?_)
    have hN := hN.old hos (Nat.add_le_add_left (by decide : 33 ≤ 37) q) ho
    have hMe := xpair_old hMe (Nat.add_lt_add_left (by decide : 33 < 37) q) (Nat.add_lt_add_left (by decide : 34 < 37) q) ho
    have hRu := xpair_old hRu (Nat.add_lt_add_left (by decide : 35 < 37) q) (Nat.add_lt_add_left (by decide : 36 < 37) q) ho
    have hO := hN.1
    refine x_putF (v := .ref (q + 37)) (ty := .object "BellRanks$Change") (C := RX3) (T := TX3) (N := 8) hx hb hts (by decide +kernel) tyX3 tyX3_ok nmX3 hown hK hO hS (Or.inl rfl) rfl 3 (by decide) (hts (.fieldLink RX3 27 "BellRanks" "made" "LBellRanks$Change;") (by decide +kernel)) (fun _ h9 => h9) rfl hin rfl (by decide +kernel) rfl rfl (Nat.le_of_ble_eq_true rfl) dX3_init_73 (fun H1 locs1 hO hz oq hS => ?_)
    have hN : xNW D cI cC o q 16 [.ref q, .ref (q + 33), .ref (q + 35), .ref (q + 37), .null, .int 0, .int 0, .int 0] H1 := hN.put hos hO oq
    have hsz : Array.size H1 = q + 39 := hz.trans hsz1
    have hMe := xpair_kept hMe (oq _ (Nat.ne_of_gt (Nat.lt_of_lt_of_le hos (Nat.le_add_right q 33)))) (oq _ (Nat.ne_of_gt (Nat.lt_of_lt_of_le hos (Nat.le_add_right q 34))))
    have hRu := xpair_kept hRu (oq _ (Nat.ne_of_gt (Nat.lt_of_lt_of_le hos (Nat.le_add_right q 35)))) (oq _ (Nat.ne_of_gt (Nat.lt_of_lt_of_le hos (Nat.le_add_right q 36))))
    have hMa := xpair_kept hMa (oq _ (Nat.ne_of_gt (Nat.lt_of_lt_of_le hos (Nat.le_add_right q 37)))) (oq _ (Nat.ne_of_gt (Nat.lt_of_lt_of_le hos (Nat.le_add_right q 38))))
    refine W.widen (k := 39) (n := 208) (Nat.le_of_ble_eq_true rfl) (Nat.le_of_ble_eq_true rfl) ?_
    clear hz hsz1 ho oq hO
    refine lv_aload_n hx hb dX3_init_76 rfl (lv_at hl 0 rfl) ?_
    refine x_mkX2 (B := q + 39) hx hb hml hown hts hK hS hsz (Nat.le_add_right _ _) hl.1 (Nat.le_of_ble_eq_true rfl) (Nat.le_of_ble_eq_true rfl) (Nat.le_of_ble_eq_true rfl) dX3_init_77 dX3_init_80 dX3_init_81 (fun H1 locs1 hRs hsz1 ho hS => ?_)
    have hN := hN.old hos (Nat.add_le_add_left (by decide : 33 ≤ 39) q) ho
    have hMe := xpair_old hMe (Nat.add_lt_add_left (by decide : 33 < 39) q) (Nat.add_lt_add_left (by decide : 34 < 39) q) ho
    have hRu := xpair_old hRu (Nat.add_lt_add_left (by decide : 35 < 39) q) (Nat.add_lt_add_left (by decide : 36 < 39) q) ho
    have hMa := xpair_old hMa (Nat.add_lt_add_left (by decide : 37 < 39) q) (Nat.add_lt_add_left (by decide : 38 < 39) q) ho
    have hO := hN.1
    refine x_putF (v := .ref (q + 39)) (ty := .object "BellRanks$RankSet") (C := RX3) (T := TX3) (N := 8) hx hb hts (by decide +kernel) tyX3 tyX3_ok nmX3 hown hK hO hS (Or.inl rfl) rfl 4 (by decide) (hts (.fieldLink RX3 33 "BellRanks" "ranks" "LBellRanks$RankSet;") (by decide +kernel)) (fun _ h9 => h9) rfl hin rfl (by decide +kernel) rfl rfl (Nat.le_of_ble_eq_true rfl) dX3_init_84 (fun H1 locs1 hO hz oq hS => ?_)
    have hN : xNW D cI cC o q 16 [.ref q, .ref (q + 33), .ref (q + 35), .ref (q + 37), .ref (q + 39), .int 0, .int 0, .int 0] H1 := hN.put hos hO oq
    have hsz : Array.size H1 = q + 41 := hz.trans hsz1
    have hMe := xpair_kept hMe (oq _ (Nat.ne_of_gt (Nat.lt_of_lt_of_le hos (Nat.le_add_right q 33)))) (oq _ (Nat.ne_of_gt (Nat.lt_of_lt_of_le hos (Nat.le_add_right q 34))))
    have hRu := xpair_kept hRu (oq _ (Nat.ne_of_gt (Nat.lt_of_lt_of_le hos (Nat.le_add_right q 35)))) (oq _ (Nat.ne_of_gt (Nat.lt_of_lt_of_le hos (Nat.le_add_right q 36))))
    have hMa := xpair_kept hMa (oq _ (Nat.ne_of_gt (Nat.lt_of_lt_of_le hos (Nat.le_add_right q 37)))) (oq _ (Nat.ne_of_gt (Nat.lt_of_lt_of_le hos (Nat.le_add_right q 38))))
    have hRs := xpair_kept hRs (oq _ (Nat.ne_of_gt (Nat.lt_of_lt_of_le hos (Nat.le_add_right q 39)))) (oq _ (Nat.ne_of_gt (Nat.lt_of_lt_of_le hos (Nat.le_add_right q 40))))
    refine W.widen (k := 41) (n := 411) (Nat.le_of_ble_eq_true rfl) (Nat.le_of_ble_eq_true rfl) ?_
    clear hz hsz1 ho oq hO
    refine lv_aload_n hx hb dX3_init_87 rfl (lv_at hl 0 rfl) ?_
    refine xn_iconst (v := 5) hx hb dX3_init_88 (by decide) ?_
    have hO := hN.1
    refine x_put (v := .int (nI 5)) (ty := .int) (C := RX3) (T := TX3) (N := 8) hx hb hts (by decide +kernel) tyX3 tyX3_ok nmX3 hown hK hO hS (Or.inl rfl) rfl 5 (by decide) (hts (.fieldLink RX3 37 "BellRanks" "bells" "I") (by decide +kernel)) (fun _ h9 => h9) rfl (by decide +kernel) rfl rfl (Nat.le_of_ble_eq_true rfl) dX3_init_89 (fun H1 locs1 hO hz oq hS => ?_)
    have hN : xNW D cI cC o q 16 [.ref q, .ref (q + 33), .ref (q + 35), .ref (q + 37), .ref (q + 39), .int (nI 5), .int 0, .int 0] H1 := hN.put hos hO oq
    have hsz : Array.size H1 = q + 41 := hz.trans hsz
    have hMe := xpair_kept hMe (oq _ (Nat.ne_of_gt (Nat.lt_of_lt_of_le hos (Nat.le_add_right q 33)))) (oq _ (Nat.ne_of_gt (Nat.lt_of_lt_of_le hos (Nat.le_add_right q 34))))
    have hRu := xpair_kept hRu (oq _ (Nat.ne_of_gt (Nat.lt_of_lt_of_le hos (Nat.le_add_right q 35)))) (oq _ (Nat.ne_of_gt (Nat.lt_of_lt_of_le hos (Nat.le_add_right q 36))))
    have hMa := xpair_kept hMa (oq _ (Nat.ne_of_gt (Nat.lt_of_lt_of_le hos (Nat.le_add_right q 37)))) (oq _ (Nat.ne_of_gt (Nat.lt_of_lt_of_le hos (Nat.le_add_right q 38))))
    have hRs := xpair_kept hRs (oq _ (Nat.ne_of_gt (Nat.lt_of_lt_of_le hos (Nat.le_add_right q 39)))) (oq _ (Nat.ne_of_gt (Nat.lt_of_lt_of_le hos (Nat.le_add_right q 40))))
    refine lv_aload_n hx hb dX3_init_92 rfl (lv_at hl 0 rfl) ?_
    refine xn_iconst (v := 0) hx hb dX3_init_93 (by decide) ?_
    have hO := hN.1
    refine x_put (v := .int (nI 0)) (ty := .int) (C := RX3) (T := TX3) (N := 8) hx hb hts (by decide +kernel) tyX3 tyX3_ok nmX3 hown hK hO hS (Or.inl rfl) rfl 6 (by decide) (hts (.fieldLink RX3 41 "BellRanks" "written" "I") (by decide +kernel)) (fun _ h9 => h9) rfl (by decide +kernel) rfl rfl (Nat.le_of_ble_eq_true rfl) dX3_init_94 (fun H1 locs1 hO hz oq hS => ?_)
    have hN : xNW D cI cC o q 16 [.ref q, .ref (q + 33), .ref (q + 35), .ref (q + 37), .ref (q + 39), .int (nI 5), .int (nI 0), .int 0] H1 := hN.put hos hO oq
    have hsz : Array.size H1 = q + 41 := hz.trans hsz
    have hMe := xpair_kept hMe (oq _ (Nat.ne_of_gt (Nat.lt_of_lt_of_le hos (Nat.le_add_right q 33)))) (oq _ (Nat.ne_of_gt (Nat.lt_of_lt_of_le hos (Nat.le_add_right q 34))))
    have hRu := xpair_kept hRu (oq _ (Nat.ne_of_gt (Nat.lt_of_lt_of_le hos (Nat.le_add_right q 35)))) (oq _ (Nat.ne_of_gt (Nat.lt_of_lt_of_le hos (Nat.le_add_right q 36))))
    have hMa := xpair_kept hMa (oq _ (Nat.ne_of_gt (Nat.lt_of_lt_of_le hos (Nat.le_add_right q 37)))) (oq _ (Nat.ne_of_gt (Nat.lt_of_lt_of_le hos (Nat.le_add_right q 38))))
    have hRs := xpair_kept hRs (oq _ (Nat.ne_of_gt (Nat.lt_of_lt_of_le hos (Nat.le_add_right q 39)))) (oq _ (Nat.ne_of_gt (Nat.lt_of_lt_of_le hos (Nat.le_add_right q 40))))
    refine lv_aload_n hx hb dX3_init_97 rfl (lv_at hl 0 rfl) ?_
    refine xn_iconst (v := 0) hx hb dX3_init_98 (by decide) ?_
    have hO := hN.1
    refine x_put (v := .int (nI 0)) (ty := .int) (C := RX3) (T := TX3) (N := 8) hx hb hts (by decide +kernel) tyX3 tyX3_ok nmX3 hown hK hO hS (Or.inl rfl) rfl 7 (by decide) (hts (.fieldLink RX3 44 "BellRanks" "rungInAll" "I") (by decide +kernel)) (fun _ h9 => h9) rfl (by decide +kernel) rfl rfl (Nat.le_of_ble_eq_true rfl) dX3_init_99 (fun H1 locs1 hO hz oq hS => ?_)
    have hN : xNW D cI cC o q 16 [.ref q, .ref (q + 33), .ref (q + 35), .ref (q + 37), .ref (q + 39), .int (nI 5), .int (nI 0), .int (nI 0)] H1 := hN.put hos hO oq
    have hsz : Array.size H1 = q + 41 := hz.trans hsz
    have hMe := xpair_kept hMe (oq _ (Nat.ne_of_gt (Nat.lt_of_lt_of_le hos (Nat.le_add_right q 33)))) (oq _ (Nat.ne_of_gt (Nat.lt_of_lt_of_le hos (Nat.le_add_right q 34))))
    have hRu := xpair_kept hRu (oq _ (Nat.ne_of_gt (Nat.lt_of_lt_of_le hos (Nat.le_add_right q 35)))) (oq _ (Nat.ne_of_gt (Nat.lt_of_lt_of_le hos (Nat.le_add_right q 36))))
    have hMa := xpair_kept hMa (oq _ (Nat.ne_of_gt (Nat.lt_of_lt_of_le hos (Nat.le_add_right q 37)))) (oq _ (Nat.ne_of_gt (Nat.lt_of_lt_of_le hos (Nat.le_add_right q 38))))
    have hRs := xpair_kept hRs (oq _ (Nat.ne_of_gt (Nat.lt_of_lt_of_le hos (Nat.le_add_right q 39)))) (oq _ (Nat.ne_of_gt (Nat.lt_of_lt_of_le hos (Nat.le_add_right q 40))))
    exact x_vret hx hb hr hlocks () trivial ⟨⟨0, 0, 0, fun _ => 0, fun _ => 0, fun _ => 0, fun _ => 0, hN.1, hN.book, hMe, hRu, (fun _ => Nat.zero_lt_succ 7), hMa, (fun _ => Nat.zero_lt_succ 7), hRs, hN.changes, (fun k9 hk9 => absurd hk9 (Nat.not_lt_zero _))⟩, hsz⟩ hS (fun _ h => h) dX3_init_102
  · refine lv_aload_n hx hb dX3_init_24 rfl (lv_at hl 0 rfl) ?_
    refine x_get (v := .ref q) (C := RX3) (T := TX3) (N := 8) hx hb hts (by decide +kernel) hown hK hN.1 rfl 0 (by decide) (hts (.fieldLink RX3 11 "BellRanks" "book" "[LBellRanks$Change;") (by decide +kernel)) (fun _ h9 => h9) rfl dX3_init_25 ?_
    refine lv_iload_n hx hb dX3_init_28 rfl (lv_at hl 1 rfl) ?_
    refine x_mkX0 (B := q + 1 + 2 * i) hx hb hml hown hts hK hS hsz (by omega) hl.1 (Nat.le_of_ble_eq_true rfl) (by omega) (by omega) dX3_init_29 dX3_init_32 dX3_init_33 (fun H1 locs1 hNw hsz1 ho hS => ?_)
    have hN := hN.older hos (B := q + 1 + 2 * i) (by omega) ho
    refine x_aast hx hb hK hN.2.1 hNw.1 hS (Or.inr (Nat.le_refl _)) (i := i) (by omega) (by decide) dX3_init_36 (fun H1 locs1 hBk hz oq hS => ?_)
    refine xn_iinc (v := i + 1) (lv' := [(1, .int (nI (i + 1))), (0, .ref o)]) hx hb dX3_init_37 hl (k := 1) rfl (xinc1 _) (by decide) rfl (fun ls hl => ?_)
    refine lv_goto (tgt := 15) hx hb dX3_init_40 (by decide) ?_
    exact ih15 (i + 1) _ _ _ _ ls ⟨(by omega), hN.add hos hBk hNw oq, (by rw [hz, hsz1]; omega), hS, (by omega), (by omega), lv_sub hl [1, 0] rfl⟩ (by omega)
