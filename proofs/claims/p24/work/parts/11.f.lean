/-! FROM THE TABLES: classes, arrays, strings, what is castable -/
theorem q_arr {args : Array Value} {s : State} {t : FieldType} (h : (Cond.arrayClass t).before args s = true) : ∃ cA : ClassId, ArrOfT s cA t ∧ s.vm.findClass ("[" ++ t.toString) = some cA := by
  obtain ⟨cA, kA, comp, h1, h2, h3⟩ := Cond.arrayClass_spec h
  exact ⟨cA, fun N z => ⟨(fun k h => by cases h), kA, h2, comp, h3⟩, h1⟩
theorem q_str {args : Array Value} {s : State} {k : Nat} {tx : String} (h1 : (Cond.stringRef RX3 k tx).before args s = true) (h2 : (Cond.exactly (.string RX3 k) "java/lang/String").before args s = true) : ∃ a : Nat, vk_R RX3 k tx a s := by
  obtain ⟨a, c, cell, kk, h, -⟩ := Cond.exactly_spec h2
  exact ⟨a, vk_R.of h1 h⟩
set_option maxRecDepth 100000 in
set_option maxHeartbeats 4000000 in
theorem q_strs {args : Array Value} {s : State} (hts : ∀ w ∈ lw_tbl, w.before args s = true) (hf : ∀ c ∈ flatC (Jvm.Cond.and given_1 narrow_1), c.before args s = true) : ∀ q ∈ xStrs, ∃ a : Nat, vk_R RX3 q.1 q.2 a s := by
  intro q hq
  simp only [xStrs, List.mem_cons, List.not_mem_nil, or_false] at hq
  rcases hq with rfl | rfl | rfl | rfl | rfl | rfl | rfl | rfl | rfl | rfl | rfl | rfl
  · exact q_str (hts (.stringRef RX3 49 "bells is not 2 to 8") (by decide +kernel)) (hf (.exactly (.string RX3 49) "java/lang/String") (by decide +kernel))
  · exact q_str (hts (.stringRef RX3 63 "no change of this rank") (by decide +kernel)) (hf (.exactly (.string RX3 63) "java/lang/String") (by decide +kernel))
  · exact q_str (hts (.stringRef RX3 78 "no neighbours at this place") (by decide +kernel)) (hf (.exactly (.string RX3 78) "java/lang/String") (by decide +kernel))
  · exact q_str (hts (.stringRef RX3 109 "not the kept places of a step") (by decide +kernel)) (hf (.exactly (.string RX3 109) "java/lang/String") (by decide +kernel))
  · exact q_str (hts (.stringRef RX3 116 "the method has 10 steps") (by decide +kernel)) (hf (.exactly (.string RX3 116) "java/lang/String") (by decide +kernel))
  · exact q_str (hts (.stringRef RX3 152 "what is not 0 to 7") (by decide +kernel)) (hf (.exactly (.string RX3 152) "java/lang/String") (by decide +kernel))
  · exact q_str (hts (.stringRef RX3 160 "what is not 0 to 5") (by decide +kernel)) (hf (.exactly (.string RX3 160) "java/lang/String") (by decide +kernel))
  · exact q_str (hts (.stringRef RX3 162 "no such step") (by decide +kernel)) (hf (.exactly (.string RX3 162) "java/lang/String") (by decide +kernel))
  · exact q_str (hts (.stringRef RX3 193 "no such change") (by decide +kernel)) (hf (.exactly (.string RX3 193) "java/lang/String") (by decide +kernel))
  · exact q_str (hts (.stringRef RX3 195 "the book holds 16 changes") (by decide +kernel)) (hf (.exactly (.string RX3 195) "java/lang/String") (by decide +kernel))
  · exact q_str (hts (.stringRef RX3 197 "no such place") (by decide +kernel)) (hf (.exactly (.string RX3 197) "java/lang/String") (by decide +kernel))
  · exact q_str (hts (.stringRef RX3 199 "steps is not 1 to 200") (by decide +kernel)) (hf (.exactly (.string RX3 199) "java/lang/String") (by decide +kernel))
set_option maxRecDepth 100000 in
set_option maxHeartbeats 4000000 in
theorem q_bads {args : Array Value} {s : State} (hts : ∀ w ∈ lw_tbl, w.before args s = true) : ∀ w ∈ xBad, va_Nw w s := by
  have h : ∀ w ∈ xBad, w ∈ lw_tbl := by decide +kernel
  exact fun w hw => va_Nw.of (xBad_tab w hw) (hts w (h w hw))
set_option maxRecDepth 100000 in
set_option maxHeartbeats 4000000 in
theorem q_world {args : Array Value} {s : State} (hts : ∀ w ∈ lw_tbl, w.before args s = true) (hgv : (Jvm.Cond.and given_1 narrow_1).before args s = true) : ∃ (D : va_G) (cI cC : ClassId), xK D cI cC s ∧ va_AO RX0 s ∧ xZ (fun q : Nat => s.heap.size ≤ q) s s.heap := by
  have hf := flat_of_before _ hgv
  obtain ⟨c0, i0, k0⟩ := u_known (C := RX0) (T := TX0) (N := 2) (n := 2) hts inX0 (hts (.instantiable RX0 2) (by decide +kernel))
  obtain ⟨c1, i1, k1⟩ := u_known (C := RX1) (T := TX1) (N := 2) (n := 2) hts inX1 (hts (.instantiable RX1 2) (by decide +kernel))
  obtain ⟨c2, i2, k2⟩ := u_known (C := RX2) (T := TX2) (N := 2) (n := 2) hts inX2 (hts (.instantiable RX2 2) (by decide +kernel))
  obtain ⟨c3, i3, k3⟩ := u_known (C := RX3) (T := TX3) (N := 8) (n := 8) hts inX3 (hts (.instantiable RX3 8) (by decide +kernel))
  obtain ⟨cI, a1, a2⟩ := q_arr (hts (.arrayClass .int) (by decide +kernel))
  have hAO : va_AO RX0 s := va_AO.of (hts (.arrayOver (.object RX0)) (by decide +kernel))
  obtain ⟨comp, cC, kA, h1, h2, h3, h4, h5⟩ := Cond.arrayOver_spec (va_AO.use (A := args) hAO)
  obtain ⟨D, hD⟩ : ∃ D : va_G, ∀ (k : Nat) (q : vw_C), vwCl[k]? = some q → u_Kn s q.1 q.2.1 q.2.2 (D.1 k) (D.2 k) := by
    refine ⟨(fun k => if k = 0 then c0 else if k = 1 then c1 else if k = 2 then c2 else c3, fun k => if k = 0 then i0 else if k = 1 then i1 else if k = 2 then i2 else i3), ?_⟩
    intro k q hq
    match k, hq with
    | 0, hq => cases hq; exact k0
    | 1, hq => cases hq; exact k1
    | 2, hq => cases hq; exact k2
    | 3, hq => cases hq; exact k3
    | k + 4, hq => simp [vwCl] at hq
  have hA : ∀ a : Nat, a < s.heap.size → ¬ (fun q : Nat => s.heap.size ≤ q) a := fun a h => Nat.not_le.mpr h
  refine ⟨D, cI, cC, ⟨hD, fun k q hq => ?_⟩, hAO, ⟨vx_Zqof (hts (.laysStatic Bundle.tN "UNASSIGNED_STACK" Bundle.steD) (by decide +kernel)) (hts (.initialized Bundle.tN) (by decide +kernel)) (hf (.isRef (.static Bundle.tN "UNASSIGNED_STACK" Bundle.steD)) (by decide +kernel)) hA, vx_Zqof (hts (.laysStatic Bundle.tN "SUPPRESSED_SENTINEL" Bundle.listD) (by decide +kernel)) (hts (.initialized Bundle.tN) (by decide +kernel)) (hf (.isRef (.static Bundle.tN "SUPPRESSED_SENTINEL" Bundle.listD)) (by decide +kernel)) hA, q_strs hts hf, q_bads hts⟩⟩
  · match k, hq with
    | 0, hq => cases hq; exact ⟨a1, a2⟩
    | 1, hq => cases hq; exact ⟨fun N z => ⟨(fun k h => by cases h), kA, h3, comp, h4⟩, kA, comp, h3, h4, h1, h5⟩
    | k + 2, hq => simp at hq
