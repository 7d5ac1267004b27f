/-! THE CLASS: rows for methods that may throw, its world -/
def xEI : String := "java/lang/IndexOutOfBoundsException"
def xEA : String := "java/lang/IllegalArgumentException"
def xES : String := "java/lang/IllegalStateException"
abbrev xSup : List String := ["java/lang/RuntimeException", "java/lang/Exception"]
def xStrs : List (Nat × String) := [(49, "bells is not 2 to 8"), (63, "no change of this rank"), (78, "no neighbours at this place"), (109, "not the kept places of a step"), (116, "the method has 10 steps"), (152, "what is not 0 to 7"), (160, "what is not 0 to 5"), (162, "no such step"), (193, "no such change"), (195, "the book holds 16 changes"), (197, "no such place"), (199, "steps is not 1 to 200")]
def xBad : List Cond := [.declares ⟨"java/lang/RuntimeException", "<init>", "(Ljava/lang/String;)V"⟩, .declares ⟨"java/lang/Exception", "<init>", "(Ljava/lang/String;)V"⟩, .declares ⟨"java/lang/Throwable", "<init>", "(Ljava/lang/String;)V"⟩, .castable xEI xEI, .castable xEA xEA, .castable xES xES]
theorem xBad_tab : ∀ w ∈ xBad, w.onTables = true := by decide +kernel
theorem xBad_warm {s U : State} (hW : s.WarmedH U.vm) (h : ∀ w ∈ xBad, va_Nw w s) : ∀ w ∈ xBad, va_Nw w U := by
  intro w hw
  have hz := h w hw
  simp only [xBad, List.mem_cons, List.not_mem_nil, or_false] at hw
  rcases hw with rfl | rfl | rfl | rfl | rfl | rfl
  · exact va_Nw.warmD hW hz
  · exact va_Nw.warmD hW hz
  · exact va_Nw.warmD hW hz
  · exact va_Nw.warmC hW hz
  · exact va_Nw.warmC hW hz
  · exact va_Nw.warmC hW hz
def xZ (A : Nat → Prop) (U : State) (H : Heap) : Prop := vx_Zq Bundle.tN "UNASSIGNED_STACK" Bundle.steD A U H ∧ vx_Zq Bundle.tN "SUPPRESSED_SENTINEL" Bundle.listD A U H ∧ (∀ q ∈ xStrs, ∃ a : Nat, vk_R RX3 q.1 q.2 a U) ∧ ∀ w ∈ xBad, va_Nw w U
theorem xZ.kept {A : Nat → Prop} {U : State} {H H1 : Heap} (h : xZ A U H) (hq : ∀ a : Nat, a < H.size → ¬ A a → H1[a]? = H[a]?) : xZ A U H1 := ⟨h.1.kept hq, h.2.1.kept hq, h.2.2⟩
theorem xZ.narrow {A B : Nat → Prop} {U : State} {H : Heap} (h : xZ A U H) (hAB : ∀ q, B q → A q) : xZ B U H := ⟨h.1.narrow hAB, h.2.1.narrow hAB, h.2.2⟩
theorem xZ.warm {A : Nat → Prop} {s U : State} {H : Heap} (hW : s.WarmedH U.vm) (h : xZ A s H) : xZ A U H := ⟨vx_Zq.moved hW.alike h.1, vx_Zq.moved hW.alike h.2.1, fun q hq => by
  obtain ⟨a, ha⟩ := h.2.2.1 q hq
  exact ⟨a, vk_R.warm hW ha⟩, xBad_warm hW h.2.2.2⟩
def xBZ (D : va_G) (cI cC : ClassId) (P : Heap → Prop) (A : Nat → Prop) : State → Prop := fun U => P U.heap ∧ xK D cI cC U ∧ xZ A U U.heap
theorem xBZ_blind {D : va_G} {cI cC : ClassId} {P : Heap → Prop} {A : Nat → Prop} {av : List Value} : FrameBlind (va_Pc av (xBZ D cI cC P A)) := fun a U g mk q => by
  obtain ⟨q0, qP, qK, qU, qN, qR, qB⟩ := q
  exact ⟨q0, qP, va_K.moved (u := U) (U := U.calling g mk a) (Vm.Alike.refl U.vm) qK, vx_Zq.moved (u := U) (U := U.calling g mk a) (Vm.Alike.refl U.vm) qU, vx_Zq.moved (u := U) (U := U.calling g mk a) (Vm.Alike.refl U.vm) qN, fun w hw => by
    obtain ⟨b, hb⟩ := qR w hw
    exact ⟨b, vk_R.same (u := U) (U := U.calling g mk a) rfl hb⟩, fun w hw => va_Nw.same (xBad_tab w hw) (u := U) (U := U.calling g mk a) rfl (qB w hw)⟩
theorem xZPV {D : va_G} {cI cC : ClassId} {P : Heap → Prop} {A : Nat → Prop} {As : List Value} {s : State} {H : Heap} {C : String} {b : Addr} (hK : xK D cI cC s) (hZ : xZ A s H) (hP : P H) (hr : ∃ cellB : Cell, H[b]? = some cellB ∧ cellB.vm.isStatics = false ∧ s.vm.findClass C = some cellB.cls) : PreV s H C b (va_Pc (.ref b :: As) (xBZ D cI cC P A)) As :=
  ⟨xBZ_blind, hr, fun U hU hW => ⟨rfl, by rw [hU]; exact hP, va_K.moved hW.alike hK, by rw [hU]; exact hZ.warm hW⟩⟩
theorem xZPS {D : va_G} {cI cC : ClassId} {P : Heap → Prop} {A : Nat → Prop} {As : List Value} {s : State} {H : Heap} (hK : xK D cI cC s) (hZ : xZ A s H) (hP : P H) : PreS s H (va_Pc As (xBZ D cI cC P A)) As :=
  ⟨xBZ_blind, fun U hU hW => ⟨rfl, by rw [hU]; exact hP, va_K.moved hW.alike hK, by rw [hU]; exact hZ.warm hW⟩⟩
/-- what is thrown -/
def xX (A : Nat → Prop) (B : String → Heap → Prop) : String → State → State → Prop := vx_X (fun _ : Unit => True) (fun E _ t => B E t.heap) A
theorem xgood_I : ∀ w ∈ Cond.classLink RX3 61 xEI :: Cond.initialized xEI :: vx_atS RX3 65 xEI xSup, vx_ot w = true := by decide +kernel
theorem xgood_A : ∀ w ∈ Cond.classLink RX3 47 xEA :: Cond.initialized xEA :: vx_atS RX3 51 xEA xSup, vx_ot w = true := by decide +kernel
theorem xgood_S : ∀ w ∈ Cond.classLink RX3 114 xES :: Cond.initialized xES :: vx_atS RX3 118 xES xSup, vx_ot w = true := by decide +kernel
theorem xbad_I : ∀ w ∈ (vx_atS RX3 65 xEI xSup).filter (fun w => !goodWord w), w ∈ xBad := by decide +kernel
theorem xbad_A : ∀ w ∈ (vx_atS RX3 51 xEA xSup).filter (fun w => !goodWord w), w ∈ xBad := by decide +kernel
theorem xbad_S : ∀ w ∈ (vx_atS RX3 118 xES xSup).filter (fun w => !goodWord w), w ∈ xBad := by decide +kernel
section XT
variable {p : Program} {l : Launch} {e : Env} {R : Room} {s : State} {m : MethodId} {args : Array Value} {below : List Frame} {meth : Method} {c : Code} {H : Heap} {locs : List Loc} {cells slots : Nat} {Q : State → Prop}
variable {mc ms : Nat} {free : Addr → Prop} {A0 A1 : Nat → Prop} {H0 : Heap} {a : Array Value} {pc : Nat} {ls : Array Slot} {st0 rest : List Value}
theorem xvx_callr {S SX : Type} {post : S → Prop} {px : SX → Prop} {B : S → Nat → State → Prop} {BX : String → SX → State → Prop} {AX : Nat → Prop} (hr : vx_Run p l e R s m args below meth c H locs cells slots mc ms (F0 m pc ls st0) rest (va_Qr post B A1 a) (vx_X px BX AX) free) (hS : va_S A0 H0 H locs) (hA : ∀ q, q < H.size → A1 q → A0 q) (hf : ∀ q, free q → A0 q) (hAX : ∀ q, q < H.size → AX q → A0 q)
    (kx : ∀ (E : String) (ce : Cell) (q9 : Addr) (u : SX) (t : State) (H1 : Heap) (locs1 : List Loc), t.heap = H1 → s.vm.Alike t.vm → px u → BX E u t → H.size ≤ H1.size → (∀ q : Nat, q < H.size → ¬ AX q → H1[q]? = H[q]?) → va_S A0 H0 H1 locs1 → H1[q9]? = some ce → ce.vm = .none → s.vm.findClass E = some ce.cls → vx_W p l e R s m args below meth c H1 locs1 (cells + mc) (slots + ms) Q (F0 m pc ls rest) q9)
    (kk : ∀ (u : S) (ra : Nat) (t : State) (H1 : Heap) (locs1 : List Loc), t.heap = H1 → s.vm.Alike t.vm → post u → B u ra t → H.size ≤ H1.size → (∀ q : Nat, q < H.size → ¬ A1 q → H1[q]? = H[q]?) → va_S A0 H0 H1 locs1 → W p l e R s m args below meth c H1 locs1 (cells + mc) (slots + ms) Q (F0 m (pc + 3) ls (.ref ra :: rest))) : W p l e R s m args below meth c H locs cells slots Q (F0 m pc ls st0) := by
  intro T hT X
  rcases hr T hT X with ⟨v, st₀, t, T', L, h0, X', hL, e1, e2, ⟨⟨u, ra, hv, hp, hb⟩, hF⟩, st⟩ | ⟨q, st₀, t, T', L, E, ce, h0, X', hL, e1, e2, ⟨u, hp, hb, hF⟩, hce, hcv, hcl, st⟩
  · cases hv
    obtain ⟨k1, k2, k3⟩ := vx_keep h0 e1 hS hA hf hL hF
    obtain ⟨t2, a1, b1⟩ := kk u ra t T'.heap (locs ++ L) e1.symm (by rw [← e2]; exact X'.warmed.alike) hp hb k1 k2 k3 T' rfl X'
    exact ⟨t2, st t2 a1, b1⟩
  · obtain ⟨k1, k2, k3⟩ := vx_keep h0 e1 hS hAX hf hL hF
    obtain ⟨t2, a1, b1⟩ := kx E ce q u t T'.heap (locs ++ L) e1.symm (by rw [← e2]; exact X'.warmed.alike) hp hb k1 k2 k3 (by rw [e1]; exact hce) hcv hcl T' rfl X'
    exact ⟨t2, st.trans a1, b1⟩
variable {D : va_G} {cI cC : ClassId} {P : Heap → Prop} {A2 : Nat → Prop} {y : MethodName} {bytes cc : ByteArray} {maxL nL n index : Nat} {ret : Option FieldType} {ws : List Cond} {rm : Room} {Ts : List Cond} {own C : String} {b : Addr} {As : List Value}
/-- a call of a method that hands back a cell, or throws -/
theorem xtR {S0 : Type} {post : S0 → Prop} {F : S0 → Nat → Heap → Prop} {BX : String → Heap → Prop} (S : CallFix p m c cc nL s args Ts own) (hM : vx_Met l y ws rm (va_Pc (.ref b :: As) (xBZ D cI cC P A2)) (xR post F A1) (xX A1 BX) mc ms free) (cw : CallW R s args own C index y bytes maxL ret ws rm mc ms n) (hK : xK D cI cC s) (hZ : xZ A2 s H) (hP : P H) (hr : ∃ cellB : Cell, H[b]? = some cellB ∧ cellB.vm.isStatics = false ∧ s.vm.findClass C = some cellB.cls)
    (hn : As.length = n) (hl : ls.size = nL) (hst : st0 = As.reverse ++ .ref b :: rest) (hcat : (rest.map fun v => v.category).sum ≤ 8) (hdg : decode cc pc = .ok (.invokevirtual index, 3)) (hf : cells + mc ≤ R.cells ∧ slots + ms ≤ R.slots)
    (hS : va_S A0 H0 H locs) (hA : ∀ q, A1 q → A0 q) (hfr : ∀ q, free q → A0 q)
    (kx : ∀ (E : String) (ce : Cell) (q9 : Addr) (H1 : Heap) (locs1 : List Loc), BX E H1 → H.size ≤ H1.size → (∀ q : Nat, q < H.size → ¬ A1 q → H1[q]? = H[q]?) → va_S A0 H0 H1 locs1 → H1[q9]? = some ce → ce.vm = .none → s.vm.findClass E = some ce.cls → vx_W p l e R s m args below meth c H1 locs1 (cells + mc) (slots + ms) Q (F0 m pc ls rest) q9)
    (kk : ∀ (u : S0) (ra : Nat) (H1 : Heap) (locs1 : List Loc), post u → F u ra H1 → H.size ≤ H1.size → (∀ q : Nat, q < H.size → ¬ A1 q → H1[q]? = H[q]?) → va_S A0 H0 H1 locs1 → W p l e R s m args below meth c H1 locs1 (cells + mc) (slots + ms) Q (F0 m (pc + 3) ls (.ref ra :: rest))) : W p l e R s m args below meth c H locs cells slots Q (F0 m pc ls st0) :=
  xvx_callr (vx_runV S hM cw (xZPV hK hZ hP hr) rfl hn hl hst (lv_room hcat) hdg hf) hS (fun q _ h => hA q h) hfr (fun q _ h => hA q h)
    (fun E ce q9 _ t H1 locs1 ht _ _ hB hz hk hS1 h1 h2 h3 => kx E ce q9 H1 locs1 (ht ▸ hB) hz hk hS1 h1 h2 h3)
    (fun u ra t H1 locs1 ht _ hp hF hz hk hS1 => kk u ra H1 locs1 hp (ht ▸ hF) hz hk hS1)
theorem xtI {S0 : Type} {post : Int32 → S0 → Prop} {F : S0 → Heap → Prop} {BX : String → Heap → Prop} (S : CallFix p m c cc nL s args Ts own) (hM : vx_Met l y ws rm (va_Pc (.ref b :: As) (xBZ D cI cC P A2)) (xI post F A1) (xX A1 BX) mc ms free) (cw : CallW R s args own C index y bytes maxL ret ws rm mc ms n) (hK : xK D cI cC s) (hZ : xZ A2 s H) (hP : P H) (hr : ∃ cellB : Cell, H[b]? = some cellB ∧ cellB.vm.isStatics = false ∧ s.vm.findClass C = some cellB.cls)
    (hn : As.length = n) (hl : ls.size = nL) (hst : st0 = As.reverse ++ .ref b :: rest) (hcat : (rest.map fun v => v.category).sum ≤ 8) (hdg : decode cc pc = .ok (.invokevirtual index, 3)) (hf : cells + mc ≤ R.cells ∧ slots + ms ≤ R.slots)
    (hS : va_S A0 H0 H locs) (hA : ∀ q, A1 q → A0 q) (hfr : ∀ q, free q → A0 q)
    (kx : ∀ (E : String) (ce : Cell) (q9 : Addr) (H1 : Heap) (locs1 : List Loc), BX E H1 → H.size ≤ H1.size → (∀ q : Nat, q < H.size → ¬ A1 q → H1[q]? = H[q]?) → va_S A0 H0 H1 locs1 → H1[q9]? = some ce → ce.vm = .none → s.vm.findClass E = some ce.cls → vx_W p l e R s m args below meth c H1 locs1 (cells + mc) (slots + ms) Q (F0 m pc ls rest) q9)
    (kk : ∀ (r : Int32) (u : S0) (H1 : Heap) (locs1 : List Loc), post r u → F u H1 → H.size ≤ H1.size → (∀ q : Nat, q < H.size → ¬ A1 q → H1[q]? = H[q]?) → va_S A0 H0 H1 locs1 → W p l e R s m args below meth c H1 locs1 (cells + mc) (slots + ms) Q (F0 m (pc + 3) ls (.int r :: rest))) : W p l e R s m args below meth c H locs cells slots Q (F0 m pc ls st0) :=
  vx_calli (vx_runV S hM cw (xZPV hK hZ hP hr) rfl hn hl hst (lv_room hcat) hdg hf) hS (fun q _ h => hA q h) hfr (fun q _ h => hA q h)
    (fun E ce q9 _ t H1 locs1 ht _ _ hB hz hk hS1 h1 h2 h3 => kx E ce q9 H1 locs1 (ht ▸ hB) hz hk hS1 h1 h2 h3)
    (fun r u t H1 locs1 ht _ hp hF hz hk hS1 => kk r u H1 locs1 hp (ht ▸ hF) hz hk hS1)
theorem xtV {S0 : Type} {post : S0 → Prop} {F : S0 → Heap → Prop} {BX : String → Heap → Prop} (S : CallFix p m c cc nL s args Ts own) (hM : vx_Met l y ws rm (va_Pc (.ref b :: As) (xBZ D cI cC P A2)) (xV post F A1) (xX A1 BX) mc ms free) (cw : CallW R s args own C index y bytes maxL ret ws rm mc ms n) (hK : xK D cI cC s) (hZ : xZ A2 s H) (hP : P H) (hr : ∃ cellB : Cell, H[b]? = some cellB ∧ cellB.vm.isStatics = false ∧ s.vm.findClass C = some cellB.cls)
    (hn : As.length = n) (hl : ls.size = nL) (hst : st0 = As.reverse ++ .ref b :: rest) (hcat : (rest.map fun v => v.category).sum ≤ 8) (hdg : decode cc pc = .ok (.invokevirtual index, 3)) (hf : cells + mc ≤ R.cells ∧ slots + ms ≤ R.slots)
    (hS : va_S A0 H0 H locs) (hA : ∀ q, A1 q → A0 q) (hfr : ∀ q, free q → A0 q)
    (kx : ∀ (E : String) (ce : Cell) (q9 : Addr) (H1 : Heap) (locs1 : List Loc), BX E H1 → H.size ≤ H1.size → (∀ q : Nat, q < H.size → ¬ A1 q → H1[q]? = H[q]?) → va_S A0 H0 H1 locs1 → H1[q9]? = some ce → ce.vm = .none → s.vm.findClass E = some ce.cls → vx_W p l e R s m args below meth c H1 locs1 (cells + mc) (slots + ms) Q (F0 m pc ls rest) q9)
    (kk : ∀ (u : S0) (H1 : Heap) (locs1 : List Loc), post u → F u H1 → H.size ≤ H1.size → (∀ q : Nat, q < H.size → ¬ A1 q → H1[q]? = H[q]?) → va_S A0 H0 H1 locs1 → W p l e R s m args below meth c H1 locs1 (cells + mc) (slots + ms) Q (F0 m (pc + 3) ls rest)) : W p l e R s m args below meth c H locs cells slots Q (F0 m pc ls st0) :=
  vx_callv (vx_runV S hM cw (xZPV hK hZ hP hr) rfl hn hl hst (lv_room hcat) hdg hf) hS (fun q _ h => hA q h) hfr (fun q _ h => hA q h)
    (fun E ce q9 _ t H1 locs1 ht _ _ hB hz hk hS1 h1 h2 h3 => kx E ce q9 H1 locs1 (ht ▸ hB) hz hk hS1 h1 h2 h3)
    (fun u t H1 locs1 ht _ hp hF hz hk hS1 => kk u H1 locs1 hp (ht ▸ hF) hz hk hS1)
theorem xtVS {S0 : Type} {post : S0 → Prop} {F : S0 → Heap → Prop} {BX : String → Heap → Prop} (S : CallFix p m c cc nL s args Ts own) (hM : vx_Met l y ws rm (va_Pc As (xBZ D cI cC P A2)) (xV post F A1) (xX A1 BX) mc ms free) (cw : CallB R s args own index y bytes maxL ret ws rm mc ms n ∧ (Cond.static y).before args s = true) (hK : xK D cI cC s) (hZ : xZ A2 s H) (hP : P H)
    (hn : As.length = n) (hl : ls.size = nL) (hst : st0 = As.reverse ++ rest) (hcat : (rest.map fun v => v.category).sum ≤ 8) (hdg : decode cc pc = .ok (.invokestatic index, 3)) (hf : cells + mc ≤ R.cells ∧ slots + ms ≤ R.slots)
    (hS : va_S A0 H0 H locs) (hA : ∀ q, A1 q → A0 q) (hfr : ∀ q, free q → A0 q)
    (kx : ∀ (E : String) (ce : Cell) (q9 : Addr) (H1 : Heap) (locs1 : List Loc), BX E H1 → H.size ≤ H1.size → (∀ q : Nat, q < H.size → ¬ A1 q → H1[q]? = H[q]?) → va_S A0 H0 H1 locs1 → H1[q9]? = some ce → ce.vm = .none → s.vm.findClass E = some ce.cls → vx_W p l e R s m args below meth c H1 locs1 (cells + mc) (slots + ms) Q (F0 m pc ls rest) q9)
    (kk : ∀ (u : S0) (H1 : Heap) (locs1 : List Loc), post u → F u H1 → H.size ≤ H1.size → (∀ q : Nat, q < H.size → ¬ A1 q → H1[q]? = H[q]?) → va_S A0 H0 H1 locs1 → W p l e R s m args below meth c H1 locs1 (cells + mc) (slots + ms) Q (F0 m (pc + 3) ls rest)) : W p l e R s m args below meth c H locs cells slots Q (F0 m pc ls st0) :=
  vx_callv (vx_runS S hM cw (xZPS hK hZ hP) rfl hn hl hst (lv_room hcat) hdg hf) hS (fun q _ h => hA q h) hfr (fun q _ h => hA q h)
    (fun E ce q9 _ t H1 locs1 ht _ _ hB hz hk hS1 h1 h2 h3 => kx E ce q9 H1 locs1 (ht ▸ hB) hz hk hS1 h1 h2 h3)
    (fun u t H1 locs1 ht _ hp hF hz hk hS1 => kk u H1 locs1 hp (ht ▸ hF) hz hk hS1)
/-- an exception of a callee goes on to the caller -/
theorem x_pass {Qc : Array Value → State → Outcome → State → Prop} {BX : String → Heap → Prop} {E : String} {ce : Cell} {q : Addr} (htb : ∀ x ∈ c.exceptionTable.toList, False) (hlocks : meth.locks = false) (hcell : H[q]? = some ce) (hv : ce.vm = .none) (hcl : s.vm.findClass E = some ce.cls) (hB : BX E H) (hS : va_S A0 s.heap H locs) (hf : ∀ q, A0 q → free q) (hc : cells ≤ mc) (hs : slots ≤ ms) : vx_W p l e R s m args below meth c H locs cells slots (vx_MQ below Qc (xX A0 BX) args s mc ms free) (F0 m pc ls rest) q :=
  vx_out (fun x hx => (htb x hx).elim) hlocks hcell hv hcl (fun t ht _ => ⟨(), trivial, by show BX E t.heap; rw [ht]; exact hB, hS.F ht⟩) (fun z hz => hf _ (hS.2.2 z hz)) hc hs
/-- 'throw new E("text")' -/
theorem x_throw {Qc : Array Value → State → Outcome → State → Prop} {BX : String → Heap → Prop} {A : Nat → Prop} {cls text : String} {ik is ic : Nat} (hx : p.tables.exec = Jvm.exec) (hb : c.code = cc) (hl : l.stackTraces = false) (hts : ∀ w ∈ Ts, w.before args s = true) (hown : s.vm.findClass RX3 = some m.cls) (htb : ∀ x ∈ c.exceptionTable.toList, False) (hlocks : meth.locks = false) (hZ : xZ A s s.heap) (hS : va_S A s.heap H locs) (hsize : ls.size = c.maxLocals)
    (hfit : Bundle.fit cls = true) (hk : Cond.classLink RX3 ik cls ∈ Ts) (hi : Cond.initialized cls ∈ Ts) (hbad : ∀ w ∈ (vx_atS RX3 ic cls xSup).filter (fun w => !goodWord w), w ∈ xBad) (hin : ∀ w ∈ (vx_atS RX3 ic cls xSup).filter goodWord, w ∈ Ts) (hgood : ∀ w ∈ Cond.classLink RX3 ik cls :: Cond.initialized cls :: vx_atS RX3 ic cls xSup, vx_ot w = true) (hstr : (is, text) ∈ xStrs)
    (d0 : decode cc pc = .ok (.new ik, 3)) (d3 : decode cc (pc + 3) = .ok (.dup, 1)) (d4 : decode cc (pc + 4) = .ok (.ldc is, 2)) (d6 : decode cc (pc + 6) = .ok (.invokespecial ic, 3)) (d9 : decode cc (pc + 9) = .ok (.athrow, 1))
    (hRf : 6 ≤ R.frames) (hRl : (rest.map fun v => v.category).sum + 82 ≤ R.locals) (hRc : cells + 1 ≤ R.cells) (hRs : slots + 6 ≤ R.slots)
    (hB : ∀ H1 : Heap, H.size ≤ H1.size → (∀ q : Nat, q < H.size → H1[q]? = H[q]?) → BX cls H1) (hf : ∀ q, A q → free q) (hc : cells + 1 ≤ mc) (hs : slots + 6 ≤ ms) :
    W p l e R s m args below meth c H locs cells slots (vx_MQ below Qc (xX A BX) args s mc ms free) (F0 m pc ls rest) := by
  obtain ⟨sa, hsa⟩ := hZ.2.2.1 (is, text) hstr
  exact vx_throwS (own := RX3) (cls := cls) (text := text) (names := xSup) (ik := ik) (is := is) (ic := ic) (sa := sa) (A := A) hx hb hl hown hfit (by decide +kernel) (hts _ hk) (hts _ hi) hsa (vx_hat (B := xBad) (fun w hw => hts w (hin w hw)) hbad (fun w hw => va_Nw.use (xBad_tab w hw) (hZ.2.2.2 w hw))) hgood hZ.1 hZ.2.1 hS hsize d0 d3 d4 d6 d9 (fun x hx => (htb x hx).elim) hRf hRl hRc hRs hlocks
    (fun t hvm h1 h2 => ⟨(), trivial, hB t.heap h1 h2, Nat.le_trans hS.1 h1, fun q hq hnq => by rw [h2 q (Nat.lt_of_lt_of_le hq hS.1)]; exact hS.2.1 q hq hnq⟩) (fun z hz => hf _ (hS.2.2 z hz)) hc hs
end XT
/-! the class's cells -/
def xInj (ad : Nat → Nat) : Prop := ∀ i j : Nat, i < 42 → j < 42 → ad i = ad j → i = j
theorem xne {ad : Nat → Nat} (hj : xInj ad) {i k : Nat} (hi : i < 42) (hk : k < 42) (h : i ≠ k) : ad i ≠ ad k := fun e => h (hj i k hi hk e)
def xXO (D : va_G) (ad : Nat → Nat) (n ch rg : Nat) (H : Heap) : Prop := va_at D vwCl (ad 0, .inr (3, [.ref (ad 1), .ref (ad 2), .ref (ad 4), .ref (ad 6), .ref (ad 8), .int (nI n), .int (nI ch), .int (nI rg)])) H
def xXB (D : va_G) (cC : ClassId) (ad : Nat → Nat) (H : Heap) : Prop := va_at D vwCl (ad 1, .inl (cC, 16, .inr (.inr (.inr (.inr (fun k => some (ad (10 + k)))))))) H
def xXC (D : va_G) (cI : ClassId) (ad : Nat → Nat) (zf : Nat → Nat) (pm : Nat → Nat → Nat) (H : Heap) : Prop := ∀ k : Nat, k < 16 → xCh D cI (ad (10 + k)) (ad (26 + k)) (zf k) (pm k) H
def xXW (D : va_G) (cI cC : ClassId) (ad : Nat → Nat) (S : AS) (H : Heap) : Prop := ∃ (zr zm zs : Nat) (fr fm fs zf : Nat → Nat), xXO D ad S.1 S.2.1 S.2.2.2.2.2 H ∧ xXB D cC ad H ∧ xMe D cI (ad 2) (ad 3) S.2.2.2.1 S.2.2.2.2.1 H ∧ xCh D cI (ad 4) (ad 5) zr fr H ∧ (∀ i, fr i < 8) ∧ xCh D cI (ad 6) (ad 7) zm fm H ∧ (∀ i, fm i < 8) ∧ xRs D cI (ad 8) (ad 9) zs fs H ∧ xXC D cI ad zf S.2.2.1 H ∧ ∀ k, k < S.2.1 → zf k = S.1
theorem xXW_mk {D : va_G} {cI cC : ClassId} {ad : Nat → Nat} {S : AS} {H : Heap} {zr zm zs : Nat} {fr fm fs zf : Nat → Nat} (h1 : xXO D ad S.1 S.2.1 S.2.2.2.2.2 H) (h2 : xXB D cC ad H) (h3 : xMe D cI (ad 2) (ad 3) S.2.2.2.1 S.2.2.2.2.1 H) (h4 : xCh D cI (ad 4) (ad 5) zr fr H) (h5 : ∀ i, fr i < 8) (h6 : xCh D cI (ad 6) (ad 7) zm fm H) (h7 : ∀ i, fm i < 8) (h8 : xRs D cI (ad 8) (ad 9) zs fs H) (h9 : xXC D cI ad zf S.2.2.1 H) (h10 : ∀ k, k < S.2.1 → zf k = S.1) : xXW D cI cC ad S H := ⟨zr, zm, zs, fr, fm, fs, zf, h1, h2, h3, h4, h5, h6, h7, h8, h9, h10⟩
theorem xCh_old {D : va_G} {cI : ClassId} {o r n : Nat} {f : Nat → Nat} {H H1 : Heap} (h : xCh D cI o r n f H) (hk : ∀ x : Nat, x < H.size → H1[x]? = H[x]?) : xCh D cI o r n f H1 := ⟨xat_old h.1 hk, xat_old h.2 hk⟩
theorem xXW_old {D : va_G} {cI cC : ClassId} {ad : Nat → Nat} {S : AS} {H H1 : Heap} (h : xXW D cI cC ad S H) (hk : ∀ x : Nat, x < H.size → H1[x]? = H[x]?) : xXW D cI cC ad S H1 := by
  obtain ⟨zr, zm, zs, fr, fm, fs, zf, h1, h2, h3, h4, h5, h6, h7, h8, h9, h10⟩ := h
  exact ⟨zr, zm, zs, fr, fm, fs, zf, xat_old h1 hk, xat_old h2 hk, ⟨xat_old h3.1 hk, xat_old h3.2 hk⟩, xCh_old h4 hk, h5, xCh_old h6 hk, h7, ⟨xat_old h8.1 hk, xat_old h8.2 hk⟩, fun k hk9 => xCh_old (h9 k hk9) hk, h10⟩
theorem xMe_keep {D : va_G} {cI : ClassId} {o r n : Nat} {f : Nat → Nat} {H H1 : Heap} {A : Nat → Prop} (h : xMe D cI o r n f H) (hk : ∀ x : Nat, x < H.size → ¬ A x → H1[x]? = H[x]?) (h1 : ¬ A o) (h2 : ¬ A r) : xMe D cI o r n f H1 := ⟨xat_keep h.1 hk h1, xat_keep h.2 hk h2⟩
theorem xRs_keep {D : va_G} {cI : ClassId} {o r n : Nat} {f : Nat → Nat} {H H1 : Heap} {A : Nat → Prop} (h : xRs D cI o r n f H) (hk : ∀ x : Nat, x < H.size → ¬ A x → H1[x]? = H[x]?) (h1 : ¬ A o) (h2 : ¬ A r) : xRs D cI o r n f H1 := ⟨xat_keep h.1 hk h1, xat_keep h.2 hk h2⟩
theorem xXC_keep {D : va_G} {cI : ClassId} {ad : Nat → Nat} {zf : Nat → Nat} {pm : Nat → Nat → Nat} {H H1 : Heap} {A : Nat → Prop} (h : xXC D cI ad zf pm H) (hk : ∀ x : Nat, x < H.size → ¬ A x → H1[x]? = H[x]?) (hn : ∀ i, 10 ≤ i → i < 42 → ¬ A (ad i)) : xXC D cI ad zf pm H1 := fun k hk9 => xCh_keep (h k hk9) hk (hn _ (by omega) (by omega)) (hn _ (by omega) (by omega))
theorem xXC_set {D : va_G} {cI : ClassId} {ad : Nat → Nat} {zf : Nat → Nat} {pm : Nat → Nat → Nat} {H H1 : Heap} {A : Nat → Prop} {j z : Nat} {f : Nat → Nat} (h : xXC D cI ad zf pm H) (hk : ∀ x : Nat, x < H.size → ¬ A x → H1[x]? = H[x]?) (hn : ∀ i, 10 ≤ i → i < 42 → i ≠ 10 + j → i ≠ 26 + j → ¬ A (ad i)) (hf : xCh D cI (ad (10 + j)) (ad (26 + j)) z f H1) (hj : j < 16) : xXC D cI ad (va_up zf j z) (va_up pm j f) H1 := fun k hk9 => by
  by_cases c : k = j
  · rw [c, va_up_self, va_up_self]; exact hf
  · rw [va_up_ne _ _ c, va_up_ne _ _ c]
    exact xCh_keep (h k hk9) hk (hn _ (by omega) (by omega) (by omega) (by omega)) (hn _ (by omega) (by omega) (by omega) (by omega))
theorem xXC_at {D : va_G} {cI : ClassId} {ad : Nat → Nat} {zf : Nat → Nat} {pm : Nat → Nat → Nat} {H : Heap} {j n : Nat} (h : xXC D cI ad zf pm H) (hj : j < 16) (hz : zf j = n) : xCh D cI (ad (10 + j)) (ad (26 + j)) n (pm j) H := by
  have := h j hj
  rw [hz] at this
  exact this
theorem zf_set {zf : Nat → Nat} {ch n j : Nat} (h : ∀ k, k < ch → zf k = n) : ∀ k, k < ch → va_up zf j n k = n := fun k hk => by
  by_cases c : k = j
  · rw [c, va_up_self]
  · rw [va_up_ne _ _ c]; exact h k hk
theorem zf_add {zf : Nat → Nat} {ch n : Nat} (h : ∀ k, k < ch → zf k = n) : ∀ k, k < ch + 1 → va_up zf ch n k = n := fun k hk => by
  by_cases c : k = ch
  · rw [c, va_up_self]
  · rw [va_up_ne _ _ c]; exact h k (by omega)
abbrev xXA (ad : Nat → Nat) (sz : Nat) : Nat → Prop := fun q9 => (∃ i, i < 42 ∧ q9 = ad i) ∨ sz ≤ q9
abbrev xNo : Nat → Prop := fun _ => False
