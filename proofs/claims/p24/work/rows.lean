section
-- ===== PART A: goes FIRST, ahead of the names: the tables' words, and 'selects' of the private methods out of them =====
/-- a private method of a class that the tables say can be made, by its rows of tables_1 -/
def lw_okq (q : MethodName × Nat) : Prop := (q.1.cls ≠ "java/lang/invoke/MethodHandle" ∧ q.1.cls ≠ "java/lang/invoke/VarHandle") ∧ Cond.instantiable q.1.cls q.2 ∈ tables_1 ∧ Cond.privateMethod q.1 ∈ tables_1 ∧ Cond.instanceMethod q.1 ∈ tables_1
theorem lw_p0 : lw_okq (⟨"BellRanks", "find", "(I)LBellRanks$Change;"⟩, 8) := ⟨⟨by decide +kernel, by decide +kernel⟩, List.mem_of_getElem? (i := 19) (by decide +kernel), List.mem_of_getElem? (i := 17) (by decide +kernel), List.mem_of_getElem? (i := 18) (by decide +kernel)⟩
theorem lw_p1 : lw_okq (⟨"java/lang/Throwable", "fillInStackTrace", "(I)Ljava/lang/Throwable;"⟩, 6) := ⟨⟨by decide +kernel, by decide +kernel⟩, List.mem_of_getElem? (i := 62) (by decide +kernel), List.mem_of_getElem? (i := 60) (by decide +kernel), List.mem_of_getElem? (i := 61) (by decide +kernel)⟩
theorem lw_p2 : lw_okq (⟨"BellRanks$Change", "put", "(II)V"⟩, 2) := ⟨⟨by decide +kernel, by decide +kernel⟩, List.mem_of_getElem? (i := 103) (by decide +kernel), List.mem_of_getElem? (i := 101) (by decide +kernel), List.mem_of_getElem? (i := 102) (by decide +kernel)⟩
theorem lw_p3 : lw_okq (⟨"BellRanks$Change", "lesserBehind", "(I)I"⟩, 2) := ⟨⟨by decide +kernel, by decide +kernel⟩, List.mem_of_getElem? (i := 103) (by decide +kernel), List.mem_of_getElem? (i := 110) (by decide +kernel), List.mem_of_getElem? (i := 111) (by decide +kernel)⟩
theorem lw_p4 : lw_okq (⟨"BellRanks$Change", "insertAhead", "(II)V"⟩, 2) := ⟨⟨by decide +kernel, by decide +kernel⟩, List.mem_of_getElem? (i := 103) (by decide +kernel), List.mem_of_getElem? (i := 125) (by decide +kernel), List.mem_of_getElem? (i := 126) (by decide +kernel)⟩
theorem lw_p5 : lw_okq (⟨"BellRanks", "openPage", "()LBellRanks$Change;"⟩, 8) := ⟨⟨by decide +kernel, by decide +kernel⟩, List.mem_of_getElem? (i := 19) (by decide +kernel), List.mem_of_getElem? (i := 133) (by decide +kernel), List.mem_of_getElem? (i := 134) (by decide +kernel)⟩
theorem lw_p6 : lw_okq (⟨"BellRanks", "checkPlace", "(I)V"⟩, 8) := ⟨⟨by decide +kernel, by decide +kernel⟩, List.mem_of_getElem? (i := 19) (by decide +kernel), List.mem_of_getElem? (i := 216) (by decide +kernel), List.mem_of_getElem? (i := 217) (by decide +kernel)⟩
theorem lw_p7 : lw_okq (⟨"BellRanks$Change", "isLeastOfRing", "(I)Z"⟩, 2) := ⟨⟨by decide +kernel, by decide +kernel⟩, List.mem_of_getElem? (i := 103) (by decide +kernel), List.mem_of_getElem? (i := 234) (by decide +kernel), List.mem_of_getElem? (i := 235) (by decide +kernel)⟩
theorem lw_p8 : lw_okq (⟨"BellRanks", "differentInBook", "()I"⟩, 8) := ⟨⟨by decide +kernel, by decide +kernel⟩, List.mem_of_getElem? (i := 19) (by decide +kernel), List.mem_of_getElem? (i := 278) (by decide +kernel), List.mem_of_getElem? (i := 279) (by decide +kernel)⟩
def lw_privs_1 : List (MethodName × Nat) := [(⟨"BellRanks", "find", "(I)LBellRanks$Change;"⟩, 8), (⟨"java/lang/Throwable", "fillInStackTrace", "(I)Ljava/lang/Throwable;"⟩, 6), (⟨"BellRanks$Change", "put", "(II)V"⟩, 2), (⟨"BellRanks$Change", "lesserBehind", "(I)I"⟩, 2), (⟨"BellRanks$Change", "insertAhead", "(II)V"⟩, 2), (⟨"BellRanks", "openPage", "()LBellRanks$Change;"⟩, 8), (⟨"BellRanks", "checkPlace", "(I)V"⟩, 8), (⟨"BellRanks$Change", "isLeastOfRing", "(I)Z"⟩, 2), (⟨"BellRanks", "differentInBook", "()I"⟩, 8)]
theorem lw_r1 : ∀ q ∈ lw_privs_1, lw_okq q := List.forall_mem_cons.mpr ⟨lw_p0, List.forall_mem_cons.mpr ⟨lw_p1, List.forall_mem_cons.mpr ⟨lw_p2, List.forall_mem_cons.mpr ⟨lw_p3, List.forall_mem_cons.mpr ⟨lw_p4, List.forall_mem_cons.mpr ⟨lw_p5, List.forall_mem_cons.mpr ⟨lw_p6, List.forall_mem_cons.mpr ⟨lw_p7, List.forall_mem_cons.mpr ⟨lw_p8, fun _ h => absurd h List.not_mem_nil⟩⟩⟩⟩⟩⟩⟩⟩⟩
def lw_privs : List (MethodName × Nat) := lw_privs_1
def lw_tbl : List Cond := k2_sels lw_privs ++ tables_1
theorem lw_privs_ok : ∀ q ∈ lw_privs, lw_okq q := lw_r1
-- ===== end of PART A; then your names; then what follows =====
/-! ===== BEGIN words of one list among another's, by their places ===== -/
theorem goodIn_r {big : List Cond} (ws : List Cond) (ps : List Nat) (hp : ws = ps.filterMap (fun i => big[i]?)) (h : ws.all goodWord = true) : GoodIn big ws := by
  intro w hw
  have h1 := List.all_eq_true.mp h w hw
  rw [hp] at hw
  obtain ⟨i, -, hi⟩ := List.mem_filterMap.mp hw
  have hm : w ∈ big := by first | exact List.mem_of_getElem? hi | exact List.getElem?_mem hi
  exact ⟨hm, good_of_word h1⟩
theorem goodIn_app {big a b : List Cond} (ha : GoodIn big a) (hb : GoodIn big b) : GoodIn big (a ++ b) := fun w h => (List.mem_append.mp h).elim (ha w) (hb w)
theorem goodIn_ca {big a b : List Cond} {c : Cond} (ha : GoodIn big (c :: a)) (hb : GoodIn big b) : GoodIn big (c :: (a ++ b)) := fun w h => (List.mem_cons.mp h).elim (fun e => ha w (List.mem_cons.mpr (Or.inl e))) (fun h => (List.mem_append.mp h).elim (fun h => ha w (List.mem_cons.mpr (Or.inr h))) (hb w))
theorem goodIn_sub {big ws : List Cond} (hm : ∀ w ∈ ws, w ∈ big) (h : ws.all goodWord = true) : GoodIn big ws := fun w hw => ⟨hm w hw, good_of_word (List.all_eq_true.mp h w hw)⟩
/-! ===== END ===== -/

/-! ===== BEGIN exceptions that leave a method, and their catching by the caller (launches without stack traces) ===== -/
section VXA
/-! The laws vx_back, vx_callV, vx_callS, vx_callSW, vx_throw0, vx_throwS follow proofs of the library, with one case more: JvmDerived/Free/Laws.lean (Back.of_free), Shelf42/LK1.lean (callV, callS), Shelf/KitTraced.lean (throwNew0V, throwNewS). -/
/-- where a method has thrown q: the class by its name, the cell, what was written, the world -/
def vx_T (XC : String → State → State → Prop) (st : State) (q : Addr) (t : State) (mc ms : Nat) (free : Addr → Prop) : Prop :=
  ∃ (E : String) (ce : Cell) (L : List Loc), XC E st t ∧ t.heap[q]? = some ce ∧ ce.vm = .none ∧ st.vm.findClass E = some ce.cls ∧ st.WarmedH t.vm ∧ st.sameButNew ({ t with vm := st.vm } : State) L mc ms ∧ ∀ z ∈ L, free z.base
def vx_Q (Qc : Array Value → State → Outcome → State → Prop) (XC : String → State → State → Prop) (mc ms : Nat) (free : Addr → Prop) : Array Value → State → Outcome → State → Prop := fun a st o t =>
  (Qc a st o t ∧ ∃ L, FrameEnd st o t L mc ms ∧ ∀ q ∈ L, free q.base) ∨ ∃ q, o = .threw q ∧ vx_T XC st q t mc ms free
/-- a callee that returns or throws -/
def vx_Met (l : Launch) (y : MethodName) (ws : List Cond) (rm : Room) (Pc : Array Value → State → Prop) (Qc : Array Value → State → Outcome → State → Prop) (XC : String → State → State → Prop) (mc ms : Nat) (free : Addr → Prop) : Prop :=
  MetFree l y (headSpec ws rm) Pc (fun _ _ _ _ _ => True) (vx_Q Qc XC mc ms free)
def vx_Post (XC : String → State → State → Prop) (mc ms : Nat) (free : Addr → Prop) : Pt → Array Value → Addr → Pt → Prop := fun A a q B =>
  ∃ (g : JFrame) (mk : MethodId) (t : State) (L : List Loc) (E : String) (ce : Cell), B.U.heap = t.heap ∧ B.U.vm = t.vm ∧ XC E (A.U.calling g mk a) t ∧ t.heap[q]? = some ce ∧ ce.vm = .none ∧ A.U.vm.findClass E = some ce.cls ∧ B.locs = A.locs ++ L ∧ (∀ z ∈ L, free z.base) ∧ B.cells = A.cells + mc ∧ B.slots = A.slots + ms
def vx_Back (l : Launch) (R : Room) (p : Program) (e : Env) (below : List Frame) (s : State) (sargs : Array Value) (y : MethodName) (len W9 : Nat)
    (Pre : Pt → Array Value → Prop) (Post : Pt → Array Value → Option Value → Pt → Prop) (PostX : Pt → Array Value → Addr → Pt → Prop) : Prop :=
  ∀ (m : MethodId) (meth : Method) (c : Code) (A : Pt) (g : JFrame) (ig : Instr) (mk : MethodId) (a : Array Value),
    Stand p l e R s m sargs below meth c A.U A.locs A.cells A.slots → g.method = m → g.locals.size = c.maxLocals → decode c.code g.pc = .ok (ig, len) →
    2 * g.monitorRoom + (g.stack.map fun v => v.category).sum ≤ W9 → A.U.methodNamed? y = some mk → Pre A a →
    (∃ (v : Option Value) (B : Pt), Stand p l e R s m sargs below meth c B.U B.locs B.cells B.slots ∧ Post A a v B ∧
      Steps p.tables e below (doInvoke e (A.U.setTop g) [] mk a).1 (B.U.setTop { g with pc := g.pc + len, stack := v.toList ++ g.stack })) ∨
    (∃ (q : Addr) (B : Pt), Stand p l e R s m sargs below meth c B.U B.locs B.cells B.slots ∧ PostX A a q B ∧
      Steps p.tables e below (doInvoke e (A.U.setTop g) [] mk a).1 ((B.U.setTop g).pushFrame (.throwing q)))
section Payer
variable {l : Launch} {R : Room} {p : Program} {e : Env} {below : List Frame} {s : State} {sargs : Array Value} {y : MethodName} {len W9 : Nat}
theorem vx_back {ws : List Cond} {rm : Room} {Pc : Array Value → State → Prop} {Qc : Array Value → State → Outcome → State → Prop} {XC : String → State → State → Prop} {mc ms : Nat} {free : Addr → Prop} {bytes : ByteArray} {maxL : Nat} {ret : Option FieldType}
    (hM : vx_Met l y ws rm Pc Qc XC mc ms free) (hblind : FrameBlind Pc) (hrc : rm.cells = mc) (hrs : rm.slots = ms)
    (hframes : rm.frames + 1 ≤ R.frames) (hlocals : W9 + (maxL + 11) + rm.locals ≤ R.locals)
    (hws : ∀ w ∈ ws, ∀ a' U, s.WarmedH U.vm → w.before a' U = true) (hcode : Cond.code y bytes maxL ret ∈ ws) (hinit : ∀ a' U, s.WarmedH U.vm → (Cond.initialized y.cls).before a' U = true) :
    vx_Back l R p e below s sargs y len W9 (PreOf R mc ms Pc) (PostOf Qc mc ms free) (vx_Post XC mc ms free) := by
  intro m meth c A g ig mk a X hg hsize hdg hW hn hp
  have h1 : (headSpec ws rm).pre.before a A.U = true := atoms_intro fun w hw => hws w hw _ _ X.warmed
  have h2 : (Cond.code y bytes maxL ret).before a A.U = true := hws _ hcode _ _ X.warmed
  have h3 : (Cond.initialized y.cls).before a A.U = true := hinit _ _ X.warmed
  have h4 : A.cells + (headSpec ws rm).room.cells ≤ R.cells := by rw [show (headSpec ws rm).room.cells = mc from hrc]; exact hp.1
  have h5 : A.slots + (headSpec ws rm).room.slots ≤ R.slots := by rw [show (headSpec ws rm).room.slots = ms from hrs]; exact hp.2.1
  have hPc : Pc a (A.U.calling g mk a) := hblind _ _ _ _ hp.2.2
  obtain ⟨U, Ls, c0, s0⟩ := A
  dsimp only [Pt.U, Pt.locs, Pt.cells, Pt.slots] at h1 h2 h3 h4 h5 X hn hPc ⊢
  obtain ⟨methY, cY, hmY, hcY, -, hlY, -, -, -, -⟩ := Cond.code_spec hn h2
  obtain ⟨kY, hkY, -⟩ := className_of_methodNamed hn
  have hinitY : kY.init = .initialized := Cond.initialized_spec (findClass_of_methodNamed hn) hkY h3
  have h : At U g.method c below := by rw [hg]; exact X.here
  have hlocals9 : W9 + (maxL + 11) + (headSpec ws rm).room.locals ≤ R.locals := hlocals
  have happ : (headSpec ws rm).appliesLoose y e.platform (U.calling g mk a) = true :=
    Spec.appliesLoose_calling (g := g) h hdg hn hkY hinitY
      (X.room_calling (g := g) (R' := (headSpec ws rm).room) hsize hmY hcY hframes (by rw [hlY]; omega) h4 h5) h1
  obtain ⟨mid, hmid⟩ := h.above
  have hfr : (U.setTop g).frames = (.java g :: mid) ++ below := by rw [State.frames_setTop' g h.top, hmid]; rfl
  obtain ⟨o, s₂, hsteps, -, hend, hq⟩ := Steps.callFree hM p X.admits X.cas X.clock (acts := []) hfr happ hPc trivial
  have hq' : vx_Q Qc XC mc ms free a (U.calling g mk a) o s₂ := hq
  rw [State.frames_setTop' g h.top] at hend
  obtain ⟨g₀, hg0⟩ := Option.isSome_iff_exists.mp h.top
  obtain ⟨r, hr⟩ := State.topJava?_eq_some.mp hg0
  have hr' : (({ U with heap := s₂.heap, slotsUsed := s₂.slotsUsed } : State).setVm s₂.vm).frames = .java g₀ :: r := hr
  rcases hq' with ⟨hqc, L, hfe, hL⟩ | ⟨q, rfl, E, ce, L, hx, hce, hcv, hcl, hW₂, hsm, hL⟩
  · obtain ⟨⟨v, rfl⟩, hW₂, e2, q2, q3, q4, q5, q6⟩ := id hfe
    have e3 : s₂ = ({ (U.calling g mk a).setFrames s₂.frames with heap := s₂.heap, slotsUsed := s₂.slotsUsed } : State).setVm s₂.vm := by
      have : s₂ = ({ s₂ with vm := (U.calling g mk a).vm } : State).setVm s₂.vm := rfl
      rw [e2] at this
      exact this
    obtain ⟨c₂, i₂, len₂, hc₂, hd₂, hf₂⟩ := hend
    have hW' : U.WarmedH s₂.vm := hW₂
    have hcc : c₂ = c := by
      have h1 : s₂.code? g.method = U.code? g.method := by
        rw [State.code?_eq, State.code?_eq, hW'.alike.method?]
      exact Option.some.inj (hc₂.symm.trans (h1.trans h.code))
    subst hcc
    have hlen : len₂ = len := by rw [hdg] at hd₂; cases hd₂; rfl
    subst hlen
    have hs₂ : s₂ = (({ U with heap := s₂.heap, slotsUsed := s₂.slotsUsed } : State).setVm s₂.vm).setTop { g with pc := g.pc + len₂, stack := v.toList ++ g.stack } := by
      refine e3.trans ?_
      rw [hf₂, State.calling_eq h.top, State.setFrames_setFrames, State.setTop_of_frames _ hr', hr]
      rfl
    have hsame : U.sameButNew ({ U with heap := s₂.heap, slotsUsed := s₂.slotsUsed } : State) L mc ms := by
      refine ⟨?_, q2, q3, q4, q5, q6⟩
      obtain ⟨t, ht, -⟩ := State.frames_cons hr
      show ({ U with heap := s₂.heap, slotsUsed := s₂.slotsUsed } : State) = { U.setFrames U.frames with heap := s₂.heap, slotsUsed := s₂.slotsUsed }
      rw [State.setFrames_self ht]
    subst hg
    refine Or.inl ⟨v, ⟨(({ U with heap := s₂.heap, slotsUsed := s₂.slotsUsed } : State).setVm s₂.vm), Ls ++ L, c0 + mc, s0 + ms⟩,
      ⟨X.admits, X.cas, X.clock, X.frames, X.room, X.hears, X.method, X.code, (X.here.setHeapUsed s₂.heap s₂.slotsUsed).setVm hW'.alike, X.tail, State.WarmedH.trans X.warmed hW', X.limits, X.bytes, X.same.trans (hsame.setVm s.vm)⟩,
      ⟨g, mk, s₂, L, rfl, rfl, hqc, rfl, hL, rfl, rfl⟩, ?_⟩
    show Steps p.tables e below _ ((({ U with heap := s₂.heap, slotsUsed := s₂.slotsUsed } : State).setVm s₂.vm).setTop { g with pc := g.pc + len₂, stack := v.toList ++ g.stack })
    rw [← hs₂]
    exact hsteps
  · obtain ⟨e2, q2, q3, q4, q5, q6⟩ := id hsm
    have e3 : s₂ = ({ (U.calling g mk a).setFrames s₂.frames with heap := s₂.heap, slotsUsed := s₂.slotsUsed } : State).setVm s₂.vm := by
      have : s₂ = ({ s₂ with vm := (U.calling g mk a).vm } : State).setVm s₂.vm := rfl
      rw [e2] at this
      exact this
    have hf₂ : s₂.frames = .throwing q :: .java g :: U.frames.tail := hend
    have hW' : U.WarmedH s₂.vm := hW₂
    have hs₂ : s₂ = ((({ U with heap := s₂.heap, slotsUsed := s₂.slotsUsed } : State).setVm s₂.vm).setTop g).pushFrame (.throwing q) := by
      refine e3.trans ?_
      rw [hf₂, State.calling_eq h.top, State.setFrames_setFrames, State.pushFrame, State.frames_setTop _ hr', State.setTop_of_frames _ hr', State.setFrames_setFrames, hr]
      rfl
    have hsame : U.sameButNew ({ U with heap := s₂.heap, slotsUsed := s₂.slotsUsed } : State) L mc ms := by
      refine ⟨?_, q2, q3, q4, q5, q6⟩
      obtain ⟨t, ht, -⟩ := State.frames_cons hr
      show ({ U with heap := s₂.heap, slotsUsed := s₂.slotsUsed } : State) = { U.setFrames U.frames with heap := s₂.heap, slotsUsed := s₂.slotsUsed }
      rw [State.setFrames_self ht]
    subst hg
    refine Or.inr ⟨q, ⟨(({ U with heap := s₂.heap, slotsUsed := s₂.slotsUsed } : State).setVm s₂.vm), Ls ++ L, c0 + mc, s0 + ms⟩,
      ⟨X.admits, X.cas, X.clock, X.frames, X.room, X.hears, X.method, X.code, (X.here.setHeapUsed s₂.heap s₂.slotsUsed).setVm hW'.alike, X.tail, State.WarmedH.trans X.warmed hW', X.limits, X.bytes, X.same.trans (hsame.setVm s.vm)⟩,
      ⟨g, mk, s₂, L, E, ce, rfl, rfl, hx, hce, hcv, hcl, rfl, hL, rfl, rfl⟩, ?_⟩
    show Steps p.tables e below _ (((({ U with heap := s₂.heap, slotsUsed := s₂.slotsUsed } : State).setVm s₂.vm).setTop g).pushFrame (.throwing q))
    rw [← hs₂]
    exact hsteps
end Payer
section Calls
variable {p : Program} {l : Launch} {e : Env} {R : Room} {s : State} {m : MethodId} {args : Array Value} {below : List Frame} {meth : Method} {c : Code} {T : State} {locs : List Loc} {cells slots : Nat}
theorem vx_callV (X : Stand p l e R s m args below meth c T locs cells slots) (hexec : p.tables.exec = Jvm.exec) {own C : String} {index : Nat} {y : MethodName} {bytes : ByteArray} {maxL : Nat} {ret : Option FieldType}
    (hown : s.vm.findClass own = some m.cls) (hlink : (Cond.methodLink own index y).before args s = true) (hinst : (Cond.instanceMethod y).before args s = true) (hsel : (Cond.selects C y y).before args s = true)
    (hcode : (Cond.code y bytes maxL ret).before args s = true) (hy : y.cls ≠ "java/lang/invoke/MethodHandle" ∧ y.cls ≠ "java/lang/invoke/VarHandle")
    {W9 : Nat} {Pre : Pt → Array Value → Prop} {Post : Pt → Array Value → Option Value → Pt → Prop} {PostX : Pt → Array Value → Addr → Pt → Prop} (hK : vx_Back l R p e below s args y 3 W9 Pre Post PostX)
    {b : Addr} {cellB : Cell} (hcell : T.heap[b]? = some cellB) (hobj : cellB.vm.isStatics = false) (hcls : s.vm.findClass C = some cellB.cls)
    {g : JFrame} (hg : g.method = m) (hsize : g.locals.size = c.maxLocals) {argsL rest : List Value} (hlen : ∀ sig, parseMethodDescriptor y.desc = some sig → argsL.length = sig.parameters.length)
    (hstack : g.stack = argsL.reverse ++ .ref b :: rest) (hW : 2 * g.monitorRoom + (rest.map fun v => v.category).sum ≤ W9) (hdg : decode c.code g.pc = .ok (.invokevirtual index, 3))
    (hpre : ∀ vm₁, s.WarmedH vm₁ → Pre ⟨T.setVm vm₁, locs, cells, slots⟩ (Value.ref b :: argsL).toArray) :
    (∃ (v : Option Value) (vm₁ : Vm) (B : Pt), s.WarmedH vm₁ ∧ Stand p l e R s m args below meth c B.U B.locs B.cells B.slots ∧ Post ⟨T.setVm vm₁, locs, cells, slots⟩ (Value.ref b :: argsL).toArray v B ∧
      ∀ target, Steps p.tables e below (B.U.setTop { g with pc := g.pc + 3, stack := v.toList ++ rest }) target → Steps p.tables e below (T.setTop g) target) ∨
    (∃ (q : Addr) (vm₁ : Vm) (B : Pt), s.WarmedH vm₁ ∧ Stand p l e R s m args below meth c B.U B.locs B.cells B.slots ∧ PostX ⟨T.setVm vm₁, locs, cells, slots⟩ (Value.ref b :: argsL).toArray q B ∧
      Steps p.tables e below (T.setTop g) ((B.U.setTop { g with stack := rest }).pushFrame (.throwing q))) := by
  obtain ⟨mk, methM, hnamed, hmethM, hstM, habM⟩ := Cond.instanceMethod_spec hinst
  obtain ⟨methM', cM, hmethM', -, -, -, -, -, -, hsigM⟩ := Cond.code_spec hnamed hcode
  cases hmethM.symm.trans hmethM'
  obtain ⟨c2, r2, m2, q1, q2, q3, q4, kP, hkP, hkPi⟩ := Cond.selects_spec hsel
  cases hcls.symm.trans q1
  cases (State.methodFound?_of_named hnamed hy).symm.trans q2
  cases hnamed.symm.trans q3
  have hselP : selectMethod e.platform s.vm cellB.cls mk = .method mk := by rw [Launch.admits_selectMethod X.admits]; exact q4
  obtain ⟨vm₁, X₁, hstep₁⟩ := X.invokevirtual hexec hown hlink hnamed hmethM hstM hkP hkPi hy (a := b) (cell := cellB) hcell
    (fun z h => by rw [h] at hobj; cases hobj) hselP hmethM habM hkP hkPi (g := g) hg (argsL := argsL) (rest := rest) (hlen _ hsigM) hstack hdg
  rcases hK m meth c ⟨T.setVm vm₁, locs, cells, slots⟩ { g with stack := rest } (.invokevirtual index) mk (Value.ref b :: argsL).toArray X₁ hg hsize hdg hW (X₁.named hnamed) (hpre vm₁ X₁.warmed) with ⟨v, B, X', hpost, hsteps⟩ | ⟨q, B, X', hpost, hsteps⟩
  · exact Or.inl ⟨v, vm₁, B, X₁.warmed, X', hpost, fun target h => hstep₁ _ fun acts => by rw [doInvoke_state]; exact hsteps.trans h⟩
  · exact Or.inr ⟨q, vm₁, B, X₁.warmed, X', hpost, hstep₁ _ fun acts => by rw [doInvoke_state]; exact hsteps⟩
theorem vx_callS (X : Stand p l e R s m args below meth c T locs cells slots) (hexec : p.tables.exec = Jvm.exec) {own : String} {index : Nat} {y : MethodName} {bytes : ByteArray} {maxL : Nat} {ret : Option FieldType}
    (hown : s.vm.findClass own = some m.cls) (hlink : (Cond.methodLink own index y).before args s = true) (hstat : (Cond.static y).before args s = true) (hinit : (Cond.initialized y.cls).before args s = true)
    (hcode : (Cond.code y bytes maxL ret).before args s = true) (hy : y.cls ≠ "java/lang/invoke/MethodHandle" ∧ y.cls ≠ "java/lang/invoke/VarHandle")
    {W9 : Nat} {Pre : Pt → Array Value → Prop} {Post : Pt → Array Value → Option Value → Pt → Prop} {PostX : Pt → Array Value → Addr → Pt → Prop} (hK : vx_Back l R p e below s args y 3 W9 Pre Post PostX)
    {g : JFrame} (hg : g.method = m) (hsize : g.locals.size = c.maxLocals) {argsL rest : List Value} (hlen : ∀ sig, parseMethodDescriptor y.desc = some sig → argsL.length = sig.parameters.length)
    (hstack : g.stack = argsL.reverse ++ rest) (hW : 2 * g.monitorRoom + (rest.map fun v => v.category).sum ≤ W9) (hdg : decode c.code g.pc = .ok (.invokestatic index, 3))
    (hpre : ∀ vm₁, s.WarmedH vm₁ → Pre ⟨T.setVm vm₁, locs, cells, slots⟩ argsL.toArray) :
    (∃ (v : Option Value) (vm₁ : Vm) (B : Pt), s.WarmedH vm₁ ∧ Stand p l e R s m args below meth c B.U B.locs B.cells B.slots ∧ Post ⟨T.setVm vm₁, locs, cells, slots⟩ argsL.toArray v B ∧
      ∀ target, Steps p.tables e below (B.U.setTop { g with pc := g.pc + 3, stack := v.toList ++ rest }) target → Steps p.tables e below (T.setTop g) target) ∨
    (∃ (q : Addr) (vm₁ : Vm) (B : Pt), s.WarmedH vm₁ ∧ Stand p l e R s m args below meth c B.U B.locs B.cells B.slots ∧ PostX ⟨T.setVm vm₁, locs, cells, slots⟩ argsL.toArray q B ∧
      Steps p.tables e below (T.setTop g) ((B.U.setTop { g with stack := rest }).pushFrame (.throwing q))) := by
  obtain ⟨mk, hnamed⟩ := Cond.code_named hcode
  obtain ⟨methM, cM, hmethM, -, -, -, -, -, -, hsigM⟩ := Cond.code_spec hnamed hcode
  have hstatic : methM.isStatic = true := Cond.static_spec hnamed hmethM hstat
  obtain ⟨kP, hkP, -⟩ := className_of_methodNamed hnamed
  have hinitP : kP.init = .initialized := Cond.initialized_spec (findClass_of_methodNamed hnamed) hkP hinit
  obtain ⟨vm₁, X₁, hstep₁⟩ := X.invokestatic hexec hown hlink hnamed hmethM hstatic hkP hinitP hy (g := g) hg (argsL := argsL) (rest := rest) (hlen _ hsigM) hstack hdg
  rcases hK m meth c ⟨T.setVm vm₁, locs, cells, slots⟩ { g with stack := rest } (.invokestatic index) mk argsL.toArray X₁ hg hsize hdg hW (X₁.named hnamed) (hpre vm₁ X₁.warmed) with ⟨v, B, X', hpost, hsteps⟩ | ⟨q, B, X', hpost, hsteps⟩
  · exact Or.inl ⟨v, vm₁, B, X₁.warmed, X', hpost, fun target h => hstep₁ _ fun acts => by rw [doInvoke_state]; exact hsteps.trans h⟩
  · exact Or.inr ⟨q, vm₁, B, X₁.warmed, X', hpost, hstep₁ _ fun acts => by rw [doInvoke_state]; exact hsteps⟩
end Calls
theorem vx_cls {s : State} {T : State} {vm₁ : Vm} {E : String} {k : ClassId} (hW : s.WarmedH vm₁) (h : (T.setVm vm₁).vm.findClass E = some k) : s.vm.findClass E = some k := by
  have h1 : vm₁.findClass E = some k := h
  rw [hW.alike.findClass] at h1
  exact h1
/-- the method's frame g, with q thrown over it -/
def vx_W (p : Program) (l : Launch) (e : Env) (R : Room) (s : State) (m : MethodId) (args : Array Value) (below : List Frame) (meth : Method) (c : Code) (H : Heap) (locs : List Loc) (cells slots : Nat) (Q : State → Prop) (g : JFrame) (q : Addr) : Prop :=
  ∀ T : State, T.heap = H → Stand p l e R s m args below meth c T locs cells slots → ∃ t, Steps p.tables e below ((T.setTop g).pushFrame (.throwing q)) t ∧ Q t
def vx_Run (p : Program) (l : Launch) (e : Env) (R : Room) (s : State) (m : MethodId) (args : Array Value) (below : List Frame) (meth : Method) (c : Code) (H : Heap) (locs : List Loc) (cells slots mc ms : Nat) (g : JFrame) (rest : List Value) (Qa : State → Outcome → State → Prop) (XC : String → State → State → Prop) (free : Addr → Prop) : Prop :=
  ∀ T : State, T.heap = H → Stand p l e R s m args below meth c T locs cells slots →
    (∃ (v : Option Value) (st₀ t T' : State) (L : List Loc), st₀.heap = H ∧ Stand p l e R s m args below meth c T' (locs ++ L) (cells + mc) (slots + ms) ∧ (∀ q ∈ L, free q.base) ∧ T'.heap = t.heap ∧ T'.vm = t.vm ∧ Qa st₀ (.returned v) t ∧
      Goes p e below T g T' { g with pc := g.pc + 3, stack := v.toList ++ rest }) ∨
    (∃ (q : Addr) (st₀ t T' : State) (L : List Loc) (E : String) (ce : Cell), st₀.heap = H ∧ Stand p l e R s m args below meth c T' (locs ++ L) (cells + mc) (slots + ms) ∧ (∀ z ∈ L, free z.base) ∧ T'.heap = t.heap ∧ T'.vm = t.vm ∧ XC E st₀ t ∧ t.heap[q]? = some ce ∧ ce.vm = .none ∧ s.vm.findClass E = some ce.cls ∧
      Steps p.tables e below (T.setTop g) ((T'.setTop { g with stack := rest }).pushFrame (.throwing q)))
def vx_X {S : Type} (px : S → Prop) (B : String → S → State → Prop) (A : Nat → Prop) : String → State → State → Prop := fun E st t => ∃ u : S, px u ∧ B E u t ∧ va_F A st t
section Runs
variable {p : Program} {l : Launch} {e : Env} {R : Room} {s : State} {m : MethodId} {args : Array Value} {below : List Frame} {meth : Method} {c : Code} {H : Heap} {locs : List Loc} {cells slots : Nat}
variable {y : MethodName} {bytes cc : ByteArray} {maxL nL mc ms n index : Nat} {ret : Option FieldType} {ws : List Cond} {rm : Room} {Pc : Array Value → State → Prop} {Qc : Array Value → State → Outcome → State → Prop} {XC : String → State → State → Prop} {free : Addr → Prop} {Ts : List Cond} {own C : String} {b : Addr} {As rest : List Value} {g : JFrame}
theorem vx_callBack (cb : CallB R s args own index y bytes maxL ret ws rm mc ms n) (hM : vx_Met l y ws rm Pc Qc XC mc ms free) (hbl : FrameBlind Pc) : vx_Back l R p e below s args y 3 8 (PreOf R mc ms Pc) (PostOf Qc mc ms free) (vx_Post XC mc ms free) := by
  obtain ⟨hrc, hrs, hfr, hlo, hws, hcw, -, hini, -⟩ := cb
  exact vx_back (bytes := bytes) (maxL := maxL) (ret := ret) hM hbl hrc hrs hfr hlo hws hcw (fun a' U hW => word_at hW (Or.inl (by first | rfl | simp [Cond.onTables, Cond.keeps, Cond.steady])) hini)
theorem vx_runV (S : CallFix p m c cc nL s args Ts own) (hM : vx_Met l y ws rm Pc Qc XC mc ms free) (cw : CallW R s args own C index y bytes maxL ret ws rm mc ms n) (hp : PreV s H C b Pc As)
    (hg : g.method = m) (hn : As.length = n) (hsize : g.locals.size = nL) (hstack : g.stack = As.reverse ++ .ref b :: rest) (hW : 2 * g.monitorRoom + (rest.map fun v => v.category).sum ≤ 8) (hdg : decode cc g.pc = .ok (.invokevirtual index, 3)) (hf : cells + mc ≤ R.cells ∧ slots + ms ≤ R.slots) :
    vx_Run p l e R s m args below meth c H locs cells slots mc ms g rest (Qc (Value.ref b :: As).toArray) XC free := by
  have hK : vx_Back l R p e below s args y 3 8 (PreOf R mc ms Pc) (PostOf Qc mc ms free) (vx_Post XC mc ms free) := vx_callBack cw.1 hM hp.1
  obtain ⟨⟨-, -, -, -, -, -, hcode, -, hy, hlen, hl⟩, hin, hse⟩ := cw
  obtain ⟨hx, hb, hml, ho, -⟩ := S
  obtain ⟨-, ⟨cellB, hcB, hoB, hclB⟩, hPc⟩ := hp
  intro T hT X
  rcases vx_callV X hx (C := C) (bytes := bytes) (maxL := maxL) (ret := ret) ho hl hin hse hcode hy hK (by rw [hT]; exact hcB) hoB hclB hg (hsize.trans hml.symm) (argsL := As) (rest := rest) (fun sig h => hn.trans (hlen sig h)) hstack hW (by rw [hb]; exact hdg)
    (fun vm₁ hW₁ => ⟨hf.1, hf.2, hPc (T.setVm vm₁) hT hW₁⟩) with ⟨v, vm₁, ⟨U', l2, c2, s2⟩, hW₁, X', ⟨g', mk, t, L, e1, e2, hq, h1, hL, h2, h3⟩, st⟩ | ⟨q, vm₁, ⟨U', l2, c2, s2⟩, hW₁, X', ⟨g', mk, t, L, E, ce, e1, e2, hq, hce, hcv, hcl, h1, hL, h2, h3⟩, st⟩
  · dsimp only [Pt.U, Pt.locs, Pt.cells, Pt.slots] at X' e1 e2 h1 h2 h3 st
    subst h1; subst h2; subst h3
    exact Or.inl ⟨v, (T.setVm vm₁).calling g' mk (Value.ref b :: As).toArray, t, U', L, hT, X', hL, e1, e2, hq, st⟩
  · dsimp only [Pt.U, Pt.locs, Pt.cells, Pt.slots] at X' e1 e2 h1 h2 h3 st hcl
    subst h1; subst h2; subst h3
    exact Or.inr ⟨q, (T.setVm vm₁).calling g' mk (Value.ref b :: As).toArray, t, U', L, E, ce, hT, X', hL, e1, e2, hq, hce, hcv, vx_cls hW₁ hcl, st⟩
theorem vx_runS (S : CallFix p m c cc nL s args Ts own) (hM : vx_Met l y ws rm Pc Qc XC mc ms free) (cw : CallB R s args own index y bytes maxL ret ws rm mc ms n ∧ (Cond.static y).before args s = true) (hp : PreS s H Pc As)
    (hg : g.method = m) (hn : As.length = n) (hsize : g.locals.size = nL) (hstack : g.stack = As.reverse ++ rest) (hW : 2 * g.monitorRoom + (rest.map fun v => v.category).sum ≤ 8) (hdg : decode cc g.pc = .ok (.invokestatic index, 3)) (hf : cells + mc ≤ R.cells ∧ slots + ms ≤ R.slots) :
    vx_Run p l e R s m args below meth c H locs cells slots mc ms g rest (Qc As.toArray) XC free := by
  have hK : vx_Back l R p e below s args y 3 8 (PreOf R mc ms Pc) (PostOf Qc mc ms free) (vx_Post XC mc ms free) := vx_callBack cw.1 hM hp.1
  obtain ⟨⟨-, -, -, -, -, -, hcode, hini, hy, hlen, hl⟩, hstt⟩ := cw
  obtain ⟨hx, hb, hml, ho, -⟩ := S
  intro T hT X
  rcases vx_callS X hx (bytes := bytes) (maxL := maxL) (ret := ret) ho hl hstt hini hcode hy hK hg (hsize.trans hml.symm) (argsL := As) (rest := rest) (fun sig h => hn.trans (hlen sig h)) hstack hW (by rw [hb]; exact hdg)
    (fun vm₁ hW₁ => ⟨hf.1, hf.2, hp.2 (T.setVm vm₁) hT hW₁⟩) with ⟨v, vm₁, ⟨U', l2, c2, s2⟩, hW₁, X', ⟨g', mk, t, L, e1, e2, hq, h1, hL, h2, h3⟩, st⟩ | ⟨q, vm₁, ⟨U', l2, c2, s2⟩, hW₁, X', ⟨g', mk, t, L, E, ce, e1, e2, hq, hce, hcv, hcl, h1, hL, h2, h3⟩, st⟩
  · dsimp only [Pt.U, Pt.locs, Pt.cells, Pt.slots] at X' e1 e2 h1 h2 h3 st
    subst h1; subst h2; subst h3
    exact Or.inl ⟨v, (T.setVm vm₁).calling g' mk As.toArray, t, U', L, hT, X', hL, e1, e2, hq, st⟩
  · dsimp only [Pt.U, Pt.locs, Pt.cells, Pt.slots] at X' e1 e2 h1 h2 h3 st hcl
    subst h1; subst h2; subst h3
    exact Or.inr ⟨q, (T.setVm vm₁).calling g' mk As.toArray, t, U', L, E, ce, hT, X', hL, e1, e2, hq, hce, hcv, vx_cls hW₁ hcl, st⟩
end Runs
section Rows
variable {p : Program} {l : Launch} {e : Env} {R : Room} {s : State} {m : MethodId} {args : Array Value} {below : List Frame} {meth : Method} {c : Code} {H : Heap} {locs : List Loc} {cells slots : Nat} {Q : State → Prop}
variable {mc ms : Nat} {free : Addr → Prop} {A0 A1 : Nat → Prop} {H0 : Heap} {a : Array Value} {pc : Nat} {ls : Array Slot} {st0 rest : List Value}
theorem vx_keep {st₀ t T' : State} {L : List Loc} (h0 : st₀.heap = H) (e1 : T'.heap = t.heap) (hS : va_S A0 H0 H locs) (hA : ∀ q, q < H.size → A1 q → A0 q) (hf : ∀ q, free q → A0 q) (hL : ∀ q ∈ L, free q.base) (hF : va_F A1 st₀ t) :
    H.size ≤ T'.heap.size ∧ (∀ q : Nat, q < H.size → ¬ A1 q → T'.heap[q]? = H[q]?) ∧ va_S A0 H0 T'.heap (locs ++ L) := by
  obtain ⟨hz, hk⟩ := hF
  rw [h0] at hz hk
  exact ⟨by rw [e1]; exact hz, fun q h1 h2 => by rw [e1]; exact hk q h1 h2,
    ⟨Nat.le_trans hS.1 (by rw [e1]; exact hz), fun q h1 h2 => by rw [e1, hk q (Nat.lt_of_lt_of_le h1 hS.1) (fun z => h2 (hA q (Nat.lt_of_lt_of_le h1 hS.1) z))]; exact hS.2.1 q h1 h2, fun q hq => by
      rcases List.mem_append.mp hq with h | h
      · exact hS.2.2 q h
      · exact hf _ (hL q h)⟩⟩
theorem vx_calli {S SX : Type} {post : Int32 → S → Prop} {px : SX → Prop} {B : S → State → Prop} {BX : String → SX → State → Prop} {AX : Nat → Prop} (hr : vx_Run p l e R s m args below meth c H locs cells slots mc ms (F0 m pc ls st0) rest (va_Qi post B A1 a) (vx_X px BX AX) free) (hS : va_S A0 H0 H locs) (hA : ∀ q, q < H.size → A1 q → A0 q) (hf : ∀ q, free q → A0 q) (hAX : ∀ q, q < H.size → AX q → A0 q)
    (kx : ∀ (E : String) (ce : Cell) (q9 : Addr) (u : SX) (t : State) (H1 : Heap) (locs1 : List Loc), t.heap = H1 → s.vm.Alike t.vm → px u → BX E u t → H.size ≤ H1.size → (∀ q : Nat, q < H.size → ¬ AX q → H1[q]? = H[q]?) → va_S A0 H0 H1 locs1 → H1[q9]? = some ce → ce.vm = .none → s.vm.findClass E = some ce.cls → vx_W p l e R s m args below meth c H1 locs1 (cells + mc) (slots + ms) Q (F0 m pc ls rest) q9)
    (kk : ∀ (r : Int32) (u : S) (t : State) (H1 : Heap) (locs1 : List Loc), t.heap = H1 → s.vm.Alike t.vm → post r u → B u t → H.size ≤ H1.size → (∀ q : Nat, q < H.size → ¬ A1 q → H1[q]? = H[q]?) → va_S A0 H0 H1 locs1 → W p l e R s m args below meth c H1 locs1 (cells + mc) (slots + ms) Q (F0 m (pc + 3) ls (.int r :: rest))) : W p l e R s m args below meth c H locs cells slots Q (F0 m pc ls st0) := by
  intro T hT X
  rcases hr T hT X with ⟨v, st₀, t, T', L, h0, X', hL, e1, e2, ⟨⟨r, u, hv, hp, hb⟩, hF⟩, st⟩ | ⟨q, st₀, t, T', L, E, ce, h0, X', hL, e1, e2, ⟨u, hp, hb, hF⟩, hce, hcv, hcl, st⟩
  · cases hv
    obtain ⟨k1, k2, k3⟩ := vx_keep h0 e1 hS hA hf hL hF
    obtain ⟨t2, a1, b1⟩ := kk r u t T'.heap (locs ++ L) e1.symm (by rw [← e2]; exact X'.warmed.alike) hp hb k1 k2 k3 T' rfl X'
    exact ⟨t2, st t2 a1, b1⟩
  · obtain ⟨k1, k2, k3⟩ := vx_keep h0 e1 hS hAX hf hL hF
    obtain ⟨t2, a1, b1⟩ := kx E ce q u t T'.heap (locs ++ L) e1.symm (by rw [← e2]; exact X'.warmed.alike) hp hb k1 k2 k3 (by rw [e1]; exact hce) hcv hcl T' rfl X'
    exact ⟨t2, st.trans a1, b1⟩
theorem vx_calll {S SX : Type} {post : Int64 → S → Prop} {px : SX → Prop} {B : S → State → Prop} {BX : String → SX → State → Prop} {AX : Nat → Prop} (hr : vx_Run p l e R s m args below meth c H locs cells slots mc ms (F0 m pc ls st0) rest (va_Ql post B A1 a) (vx_X px BX AX) free) (hS : va_S A0 H0 H locs) (hA : ∀ q, q < H.size → A1 q → A0 q) (hf : ∀ q, free q → A0 q) (hAX : ∀ q, q < H.size → AX q → A0 q)
    (kx : ∀ (E : String) (ce : Cell) (q9 : Addr) (u : SX) (t : State) (H1 : Heap) (locs1 : List Loc), t.heap = H1 → s.vm.Alike t.vm → px u → BX E u t → H.size ≤ H1.size → (∀ q : Nat, q < H.size → ¬ AX q → H1[q]? = H[q]?) → va_S A0 H0 H1 locs1 → H1[q9]? = some ce → ce.vm = .none → s.vm.findClass E = some ce.cls → vx_W p l e R s m args below meth c H1 locs1 (cells + mc) (slots + ms) Q (F0 m pc ls rest) q9)
    (kk : ∀ (r : Int64) (u : S) (t : State) (H1 : Heap) (locs1 : List Loc), t.heap = H1 → s.vm.Alike t.vm → post r u → B u t → H.size ≤ H1.size → (∀ q : Nat, q < H.size → ¬ A1 q → H1[q]? = H[q]?) → va_S A0 H0 H1 locs1 → W p l e R s m args below meth c H1 locs1 (cells + mc) (slots + ms) Q (F0 m (pc + 3) ls (.long r :: rest))) : W p l e R s m args below meth c H locs cells slots Q (F0 m pc ls st0) := by
  intro T hT X
  rcases hr T hT X with ⟨v, st₀, t, T', L, h0, X', hL, e1, e2, ⟨⟨r, u, hv, hp, hb⟩, hF⟩, st⟩ | ⟨q, st₀, t, T', L, E, ce, h0, X', hL, e1, e2, ⟨u, hp, hb, hF⟩, hce, hcv, hcl, st⟩
  · cases hv
    obtain ⟨k1, k2, k3⟩ := vx_keep h0 e1 hS hA hf hL hF
    obtain ⟨t2, a1, b1⟩ := kk r u t T'.heap (locs ++ L) e1.symm (by rw [← e2]; exact X'.warmed.alike) hp hb k1 k2 k3 T' rfl X'
    exact ⟨t2, st t2 a1, b1⟩
  · obtain ⟨k1, k2, k3⟩ := vx_keep h0 e1 hS hAX hf hL hF
    obtain ⟨t2, a1, b1⟩ := kx E ce q u t T'.heap (locs ++ L) e1.symm (by rw [← e2]; exact X'.warmed.alike) hp hb k1 k2 k3 (by rw [e1]; exact hce) hcv hcl T' rfl X'
    exact ⟨t2, st.trans a1, b1⟩
theorem vx_callf {S SX : Type} {post : UInt32 → S → Prop} {px : SX → Prop} {B : S → State → Prop} {BX : String → SX → State → Prop} {AX : Nat → Prop} (hr : vx_Run p l e R s m args below meth c H locs cells slots mc ms (F0 m pc ls st0) rest (va_Qf post B A1 a) (vx_X px BX AX) free) (hS : va_S A0 H0 H locs) (hA : ∀ q, q < H.size → A1 q → A0 q) (hf : ∀ q, free q → A0 q) (hAX : ∀ q, q < H.size → AX q → A0 q)
    (kx : ∀ (E : String) (ce : Cell) (q9 : Addr) (u : SX) (t : State) (H1 : Heap) (locs1 : List Loc), t.heap = H1 → s.vm.Alike t.vm → px u → BX E u t → H.size ≤ H1.size → (∀ q : Nat, q < H.size → ¬ AX q → H1[q]? = H[q]?) → va_S A0 H0 H1 locs1 → H1[q9]? = some ce → ce.vm = .none → s.vm.findClass E = some ce.cls → vx_W p l e R s m args below meth c H1 locs1 (cells + mc) (slots + ms) Q (F0 m pc ls rest) q9)
    (kk : ∀ (r : UInt32) (u : S) (t : State) (H1 : Heap) (locs1 : List Loc), t.heap = H1 → s.vm.Alike t.vm → post r u → B u t → H.size ≤ H1.size → (∀ q : Nat, q < H.size → ¬ A1 q → H1[q]? = H[q]?) → va_S A0 H0 H1 locs1 → W p l e R s m args below meth c H1 locs1 (cells + mc) (slots + ms) Q (F0 m (pc + 3) ls (.float r :: rest))) : W p l e R s m args below meth c H locs cells slots Q (F0 m pc ls st0) := by
  intro T hT X
  rcases hr T hT X with ⟨v, st₀, t, T', L, h0, X', hL, e1, e2, ⟨⟨r, u, hv, hp, hb⟩, hF⟩, st⟩ | ⟨q, st₀, t, T', L, E, ce, h0, X', hL, e1, e2, ⟨u, hp, hb, hF⟩, hce, hcv, hcl, st⟩
  · cases hv
    obtain ⟨k1, k2, k3⟩ := vx_keep h0 e1 hS hA hf hL hF
    obtain ⟨t2, a1, b1⟩ := kk r u t T'.heap (locs ++ L) e1.symm (by rw [← e2]; exact X'.warmed.alike) hp hb k1 k2 k3 T' rfl X'
    exact ⟨t2, st t2 a1, b1⟩
  · obtain ⟨k1, k2, k3⟩ := vx_keep h0 e1 hS hAX hf hL hF
    obtain ⟨t2, a1, b1⟩ := kx E ce q u t T'.heap (locs ++ L) e1.symm (by rw [← e2]; exact X'.warmed.alike) hp hb k1 k2 k3 (by rw [e1]; exact hce) hcv hcl T' rfl X'
    exact ⟨t2, st.trans a1, b1⟩
theorem vx_calld {S SX : Type} {post : UInt64 → S → Prop} {px : SX → Prop} {B : S → State → Prop} {BX : String → SX → State → Prop} {AX : Nat → Prop} (hr : vx_Run p l e R s m args below meth c H locs cells slots mc ms (F0 m pc ls st0) rest (va_Qd post B A1 a) (vx_X px BX AX) free) (hS : va_S A0 H0 H locs) (hA : ∀ q, q < H.size → A1 q → A0 q) (hf : ∀ q, free q → A0 q) (hAX : ∀ q, q < H.size → AX q → A0 q)
    (kx : ∀ (E : String) (ce : Cell) (q9 : Addr) (u : SX) (t : State) (H1 : Heap) (locs1 : List Loc), t.heap = H1 → s.vm.Alike t.vm → px u → BX E u t → H.size ≤ H1.size → (∀ q : Nat, q < H.size → ¬ AX q → H1[q]? = H[q]?) → va_S A0 H0 H1 locs1 → H1[q9]? = some ce → ce.vm = .none → s.vm.findClass E = some ce.cls → vx_W p l e R s m args below meth c H1 locs1 (cells + mc) (slots + ms) Q (F0 m pc ls rest) q9)
    (kk : ∀ (r : UInt64) (u : S) (t : State) (H1 : Heap) (locs1 : List Loc), t.heap = H1 → s.vm.Alike t.vm → post r u → B u t → H.size ≤ H1.size → (∀ q : Nat, q < H.size → ¬ A1 q → H1[q]? = H[q]?) → va_S A0 H0 H1 locs1 → W p l e R s m args below meth c H1 locs1 (cells + mc) (slots + ms) Q (F0 m (pc + 3) ls (.double r :: rest))) : W p l e R s m args below meth c H locs cells slots Q (F0 m pc ls st0) := by
  intro T hT X
  rcases hr T hT X with ⟨v, st₀, t, T', L, h0, X', hL, e1, e2, ⟨⟨r, u, hv, hp, hb⟩, hF⟩, st⟩ | ⟨q, st₀, t, T', L, E, ce, h0, X', hL, e1, e2, ⟨u, hp, hb, hF⟩, hce, hcv, hcl, st⟩
  · cases hv
    obtain ⟨k1, k2, k3⟩ := vx_keep h0 e1 hS hA hf hL hF
    obtain ⟨t2, a1, b1⟩ := kk r u t T'.heap (locs ++ L) e1.symm (by rw [← e2]; exact X'.warmed.alike) hp hb k1 k2 k3 T' rfl X'
    exact ⟨t2, st t2 a1, b1⟩
  · obtain ⟨k1, k2, k3⟩ := vx_keep h0 e1 hS hAX hf hL hF
    obtain ⟨t2, a1, b1⟩ := kx E ce q u t T'.heap (locs ++ L) e1.symm (by rw [← e2]; exact X'.warmed.alike) hp hb k1 k2 k3 (by rw [e1]; exact hce) hcv hcl T' rfl X'
    exact ⟨t2, st.trans a1, b1⟩
theorem vx_callv {S SX : Type} {post : S → Prop} {px : SX → Prop} {B : S → State → Prop} {BX : String → SX → State → Prop} {AX : Nat → Prop} (hr : vx_Run p l e R s m args below meth c H locs cells slots mc ms (F0 m pc ls st0) rest (va_Qv post B A1 a) (vx_X px BX AX) free) (hS : va_S A0 H0 H locs) (hA : ∀ q, q < H.size → A1 q → A0 q) (hf : ∀ q, free q → A0 q) (hAX : ∀ q, q < H.size → AX q → A0 q)
    (kx : ∀ (E : String) (ce : Cell) (q9 : Addr) (u : SX) (t : State) (H1 : Heap) (locs1 : List Loc), t.heap = H1 → s.vm.Alike t.vm → px u → BX E u t → H.size ≤ H1.size → (∀ q : Nat, q < H.size → ¬ AX q → H1[q]? = H[q]?) → va_S A0 H0 H1 locs1 → H1[q9]? = some ce → ce.vm = .none → s.vm.findClass E = some ce.cls → vx_W p l e R s m args below meth c H1 locs1 (cells + mc) (slots + ms) Q (F0 m pc ls rest) q9)
    (kk : ∀ (u : S) (t : State) (H1 : Heap) (locs1 : List Loc), t.heap = H1 → s.vm.Alike t.vm → post u → B u t → H.size ≤ H1.size → (∀ q : Nat, q < H.size → ¬ A1 q → H1[q]? = H[q]?) → va_S A0 H0 H1 locs1 → W p l e R s m args below meth c H1 locs1 (cells + mc) (slots + ms) Q (F0 m (pc + 3) ls (rest))) : W p l e R s m args below meth c H locs cells slots Q (F0 m pc ls st0) := by
  intro T hT X
  rcases hr T hT X with ⟨v, st₀, t, T', L, h0, X', hL, e1, e2, ⟨⟨u, hv, hp, hb⟩, hF⟩, st⟩ | ⟨q, st₀, t, T', L, E, ce, h0, X', hL, e1, e2, ⟨u, hp, hb, hF⟩, hce, hcv, hcl, st⟩
  · cases hv
    obtain ⟨k1, k2, k3⟩ := vx_keep h0 e1 hS hA hf hL hF
    obtain ⟨t2, a1, b1⟩ := kk u t T'.heap (locs ++ L) e1.symm (by rw [← e2]; exact X'.warmed.alike) hp hb k1 k2 k3 T' rfl X'
    exact ⟨t2, st t2 a1, b1⟩
  · obtain ⟨k1, k2, k3⟩ := vx_keep h0 e1 hS hAX hf hL hF
    obtain ⟨t2, a1, b1⟩ := kx E ce q u t T'.heap (locs ++ L) e1.symm (by rw [← e2]; exact X'.warmed.alike) hp hb k1 k2 k3 (by rw [e1]; exact hce) hcv hcl T' rfl X'
    exact ⟨t2, st.trans a1, b1⟩
/-- caught by the row x of this method's table; the rows ahead don't take it -/
theorem vx_catch {own name : String} {E : String} {ce : Cell} {q : Addr} (hown : s.vm.findClass own = some m.cls) (pre : List ExceptionTableEntry) (x : ExceptionTableEntry) (suf : List ExceptionTableEntry) (hsplit : c.exceptionTable.toList = pre ++ x :: suf)
    (hpass : ∀ z ∈ pre, covers z pc = false ∨ (z.catchType ≠ 0 ∧ ∃ nm : String, (Cond.classLink own z.catchType nm).before args s = true ∧ va_Nc E nm s)) (hx : covers x pc = true) (h0 : x.catchType ≠ 0)
    (hlink : (Cond.classLink own x.catchType name).before args s = true) (hcast : (Cond.castable E name).before args s = true) (hcell : H[q]? = some ce) (hv : ce.vm = .none) (hcl : s.vm.findClass E = some ce.cls)
    (kk : W p l e R s m args below meth c H locs cells slots Q (F0 m x.handlerPc ls [.ref q])) : vx_W p l e R s m args below meth c H locs cells slots Q (F0 m pc ls rest) q := by
  intro T hT X
  have hpl : e.platform.magicAccessors = ({} : Platform).magicAccessors := by rw [X.admits.platform]
  obtain ⟨c3, c4, hc3, hc4, hasg⟩ := Cond.castable_spec hcast
  cases Option.some.inj (hc3.symm.trans hcl)
  obtain ⟨c5, hc5, hcl5⟩ := Cond.classLink_spec hown hlink e.platform hpl
  cases Option.some.inj (hc4.symm.trans hc5)
  obtain ⟨vm', X', st⟩ := X.thenCaughtThrough q (g := F0 m pc ls rest) rfl (Steps.refl _) (by rw [hT]; exact hcell) (by rw [hv]; rfl) (by obtain ⟨k9, h9, -⟩ := Vm.findClass_spec hcl; exact ⟨k9, h9⟩) pre x suf hsplit
    (fun z hz => by
      rcases hpass z hz with h | ⟨hz0, nm, hl1, hn1⟩
      · exact Or.inl h
      · obtain ⟨c6, hc6, hcl6⟩ := Cond.classLink_spec hown hl1 e.platform hpl
        obtain ⟨a8, b8, h1, h2, h3⟩ := hn1
        cases Option.some.inj (h1.symm.trans hcl)
        cases Option.some.inj (h2.symm.trans hc6)
        exact Or.inr ⟨hz0, _, hcl6, h3⟩) hx (Or.inr ⟨h0, c4, hcl5, hasg⟩)
  obtain ⟨t, a1, b1⟩ := kk (T.setVm vm') hT X'
  exact ⟨t, st.trans a1, b1⟩
end Rows
section Ends
variable {p : Program} {l : Launch} {e : Env} {R : Room} {s : State} {m : MethodId} {args : Array Value} {below : List Frame} {meth : Method} {c : Code} {H : Heap} {locs : List Loc} {cells slots : Nat} {Q : State → Prop}
variable {mc ms : Nat} {free : Addr → Prop} {A0 A1 : Nat → Prop} {H0 : Heap} {a : Array Value} {ls : Array Slot} {st0 rest : List Value}
variable {Qc : Array Value → State → Outcome → State → Prop} {XC : String → State → State → Prop}
/-- what a body that may throw owes at its end -/
def vx_MQ (below : List Frame) (Qc : Array Value → State → Outcome → State → Prop) (XC : String → State → State → Prop) (a : Array Value) (s : State) (mc ms : Nat) (free : Addr → Prop) : State → Prop := fun t =>
  ∃ o, t.status = .running ∧ Ended t below o ∧ vx_Q Qc XC mc ms free a s o t
theorem vx_ret {g : JFrame} {mc ms : Nat} (k : W p l e R s m args below meth c H locs cells slots (MQ below Qc args s mc ms free) g) : W p l e R s m args below meth c H locs cells slots (vx_MQ below Qc XC args s mc ms free) g := by
  intro T hT X
  obtain ⟨t, a1, o, b1, b2, b3, b4⟩ := k T hT X
  exact ⟨t, a1, o, b1, b2, Or.inl ⟨b3, b4⟩⟩
/-- not caught here: it goes on to the caller -/
theorem vx_widen {g : JFrame} {q : Addr} {k n : Nat} (h1 : cells ≤ k) (h2 : slots ≤ n) (kk : vx_W p l e R s m args below meth c H locs k n Q g q) : vx_W p l e R s m args below meth c H locs cells slots Q g q := fun T hT X => kk T hT (stand_widen X h1 h2)
theorem vx_out {pc : Nat} {E : String} {ce : Cell} {q : Addr} {mc ms : Nat} (hout : ∀ x ∈ c.exceptionTable.toList, covers x pc = false) (hlocks : meth.locks = false) (hcell : H[q]? = some ce) (hv : ce.vm = .none) (hcl : s.vm.findClass E = some ce.cls)
    (hx : ∀ t : State, t.heap = H → s.vm.Alike t.vm → XC E s t) (hf : ∀ z ∈ locs, free z.base) (hc : cells ≤ mc) (hs : slots ≤ ms) :
    vx_W p l e R s m args below meth c H locs cells slots (vx_MQ below Qc XC args s mc ms free) (F0 m pc ls rest) q := by
  intro T hT X
  obtain ⟨st1, hrun, hend, hW, hsm⟩ := X.leaveThrown q (g := F0 m pc ls rest) rfl rfl rfl hout hlocks
  have hcell9 : (T.setFrames (.throwing q :: below)).heap[q]? = some ce := by
    show T.heap[q]? = some ce
    rw [hT]; exact hcell
  exact ⟨_, st1, .threw q, hrun, hend, Or.inr ⟨q, rfl, E, ce, locs, hx _ hT hW.alike, hcell9, hv, hcl, hW, hsm.mono hc hs, hf⟩⟩
theorem vx_frame {U : State} {k n : Nat} (h : s.sameButNew ({ U with vm := s.vm } : State) locs k n) : s.heap.size ≤ U.heap.size ∧ ∀ q : Nat, q < s.heap.size → (∀ z ∈ locs, z.base ≠ q) → U.heap[q]? = s.heap[q]? := by
  obtain ⟨-, h2, -, -, -, h6⟩ := h
  refine ⟨h2, fun q hq hz => ?_⟩
  obtain ⟨c9, e1, e2, e3, e4⟩ := h6 q _ (Array.getElem?_eq_getElem hq)
  have hs : c9.slots = (s.heap[q]).slots := Array.ext_getElem? fun i => e4 i fun hm => hz _ hm rfl
  have h9 : c9 = s.heap[q] := by
    rw [hs] at e2
    exact e2
  have e5 : U.heap[q]? = some c9 := e1
  rw [e5, h9, Array.getElem?_eq_getElem hq]
/-- the words of a throw but the four that speak of the heap -/
def vx_no (w : Cond) : Bool := decide (w ≠ .isRef (.static Bundle.tN "UNASSIGNED_STACK" Bundle.steD)) && decide (w ≠ .isRef (.static Bundle.tN "SUPPRESSED_SENTINEL" Bundle.listD)) && decide (w ≠ .laysStatic Bundle.tN "UNASSIGNED_STACK" Bundle.steD) && decide (w ≠ .laysStatic Bundle.tN "SUPPRESSED_SENTINEL" Bundle.listD)
def vx_at0 (own : String) (ic : Nat) (X : String) (names : List String) : List Cond := (Bundle.ownAtoms0 own ic X names).filter vx_no
def vx_atS (own : String) (ic : Nat) (X : String) (names : List String) : List Cond := (Bundle.ownAtoms own ic X names).filter vx_no
/-- a word that the tables alone decide, or a good one -/
def vx_ot (w : Cond) : Bool := w.onTables || goodWord w
theorem vx_ot_at {args a' : Array Value} {s U : State} {w : Cond} (hW : s.WarmedH U.vm) (hvm : s.vm = U.vm) (hg : vx_ot w = true) (h : w.before args s = true) : w.before a' U = true := by
  simp only [vx_ot, Bool.or_eq_true] at hg
  rcases hg with hg | hg
  · exact va_tabs hg hvm h
  · exact word_at hW (good_of_word hg) h
/-- a list's words: the good ones out of the method's own list, the others by premises of their own -/
theorem vx_hat {args : Array Value} {s : State} {L B : List Cond} (h1 : ∀ w ∈ L.filter goodWord, w.before args s = true) (h2 : ∀ w ∈ L.filter (fun w => !goodWord w), w ∈ B) (h3 : ∀ w ∈ B, w.before args s = true) : ∀ w ∈ L, w.before args s = true := by
  intro w hw
  by_cases g : goodWord w = true
  · exact h1 w (List.mem_filter.mpr ⟨hw, g⟩)
  · refine h3 w (h2 w (List.mem_filter.mpr ⟨hw, ?_⟩))
    show (!goodWord w) = true
    cases hgw : goodWord w
    · rfl
    · exact absurd hgw g
theorem vx_c {args : Array Value} {s : State} {w : Cond} {B : List Cond} (h : w.before args s = true) (t : ∀ w ∈ B, w.before args s = true) : ∀ w' ∈ w :: B, w'.before args s = true := fun w' h' => (List.mem_cons.mp h').elim (fun e => by rw [e]; exact h) (t w')
theorem vx_n {args : Array Value} {s : State} : ∀ w ∈ ([] : List Cond), w.before args s = true := fun _ h => nomatch h
theorem vx_own {args : Array Value} {s : State} {L : List Cond} (h1 : ∀ w ∈ L.filter vx_no, w.before args s = true)
    (hU : (Cond.isRef (.static Bundle.tN "UNASSIGNED_STACK" Bundle.steD)).before args s = true) (hN : (Cond.isRef (.static Bundle.tN "SUPPRESSED_SENTINEL" Bundle.listD)).before args s = true)
    (lU : (Cond.laysStatic Bundle.tN "UNASSIGNED_STACK" Bundle.steD).before args s = true) (lN : (Cond.laysStatic Bundle.tN "SUPPRESSED_SENTINEL" Bundle.listD).before args s = true) : ∀ w ∈ L, w.before args s = true := by
  intro w hw
  by_cases e1 : w = .isRef (.static Bundle.tN "UNASSIGNED_STACK" Bundle.steD)
  · rw [e1]; exact hU
  · by_cases e2 : w = .isRef (.static Bundle.tN "SUPPRESSED_SENTINEL" Bundle.listD)
    · rw [e2]; exact hN
    · by_cases e3 : w = .laysStatic Bundle.tN "UNASSIGNED_STACK" Bundle.steD
      · rw [e3]; exact lU
      · by_cases e4 : w = .laysStatic Bundle.tN "SUPPRESSED_SENTINEL" Bundle.listD
        · rw [e4]; exact lN
        · exact h1 w (List.mem_filter.mpr ⟨hw, by unfold vx_no; rw [decide_eq_true e1, decide_eq_true e2, decide_eq_true e3, decide_eq_true e4]; rfl⟩)
/-- where a static field lies, its class's statics cell in H -/
def vx_L (C n d : String) (A : Nat → Prop) (U : State) (H : Heap) : Prop := ∃ (c : ClassId) (k : Class) (i : Nat) (f : Field) (a : Nat) (cell : Cell), U.vm.findClass C = some c ∧ U.fieldFound? C n d = some (c, k, i, f) ∧ f.isStatic = true ∧ k.statics = some a ∧ H[a]? = some cell ∧ cell.vm.isStatics = true ∧ cell.cls = c ∧ f.slot < cell.slots.size ∧ k.staticTypes[f.slot]? = some f.type ∧ ¬ A a
theorem vx_L.moved {C n d : String} {A : Nat → Prop} {u U : State} {H : Heap} (hvm : u.vm.Alike U.vm) (h : vx_L C n d A u H) : vx_L C n d A U H := by
  obtain ⟨c, k, i, f, a, cell, h1, h2, h3, h4, h5, h6, h7, h8, h9, h10⟩ := h
  obtain ⟨k', hi', he⟩ := State.fieldFound?_setVm hvm h2
  exact ⟨c, k', i, f, a, cell, by rw [hvm.findClass]; exact h1, hi', h3, by rw [he]; exact h4, h5, h6, h7, h8, by rw [he]; exact h9, h10⟩
theorem vx_L.kept {C n d : String} {A : Nat → Prop} {U : State} {H H1 : Heap} (h : vx_L C n d A U H) (hq : ∀ a : Nat, a < H.size → ¬ A a → H1[a]? = H[a]?) : vx_L C n d A U H1 := by
  obtain ⟨c, k, i, f, a, cell, h1, h2, h3, h4, h5, h6, h7, h8, h9, h10⟩ := h
  exact ⟨c, k, i, f, a, cell, h1, h2, h3, h4, by rw [hq a (Array.getElem?_eq_some_iff.mp h5).1 h10]; exact h5, h6, h7, h8, h9, h10⟩
theorem vx_L.narrow {C n d : String} {A B : Nat → Prop} {U : State} {H : Heap} (h : vx_L C n d A U H) (hAB : ∀ q, B q → A q) : vx_L C n d B U H := by
  obtain ⟨c, k, i, f, a, cell, h1, h2, h3, h4, h5, h6, h7, h8, h9, h10⟩ := h
  exact ⟨c, k, i, f, a, cell, h1, h2, h3, h4, h5, h6, h7, h8, h9, fun z => h10 (hAB _ z)⟩
theorem vx_L.word {C n d : String} {A : Nat → Prop} {s : State} {args : Array Value} (h : vx_L C n d A s s.heap) : (Cond.laysStatic C n d).before args s = true := by
  obtain ⟨c, k, i, f, a, cell, h1, h2, h3, h4, h5, h6, h7, h8, h9, -⟩ := h
  show (Cond.laysStatic C n d).holds args s none s [] = true
  exact Cond.laysStatic_of h1 h2 h3 h4 h5 h6 h7 h8 h9
/-- .. and what it holds: null or some reference -/
def vx_Zq (C n d : String) (A : Nat → Prop) (U : State) (H : Heap) : Prop := va_Zq C n d A U H ∧ vx_L C n d A U H
theorem vx_Zq.moved {C n d : String} {A : Nat → Prop} {u U : State} {H : Heap} (hvm : u.vm.Alike U.vm) (h : vx_Zq C n d A u H) : vx_Zq C n d A U H := ⟨va_Zq.moved hvm h.1, vx_L.moved hvm h.2⟩
theorem vx_Zq.kept {C n d : String} {A : Nat → Prop} {U : State} {H H1 : Heap} (h : vx_Zq C n d A U H) (hq : ∀ a : Nat, a < H.size → ¬ A a → H1[a]? = H[a]?) : vx_Zq C n d A U H1 := ⟨va_Zq.kept h.1 hq, vx_L.kept h.2 hq⟩
theorem vx_Zq.narrow {C n d : String} {A B : Nat → Prop} {U : State} {H : Heap} (h : vx_Zq C n d A U H) (hAB : ∀ q, B q → A q) : vx_Zq C n d B U H := ⟨va_Zq.narrow h.1 hAB, vx_L.narrow h.2 hAB⟩
theorem vx_Zqof {args : Array Value} {s : State} {C n d : String} {A : Nat → Prop} (hl : (Cond.laysStatic C n d).before args s = true) (hini : (Cond.initialized C).before args s = true) (h : (Cond.isRef (.static C n d)).before args s = true) (hA : ∀ a : Nat, a < s.heap.size → ¬ A a) : vx_Zq C n d A s s.heap := by
  refine ⟨va_Zqof hl hini h hA, ?_⟩
  obtain ⟨c, k, i, f, a, cell, h1, h2, h3, h4, h5, h6, h7, h8, h9⟩ := Cond.laysStatic_spec hl
  exact ⟨c, k, i, f, a, cell, h1, h2, h3, h4, h5, h6, h7, h8, h9, hA a (Array.getElem?_eq_some_iff.mp h5).1⟩
theorem vx_isRef {C n d : String} {v : Value} {A : Nat → Prop} {s : State} {args : Array Value} (h : va_Z C n d v A s s.heap) (hv : v.isRef = true) : (Cond.isRef (.static C n d)).before args s = true := by
  obtain ⟨cf, kf, fi, f, a, cell, h1, h2, h3, h4, h5, h6, h7, -⟩ := h
  have he : (Term.static C n d).eval args s none [] s = some v := by
    simp [Term.eval, State.fieldNamed?, h1, h2, h4, h5, h6, h7]
  simp only [Cond.before, Cond.holds, Cond.value, he]
  cases v <;> simp_all [Value.isRef]
theorem vx_isRefq {C n d : String} {A : Nat → Prop} {s : State} {args : Array Value} (h : va_Zq C n d A s s.heap) : (Cond.isRef (.static C n d)).before args s = true := by
  rcases h with h | ⟨t, h⟩
  · exact vx_isRef h rfl
  · exact vx_isRef h rfl
/-- the same frame, seen from here: as if the method were called anew in this heap -/
theorem vx_rebase {T : State} (X : Stand p l e R s m args below meth c T locs cells slots) {R' : Room} (hf : R'.frames ≤ R.frames) (hl : R'.locals ≤ R.locals) (hc : cells + R'.cells ≤ R.cells) (hs : slots + R'.slots ≤ R.slots) :
    Stand p l e R' ((T.setVm s.vm).setFrames (.invoking m args :: below)) m args below meth c T [] 0 0 := by
  have htop : (T.setVm s.vm).topJava?.isSome := X.here.top
  have hF : ((T.setVm s.vm).setFrames (.invoking m args :: below)).frames = .invoking m args :: below := State.frames_setFrames _ (State.cur_lt_of_top htop)
  obtain ⟨g₀, hg0⟩ := Option.isSome_iff_exists.mp htop
  obtain ⟨r, hr⟩ := State.topJava?_eq_some.mp hg0
  have hl9 : e.platform.stackLimits (T.setVm s.vm).me = e.platform.stackLimits s.me := X.limits
  have hb9 : (T.setVm s.vm).me.stackBytes = s.me.stackBytes := X.bytes
  refine ⟨X.admits, X.cas, X.clock, hF, ?_, X.hears, X.method, X.code, X.here, X.tail, X.warmed, ?_, ?_, ?_⟩
  · have h := X.room
    have hU : ((T.setVm s.vm).setFrames (.invoking m args :: below)).localsInUse = s.localsInUse := by
      rw [State.localsInUse_invoking hF (meth := meth) (c := c) X.method X.code, State.localsInUse_invoking X.frames X.method X.code]
    simp only [State.hasRoom, Bool.and_eq_true, decide_eq_true_eq] at h ⊢
    obtain ⟨⟨⟨⟨h1, h2, h3, h4, h5, h6⟩, h7⟩, h8⟩, h9⟩ := h
    rw [X.frames, List.length_cons] at h2 h3
    have q1 := X.heapSize
    have q2 := X.used
    simp only [hF, hU, List.length_cons, State.stackLimits_setFrames, State.stackBytes_setFrames, hl9, hb9]
    refine ⟨⟨⟨⟨by omega, by omega, by omega, by omega, by omega, h6⟩, ?_⟩, ?_⟩, X.book⟩
    · show T.heap.size + R'.cells ≤ e.platform.maxCells
      omega
    · show T.slotsUsed + R'.slots ≤ e.platform.maxSlots
      omega
  · rw [State.stackLimits_setFrames]; rfl
  · rw [State.stackBytes_setFrames]; rfl
  · refine ⟨?_, Nat.le_refl _, Nat.le_refl _, ?_, ?_, fun a c9 h9 => ⟨c9, h9, rfl, rfl, fun _ _ => rfl⟩⟩
    · obtain ⟨t, ht, -⟩ := State.frames_cons hr
      show T.setVm s.vm = { ((T.setVm s.vm).setFrames (.invoking m args :: below)).setFrames (T.setVm s.vm).frames with heap := T.heap, slotsUsed := T.slotsUsed }
      rw [State.setFrames_setFrames, State.setFrames_self ht]
      rfl
    · show T.slotsUsed = T.slotsUsed + ((T.heap.toList.drop T.heap.size).map (·.slots.size)).sum
      rw [List.drop_eq_nil_of_le (Nat.le_of_eq Array.length_toList)]
      rfl
    · show ((T.heap.toList.drop T.heap.size).map (·.slots.size)).sum ≤ 0
      rw [List.drop_eq_nil_of_le (Nat.le_of_eq Array.length_toList)]
      exact Nat.le_refl _
/-- 'throw new E()': new; dup; invokespecial; athrow -/
theorem vx_throw0 {cc : ByteArray} {pc : Nat} (hexec : p.tables.exec = Jvm.exec) (hb : c.code = cc) (hl : l.stackTraces = false) {own cls : String} {names : List String} {ik ic mc ms : Nat} {A : Nat → Prop}
    (hown : s.vm.findClass own = some m.cls) (hcls : Bundle.fit cls = true) (hnames : ∀ n ∈ names, Bundle.fit n = true)
    (hk : (Cond.classLink own ik cls).before args s = true) (hini : (Cond.initialized cls).before args s = true) (hat : ∀ w ∈ vx_at0 own ic cls names, w.before args s = true)
    (hgood : ∀ w ∈ Cond.classLink own ik cls :: Cond.initialized cls :: vx_at0 own ic cls names, vx_ot w = true)
    (hU : vx_Zq Bundle.tN "UNASSIGNED_STACK" Bundle.steD A s s.heap) (hN : vx_Zq Bundle.tN "SUPPRESSED_SENTINEL" Bundle.listD A s s.heap) (hS : va_S A s.heap H locs) (hsize : ls.size = c.maxLocals)
    (d0 : decode cc pc = .ok (.new ik, 3)) (d3 : decode cc (pc + 3) = .ok (.dup, 1)) (d4 : decode cc (pc + 4) = .ok (.invokespecial ic, 3)) (d7 : decode cc (pc + 7) = .ok (.athrow, 1))
    (hout : ∀ x ∈ c.exceptionTable.toList, covers x (pc + 7) = false)
    (hRframes : names.length + 3 < R.frames) (hRlocals : (rest.map fun v => v.category).sum + (13 * (names.length + 1) + 42) ≤ R.locals) (hRcells : cells + 1 ≤ R.cells) (hRslots : slots + 6 ≤ R.slots) (hlocks : meth.locks = false)
    (hx : ∀ t : State, s.vm.Alike t.vm → H.size ≤ t.heap.size → (∀ q : Nat, q < H.size → t.heap[q]? = H[q]?) → XC cls s t)
    (hf : ∀ z ∈ locs, free z.base) (hc : cells + 1 ≤ mc) (hs : slots + 6 ≤ ms) :
    W p l e R s m args below meth c H locs cells slots (vx_MQ below Qc XC args s mc ms free) (F0 m pc ls rest) := by
  intro T hT X
  have htr : e.platform.stackTraces = false := (show e.platform.stackTraces = l.stackTraces by rw [X.admits.platform]).trans hl
  have Y := vx_rebase X (R' := { frames := R.frames, locals := R.locals, cells := 1, slots := 6 }) (Nat.le_refl _) (Nat.le_refl _) hRcells hRslots
  obtain ⟨s', hA⟩ : ∃ z, z = (T.setVm s.vm).setFrames (.invoking m args :: below) := ⟨_, rfl⟩
  rw [← hA] at Y
  have hvm : s'.vm = s.vm := by rw [hA]; rfl
  have hhp : s'.heap = H := by rw [hA]; exact hT
  have hW0 : s.WarmedH s'.vm := by rw [hvm]; exact State.WarmedH.refl s
  have hat' : ∀ w ∈ vx_at0 own ic cls names, w.before args s' = true := fun w hw => vx_ot_at hW0 hvm.symm (hgood w (List.mem_cons_of_mem _ (List.mem_cons_of_mem _ hw))) (hat w hw)
  have hk' : (Cond.classLink own ik cls).before args s' = true := vx_ot_at hW0 hvm.symm (hgood _ List.mem_cons_self) hk
  have hini' : (Cond.initialized cls).before args s' = true := vx_ot_at hW0 hvm.symm (hgood _ (List.mem_cons_of_mem _ List.mem_cons_self)) hini
  have hU' : vx_Zq Bundle.tN "UNASSIGNED_STACK" Bundle.steD A s' s'.heap := by rw [hhp]; exact vx_Zq.moved hW0.alike (hU.kept hS.2.1)
  have hN' : vx_Zq Bundle.tN "SUPPRESSED_SENTINEL" Bundle.listD A s' s'.heap := by rw [hhp]; exact vx_Zq.moved hW0.alike (hN.kept hS.2.1)
  have h : ∀ w ∈ Bundle.ownAtoms0 own ic cls names, w.before args s' = true := vx_own hat' (vx_isRefq hU'.1) (vx_isRefq hN'.1) hU'.2.word hN'.2.word
  have hown' : s'.vm.findClass own = some m.cls := by rw [hvm]; exact hown
  have hins : (Cond.instantiable cls 6).before args s' = true := h _ (by simp [Bundle.ownAtoms0])
  obtain ⟨vm₁, cX, kX, hfX, hkX, -, -, X₁, st1⟩ := Y.newCold hexec (own := own) (C := cls) (index := ik) (n := 6) hown' hk' hins hini'
    (g := F0 m pc ls rest) rfl (by rw [hb]; exact d0) (Nat.le_refl _) (Nat.le_refl _)
  generalize hT1 : (T.setVm vm₁).pushCell { cls := cX, slots := kX.instanceTypes.map defaultValue, vm := .none } = T1 at X₁ st1
  have hcat : (Value.ref T.heap.size).category = 1 := rfl
  have hcellA : T1.heap[T.heap.size]? = some (freshCell cX kX) := by rw [← hT1]; exact State.heap_pushCell_size _ _
  have d3' : decode c.code (pc + 3) = .ok (.dup, 1) := by rw [hb]; exact d3
  obtain ⟨U, hsteps, hrun, hend, hW, hsame, ce, hce, hO⟩ := X₁.ctorThrow0 hexec htr (own := own) (cls := cls) (names := names) (ic := ic) hown' hcls hnames h (fun x hx => nomatch hx) hfX hkX hcellA (by rw [hhp, hT]; exact Nat.le_refl _)
    (g := { method := m, pc := pc + 4, locals := ls, stack := .ref T.heap.size :: .ref T.heap.size :: rest, locked := none }) rfl hsize rfl rfl (rest := rest) rfl
    (by rw [hb]; exact d4) (by rw [hb]; exact d7) hout hRframes (by simp only [List.map_cons, List.sum_cons, hcat]; omega) hlocks
  obtain ⟨f1, f2⟩ := vx_frame hsame
  rw [hhp] at f1 f2
  have hWs : s.WarmedH U.vm := State.WarmedH.trans hW0 hW
  have hcl : s.vm.findClass cls = some ce.cls := by
    have h9 := hO.cls
    rw [hvm] at h9
    exact h9
  have hall : s.sameButNew ({ U with vm := s.vm } : State) locs mc ms := by
    subst hA
    obtain ⟨e1, e2⟩ := hsame
    rw [State.setFrames_setFrames] at e1
    have h2 : (T.setVm s.vm).sameButNew ({ U with vm := s.vm } : State) [] (0 + 1) (0 + 6) := ⟨e1, e2⟩
    have h3 := X.same.trans h2
    rw [List.append_nil] at h3
    exact h3.mono hc hs
  refine ⟨U, ?_, .threw T.heap.size, hrun, hend, Or.inr ⟨T.heap.size, rfl, cls, ce, locs, hx U hWs.alike f1 (fun q hq => f2 q hq (fun z hz => nomatch hz)), hce, hO.vm, hcl, hWs, hall, hf⟩⟩
  refine st1 _ ?_
  show Steps p.tables e below (T1.setTop { method := m, pc := pc + 3, locals := ls, stack := .ref T.heap.size :: rest, locked := none }) _
  jvm_step X₁.here [X₁.here.top, hexec, d3', Value.category]
  exact hsteps
/-- 'throw new E("text")': new; dup; ldc; invokespecial; athrow -/
theorem vx_throwS {cc : ByteArray} {pc : Nat} (hexec : p.tables.exec = Jvm.exec) (hb : c.code = cc) (hl : l.stackTraces = false) {own cls text : String} {names : List String} {ik is ic mc ms sa : Nat} {A : Nat → Prop}
    (hown : s.vm.findClass own = some m.cls) (hcls : Bundle.fit cls = true) (hnames : ∀ n ∈ names, Bundle.fit n = true)
    (hk : (Cond.classLink own ik cls).before args s = true) (hini : (Cond.initialized cls).before args s = true) (hstr : vk_R own is text sa s) (hat : ∀ w ∈ vx_atS own ic cls names, w.before args s = true)
    (hgood : ∀ w ∈ Cond.classLink own ik cls :: Cond.initialized cls :: vx_atS own ic cls names, vx_ot w = true)
    (hU : vx_Zq Bundle.tN "UNASSIGNED_STACK" Bundle.steD A s s.heap) (hN : vx_Zq Bundle.tN "SUPPRESSED_SENTINEL" Bundle.listD A s s.heap) (hS : va_S A s.heap H locs) (hsize : ls.size = c.maxLocals)
    (d0 : decode cc pc = .ok (.new ik, 3)) (d3 : decode cc (pc + 3) = .ok (.dup, 1)) (d4 : decode cc (pc + 4) = .ok (.ldc is, 2)) (d6 : decode cc (pc + 6) = .ok (.invokespecial ic, 3)) (d9 : decode cc (pc + 9) = .ok (.athrow, 1))
    (hout : ∀ x ∈ c.exceptionTable.toList, covers x (pc + 9) = false)
    (hRframes : names.length + 3 < R.frames) (hRlocals : (rest.map fun v => v.category).sum + (13 * (names.length + 1) + 43) ≤ R.locals) (hRcells : cells + 1 ≤ R.cells) (hRslots : slots + 6 ≤ R.slots) (hlocks : meth.locks = false)
    (hx : ∀ t : State, s.vm.Alike t.vm → H.size ≤ t.heap.size → (∀ q : Nat, q < H.size → t.heap[q]? = H[q]?) → XC cls s t)
    (hf : ∀ z ∈ locs, free z.base) (hc : cells + 1 ≤ mc) (hs : slots + 6 ≤ ms) :
    W p l e R s m args below meth c H locs cells slots (vx_MQ below Qc XC args s mc ms free) (F0 m pc ls rest) := by
  intro T hT X
  have htr : e.platform.stackTraces = false := (show e.platform.stackTraces = l.stackTraces by rw [X.admits.platform]).trans hl
  have Y := vx_rebase X (R' := { frames := R.frames, locals := R.locals, cells := 1, slots := 6 }) (Nat.le_refl _) (Nat.le_refl _) hRcells hRslots
  obtain ⟨s', hA⟩ : ∃ z, z = (T.setVm s.vm).setFrames (.invoking m args :: below) := ⟨_, rfl⟩
  rw [← hA] at Y
  have hvm : s'.vm = s.vm := by rw [hA]; rfl
  have hhp : s'.heap = H := by rw [hA]; exact hT
  have hW0 : s.WarmedH s'.vm := by rw [hvm]; exact State.WarmedH.refl s
  have hat' : ∀ w ∈ vx_atS own ic cls names, w.before args s' = true := fun w hw => vx_ot_at hW0 hvm.symm (hgood w (List.mem_cons_of_mem _ (List.mem_cons_of_mem _ hw))) (hat w hw)
  have hk' : (Cond.classLink own ik cls).before args s' = true := vx_ot_at hW0 hvm.symm (hgood _ List.mem_cons_self) hk
  have hini' : (Cond.initialized cls).before args s' = true := vx_ot_at hW0 hvm.symm (hgood _ (List.mem_cons_of_mem _ List.mem_cons_self)) hini
  have hU' : vx_Zq Bundle.tN "UNASSIGNED_STACK" Bundle.steD A s' s'.heap := by rw [hhp]; exact vx_Zq.moved hW0.alike (hU.kept hS.2.1)
  have hN' : vx_Zq Bundle.tN "SUPPRESSED_SENTINEL" Bundle.listD A s' s'.heap := by rw [hhp]; exact vx_Zq.moved hW0.alike (hN.kept hS.2.1)
  have h : ∀ w ∈ Bundle.ownAtoms own ic cls names, w.before args s' = true := vx_own hat' (vx_isRefq hU'.1) (vx_isRefq hN'.1) hU'.2.word hN'.2.word
  have hown' : s'.vm.findClass own = some m.cls := by rw [hvm]; exact hown
  have hins : (Cond.instantiable cls 6).before args s' = true := h _ (by simp [Bundle.ownAtoms])
  obtain ⟨vm₁, cX, kX, hfX, hkX, -, -, X₁, st1⟩ := Y.newCold hexec (own := own) (C := cls) (index := ik) (n := 6) hown' hk' hins hini'
    (g := F0 m pc ls rest) rfl (by rw [hb]; exact d0) (Nat.le_refl _) (Nat.le_refl _)
  generalize hT1 : (T.setVm vm₁).pushCell { cls := cX, slots := kX.instanceTypes.map defaultValue, vm := .none } = T1 at X₁ st1
  have hcat : (Value.ref T.heap.size).category = 1 := rfl
  have hcellA : T1.heap[T.heap.size]? = some (freshCell cX kX) := by rw [← hT1]; exact State.heap_pushCell_size _ _
  have d3' : decode c.code (pc + 3) = .ok (.dup, 1) := by rw [hb]; exact d3
  have d4' : decode c.code (pc + 4) = .ok (.ldc is, 2) := by rw [hb]; exact d4
  have hstr' : vk_R own is text sa s' := vk_R.warm hW0 hstr
  obtain ⟨U, hsteps, hrun, hend, hW, hsame, ce, hce, hO⟩ := X₁.ctorThrowS hexec htr (own := own) (cls := cls) (names := names) (ic := ic) hown' hcls hnames h (fun x hx => nomatch hx) hfX hkX hcellA (by rw [hhp, hT]; exact Nat.le_refl _) (msg := .ref sa) rfl
    (g := { method := m, pc := pc + 6, locals := ls, stack := .ref sa :: .ref T.heap.size :: .ref T.heap.size :: rest, locked := none }) rfl hsize rfl rfl (rest := rest) rfl
    (by rw [hb]; exact d6) (by rw [hb]; exact d9) hout hRframes (by simp only [List.map_cons, List.sum_cons, hcat]; omega) hlocks
  obtain ⟨f1, f2⟩ := vx_frame hsame
  rw [hhp] at f1 f2
  have hWs : s.WarmedH U.vm := State.WarmedH.trans hW0 hW
  have hcl : s.vm.findClass cls = some ce.cls := by
    have h9 := hO.cls
    rw [hvm] at h9
    exact h9
  have hall : s.sameButNew ({ U with vm := s.vm } : State) locs mc ms := by
    subst hA
    obtain ⟨e1, e2⟩ := hsame
    rw [State.setFrames_setFrames] at e1
    have h2 : (T.setVm s.vm).sameButNew ({ U with vm := s.vm } : State) [] (0 + 1) (0 + 6) := ⟨e1, e2⟩
    have h3 := X.same.trans h2
    rw [List.append_nil] at h3
    exact h3.mono hc hs
  refine ⟨U, ?_, .threw T.heap.size, hrun, hend, Or.inr ⟨T.heap.size, rfl, cls, ce, locs, hx U hWs.alike f1 (fun q hq => f2 q hq (fun z hz => nomatch hz)), hce, hO.vm, hcl, hWs, hall, hf⟩⟩
  refine st1 _ ?_
  show Steps p.tables e below (T1.setTop { method := m, pc := pc + 3, locals := ls, stack := .ref T.heap.size :: rest, locked := none }) _
  jvm_step X₁.here [X₁.here.top, hexec, d3', Value.category]
  exact X₁.ldcString hexec (own := own) (text := text) (index := is) (a := sa) hown' hstr'.1 hstr'.2
    (g := { method := m, pc := pc + 4, locals := ls, stack := .ref T.heap.size :: .ref T.heap.size :: rest, locked := none }) rfl d4' _ hsteps
/-- 'throw new E("text")', the text by a wide index -/
theorem vx_throwSW {cc : ByteArray} {pc : Nat} (hexec : p.tables.exec = Jvm.exec) (hb : c.code = cc) (hl : l.stackTraces = false) {own cls text : String} {names : List String} {ik is ic mc ms sa : Nat} {A : Nat → Prop}
    (hown : s.vm.findClass own = some m.cls) (hcls : Bundle.fit cls = true) (hnames : ∀ n ∈ names, Bundle.fit n = true)
    (hk : (Cond.classLink own ik cls).before args s = true) (hini : (Cond.initialized cls).before args s = true) (hstr : vk_R own is text sa s) (hat : ∀ w ∈ vx_atS own ic cls names, w.before args s = true)
    (hgood : ∀ w ∈ Cond.classLink own ik cls :: Cond.initialized cls :: vx_atS own ic cls names, vx_ot w = true)
    (hU : vx_Zq Bundle.tN "UNASSIGNED_STACK" Bundle.steD A s s.heap) (hN : vx_Zq Bundle.tN "SUPPRESSED_SENTINEL" Bundle.listD A s s.heap) (hS : va_S A s.heap H locs) (hsize : ls.size = c.maxLocals)
    (d0 : decode cc pc = .ok (.new ik, 3)) (d3 : decode cc (pc + 3) = .ok (.dup, 1)) (d4 : decode cc (pc + 4) = .ok (.ldc_w is, 3)) (d7 : decode cc (pc + 7) = .ok (.invokespecial ic, 3)) (d10 : decode cc (pc + 10) = .ok (.athrow, 1))
    (hout : ∀ x ∈ c.exceptionTable.toList, covers x (pc + 10) = false)
    (hRframes : names.length + 3 < R.frames) (hRlocals : (rest.map fun v => v.category).sum + (13 * (names.length + 1) + 43) ≤ R.locals) (hRcells : cells + 1 ≤ R.cells) (hRslots : slots + 6 ≤ R.slots) (hlocks : meth.locks = false)
    (hx : ∀ t : State, s.vm.Alike t.vm → H.size ≤ t.heap.size → (∀ q : Nat, q < H.size → t.heap[q]? = H[q]?) → XC cls s t)
    (hf : ∀ z ∈ locs, free z.base) (hc : cells + 1 ≤ mc) (hs : slots + 6 ≤ ms) :
    W p l e R s m args below meth c H locs cells slots (vx_MQ below Qc XC args s mc ms free) (F0 m pc ls rest) := by
  intro T hT X
  have htr : e.platform.stackTraces = false := (show e.platform.stackTraces = l.stackTraces by rw [X.admits.platform]).trans hl
  have Y := vx_rebase X (R' := { frames := R.frames, locals := R.locals, cells := 1, slots := 6 }) (Nat.le_refl _) (Nat.le_refl _) hRcells hRslots
  obtain ⟨s', hA⟩ : ∃ z, z = (T.setVm s.vm).setFrames (.invoking m args :: below) := ⟨_, rfl⟩
  rw [← hA] at Y
  have hvm : s'.vm = s.vm := by rw [hA]; rfl
  have hhp : s'.heap = H := by rw [hA]; exact hT
  have hW0 : s.WarmedH s'.vm := by rw [hvm]; exact State.WarmedH.refl s
  have hat' : ∀ w ∈ vx_atS own ic cls names, w.before args s' = true := fun w hw => vx_ot_at hW0 hvm.symm (hgood w (List.mem_cons_of_mem _ (List.mem_cons_of_mem _ hw))) (hat w hw)
  have hk' : (Cond.classLink own ik cls).before args s' = true := vx_ot_at hW0 hvm.symm (hgood _ List.mem_cons_self) hk
  have hini' : (Cond.initialized cls).before args s' = true := vx_ot_at hW0 hvm.symm (hgood _ (List.mem_cons_of_mem _ List.mem_cons_self)) hini
  have hU' : vx_Zq Bundle.tN "UNASSIGNED_STACK" Bundle.steD A s' s'.heap := by rw [hhp]; exact vx_Zq.moved hW0.alike (hU.kept hS.2.1)
  have hN' : vx_Zq Bundle.tN "SUPPRESSED_SENTINEL" Bundle.listD A s' s'.heap := by rw [hhp]; exact vx_Zq.moved hW0.alike (hN.kept hS.2.1)
  have h : ∀ w ∈ Bundle.ownAtoms own ic cls names, w.before args s' = true := vx_own hat' (vx_isRefq hU'.1) (vx_isRefq hN'.1) hU'.2.word hN'.2.word
  have hown' : s'.vm.findClass own = some m.cls := by rw [hvm]; exact hown
  have hins : (Cond.instantiable cls 6).before args s' = true := h _ (by simp [Bundle.ownAtoms])
  obtain ⟨vm₁, cX, kX, hfX, hkX, -, -, X₁, st1⟩ := Y.newCold hexec (own := own) (C := cls) (index := ik) (n := 6) hown' hk' hins hini'
    (g := F0 m pc ls rest) rfl (by rw [hb]; exact d0) (Nat.le_refl _) (Nat.le_refl _)
  generalize hT1 : (T.setVm vm₁).pushCell { cls := cX, slots := kX.instanceTypes.map defaultValue, vm := .none } = T1 at X₁ st1
  have hcat : (Value.ref T.heap.size).category = 1 := rfl
  have hcellA : T1.heap[T.heap.size]? = some (freshCell cX kX) := by rw [← hT1]; exact State.heap_pushCell_size _ _
  have d3' : decode c.code (pc + 3) = .ok (.dup, 1) := by rw [hb]; exact d3
  have d4' : decode c.code (pc + 4) = .ok (.ldc_w is, 3) := by rw [hb]; exact d4
  have hstr' : vk_R own is text sa s' := vk_R.warm hW0 hstr
  obtain ⟨U, hsteps, hrun, hend, hW, hsame, ce, hce, hO⟩ := X₁.ctorThrowS hexec htr (own := own) (cls := cls) (names := names) (ic := ic) hown' hcls hnames h (fun x hx => nomatch hx) hfX hkX hcellA (by rw [hhp, hT]; exact Nat.le_refl _) (msg := .ref sa) rfl
    (g := { method := m, pc := pc + 7, locals := ls, stack := .ref sa :: .ref T.heap.size :: .ref T.heap.size :: rest, locked := none }) rfl hsize rfl rfl (rest := rest) rfl
    (by rw [hb]; exact d7) (by rw [hb]; exact d10) hout hRframes (by simp only [List.map_cons, List.sum_cons, hcat]; omega) hlocks
  obtain ⟨f1, f2⟩ := vx_frame hsame
  rw [hhp] at f1 f2
  have hWs : s.WarmedH U.vm := State.WarmedH.trans hW0 hW
  have hcl : s.vm.findClass cls = some ce.cls := by
    have h9 := hO.cls
    rw [hvm] at h9
    exact h9
  have hall : s.sameButNew ({ U with vm := s.vm } : State) locs mc ms := by
    subst hA
    obtain ⟨e1, e2⟩ := hsame
    rw [State.setFrames_setFrames] at e1
    have h2 : (T.setVm s.vm).sameButNew ({ U with vm := s.vm } : State) [] (0 + 1) (0 + 6) := ⟨e1, e2⟩
    have h3 := X.same.trans h2
    rw [List.append_nil] at h3
    exact h3.mono hc hs
  refine ⟨U, ?_, .threw T.heap.size, hrun, hend, Or.inr ⟨T.heap.size, rfl, cls, ce, locs, hx U hWs.alike f1 (fun q hq => f2 q hq (fun z hz => nomatch hz)), hce, hO.vm, hcl, hWs, hall, hf⟩⟩
  refine st1 _ ?_
  show Steps p.tables e below (T1.setTop { method := m, pc := pc + 3, locals := ls, stack := .ref T.heap.size :: rest, locked := none }) _
  jvm_step X₁.here [X₁.here.top, hexec, d3', Value.category]
  exact X₁.ldcStringW hexec (own := own) (text := text) (index := is) (a := sa) hown' hstr'.1 hstr'.2
    (g := { method := m, pc := pc + 4, locals := ls, stack := .ref T.heap.size :: .ref T.heap.size :: rest, locked := none }) rfl d4' _ hsteps
end Ends
section Bodies
variable {l : Launch}
theorem vx_ofW {y : MethodName} {ws ws' : List Cond} {rm : Room} {Pc : Array Value → State → Prop} {Qc : Array Value → State → Outcome → State → Prop} {XC : String → State → State → Prop} {mc ms : Nat} {free : Addr → Prop} {cc : ByteArray} {maxL : Nat} {ret : Option FieldType}
    (hy : plainName y.cls = true) (hw : ws = Cond.code y cc maxL ret :: ws')
    (body : ∀ p e s m args below meth c s₁, BodyLoose p l y (headSpec ws rm) cc maxL ret e s m args below meth c s₁ → c.maxLocals = maxL → (∀ x ∈ c.exceptionTable.toList, False) → Pc args s →
      W p l e (headSpec ws rm).room s m args below meth c s.heap [] 0 0 (vx_MQ below Qc XC args s mc ms free) (entryFrame m args maxL)) : vx_Met l y ws rm Pc Qc XC mc ms free := by
  refine MetFree.of_bodyS (code := cc) (maxLocals := maxL) (ret := ret) hy ?_ ?_
  · intro args s m h hn
    obtain ⟨meth, c, h1, h2, h3, h4, h5, h6, -, -⟩ := Cond.code_spec hn (atoms_spec (ws := ws) h _ (by rw [hw]; exact List.mem_cons_self))
    exact ⟨meth, c, h1, h2, h3, h4, h5, h6⟩
  · intro p e s m args below meth c s₁ B hml hP _
    have hh0 : s₁.heap = s.heap := by rw [B.state]; rfl
    have ht : ∀ x ∈ c.exceptionTable.toList, False := by
      obtain ⟨meth9, c9, h1, h2, -, -, -, -, h7, -⟩ := Cond.code_spec B.named (atoms_spec (ws := ws) B.pre _ (by rw [hw]; exact List.mem_cons_self))
      cases Option.some.inj (h1.symm.trans B.method)
      cases Option.some.inj (h2.symm.trans (Stand.of_body B).code)
      intro x hx
      rw [Array.isEmpty_iff.mp h7] at hx
      cases hx
    obtain ⟨t, a1, o, b1, b2, b3⟩ := body p e s m args below meth c s₁ B hml ht hP s₁ hh0 (Stand.of_body B)
    exact ⟨t, o, a1, b1, b2, b3⟩
/-- the table of a body with handlers -/
theorem vx_table {p : Program} {x y : MethodName} {S : Spec} {cc bytes : ByteArray} {maxL maxL' : Nat} {ret ret' : Option FieldType} {e : Env} {s s₁ : State} {m : MethodId} {args : Array Value} {below : List Frame} {meth : Method} {c : Code} {hh : List (Nat × Nat × Nat × Nat)}
    (B : BodyLoose p l y S cc maxL ret e s m args below meth c s₁) (h : (Cond.codeWith y bytes maxL' ret' hh).before args s = true) : c.exceptionTable.toList = tableOf hh := by
  obtain ⟨m9, meth9, c9, hn9, h1, h2, -, -, h6, -⟩ := Cond.codeWith_spec h
  cases Option.some.inj (hn9.symm.trans B.named)
  cases Option.some.inj (h1.symm.trans B.method)
  cases Option.some.inj (h2.symm.trans (Stand.of_body B).code)
  rw [← h6, table_eq]
end Bodies
end VXA
/-! ===== END ===== -/
/-! ===== BEGIN a static call of a method with an exception table ===== -/
section VXS
variable {p : Program} {l : Launch} {e : Env} {R : Room} {s : State} {m : MethodId} {args : Array Value} {below : List Frame} {meth : Method} {c : Code} {T : State} {H : Heap} {locs : List Loc} {cells slots : Nat}
abbrev vx_CSW (R : Room) (s : State) (args : Array Value) (own : String) (index : Nat) (y : MethodName) (bytes : ByteArray) (maxL : Nat) (ret : Option FieldType) (hh : List (Nat × Nat × Nat × Nat)) (ws : List Cond) (rm : Room) (mc ms n : Nat) : Prop :=
  (rm.cells = mc ∧ rm.slots = ms ∧ rm.frames + 1 ≤ R.frames ∧ 8 + (maxL + 11) + rm.locals ≤ R.locals ∧ (∀ w ∈ ws, ∀ (a' : Array Value) (U : State), s.WarmedH U.vm → w.before a' U = true) ∧ Cond.codeWith y bytes maxL ret hh ∈ ws) ∧
  (Cond.codeWith y bytes maxL ret hh).before args s = true ∧ (Cond.initialized y.cls).before args s = true ∧ (y.cls ≠ "java/lang/invoke/MethodHandle" ∧ y.cls ≠ "java/lang/invoke/VarHandle") ∧
  (∀ sig, parseMethodDescriptor y.desc = some sig → n = sig.parameters.length) ∧ (Cond.methodLink own index y).before args s = true ∧ (Cond.static y).before args s = true
theorem vx_cwSW {own : String} {index maxL mc ms : Nat} {y : MethodName} {bytes : ByteArray} {ret : Option FieldType} {hh : List (Nat × Nat × Nat × Nat)} {Ts ws ws' : List Cond} {rm : Room} (n : Nat) (ht : ∀ w ∈ Ts, w.before args s = true) (hT : GoodIn Ts (va_wsS own index y ws)) (hw : ws = Cond.codeWith y bytes maxL ret hh :: ws') (hrc : rm.cells = mc) (hrs : rm.slots = ms)
    (hd : y.cls ≠ "java/lang/invoke/MethodHandle" ∧ y.cls ≠ "java/lang/invoke/VarHandle" ∧ (parseMethodDescriptor y.desc).map (fun d => d.parameters.length) = some n) (hR : rm.frames + 1 ≤ R.frames ∧ 8 + (maxL + 11) + rm.locals ≤ R.locals) :
    vx_CSW R s args own index y bytes maxL ret hh ws rm mc ms n := by
  have ok : ∀ w ∈ va_wsS own index y ws, w.before args s = true := fun w h => ht w (hT w h).1
  have hG : GoodIn Ts ws := fun w h => hT w (by unfold va_wsS; exact List.mem_append_right _ h)
  have hc : Cond.codeWith y bytes maxL ret hh ∈ ws := by rw [hw]; exact List.mem_cons_self
  refine ⟨⟨hrc, hrs, hR.1, hR.2, pay_in ht hG, hc⟩, ht _ (hG _ hc).1, ok _ (by simp [va_wsS]), ⟨hd.1, hd.2.1⟩, fun sig h => ?_, ok _ (by simp [va_wsS]), ok _ (by simp [va_wsS])⟩
  have h2 := hd.2.2
  rw [h] at h2
  exact (Option.some.inj h2).symm
theorem vx_callSW (X : Stand p l e R s m args below meth c T locs cells slots) (hexec : p.tables.exec = Jvm.exec) {own : String} {index : Nat} {y : MethodName} {bytes : ByteArray} {maxL : Nat} {ret : Option FieldType} {hh : List (Nat × Nat × Nat × Nat)}
    (hown : s.vm.findClass own = some m.cls) (hlink : (Cond.methodLink own index y).before args s = true) (hstat : (Cond.static y).before args s = true) (hinit : (Cond.initialized y.cls).before args s = true)
    (hcode : (Cond.codeWith y bytes maxL ret hh).before args s = true) (hy : y.cls ≠ "java/lang/invoke/MethodHandle" ∧ y.cls ≠ "java/lang/invoke/VarHandle")
    {W9 : Nat} {Pre : Pt → Array Value → Prop} {Post : Pt → Array Value → Option Value → Pt → Prop} (hK : Back l R p e below s args y 3 W9 Pre Post)
    {g : JFrame} (hg : g.method = m) (hsize : g.locals.size = c.maxLocals) {argsL rest : List Value} (hlen : ∀ sig, parseMethodDescriptor y.desc = some sig → argsL.length = sig.parameters.length)
    (hstack : g.stack = argsL.reverse ++ rest) (hW : 2 * g.monitorRoom + (rest.map fun v => v.category).sum ≤ W9) (hdg : decode c.code g.pc = .ok (.invokestatic index, 3))
    (hpre : ∀ vm₁, s.WarmedH vm₁ → Pre ⟨T.setVm vm₁, locs, cells, slots⟩ argsL.toArray) :
    ∃ (v : Option Value) (vm₁ : Vm) (B : Pt), s.WarmedH vm₁ ∧ Stand p l e R s m args below meth c B.U B.locs B.cells B.slots ∧ Post ⟨T.setVm vm₁, locs, cells, slots⟩ argsL.toArray v B ∧
      ∀ target, Steps p.tables e below (B.U.setTop { g with pc := g.pc + 3, stack := v.toList ++ rest }) target → Steps p.tables e below (T.setTop g) target := by
  obtain ⟨mk, methM, cM, hnamed, hmethM, -, -, -, -, -, -, hsigM⟩ := Cond.codeWith_spec hcode
  have hstatic : methM.isStatic = true := Cond.static_spec hnamed hmethM hstat
  obtain ⟨kP, hkP, -⟩ := className_of_methodNamed hnamed
  have hinitP : kP.init = .initialized := Cond.initialized_spec (findClass_of_methodNamed hnamed) hkP hinit
  obtain ⟨vm₁, X₁, hstep₁⟩ := X.invokestatic hexec hown hlink hnamed hmethM hstatic hkP hinitP hy (g := g) hg (argsL := argsL) (rest := rest) (hlen _ hsigM) hstack hdg
  obtain ⟨v, B, X', hpost, hsteps⟩ := hK m meth c ⟨T.setVm vm₁, locs, cells, slots⟩ { g with stack := rest } (.invokestatic index) mk argsL.toArray X₁ hg hsize hdg hW (X₁.named hnamed) (hpre vm₁ X₁.warmed)
  exact ⟨v, vm₁, B, X₁.warmed, X', hpost, fun target h => hstep₁ _ fun acts => by rw [doInvoke_state]; exact hsteps.trans h⟩
theorem vx_runSW {y : MethodName} {bytes cc : ByteArray} {maxL nL mc ms n index : Nat} {ret : Option FieldType} {hh : List (Nat × Nat × Nat × Nat)} {ws : List Cond} {rm : Room} {Pc : Array Value → State → Prop} {Qc : Array Value → State → Outcome → State → Prop} {free : Addr → Prop} {Ts : List Cond} {own : String} {As rest : List Value} {g : JFrame}
    (S : CallFix p m c cc nL s args Ts own) (hM : Met l y ws rm Pc Qc mc ms free) (cw : vx_CSW R s args own index y bytes maxL ret hh ws rm mc ms n) (hp : PreS s H Pc As)
    (hg : g.method = m) (hn : As.length = n) (hsize : g.locals.size = nL) (hstack : g.stack = As.reverse ++ rest) (hW : 2 * g.monitorRoom + (rest.map fun v => v.category).sum ≤ 8) (hdg : decode cc g.pc = .ok (.invokestatic index, 3)) (hf : cells + mc ≤ R.cells ∧ slots + ms ≤ R.slots) :
    va_Run p l e R s m args below meth c H locs cells slots mc ms g rest (Qc As.toArray) (free) := by
  obtain ⟨⟨hrc, hrs, hfr, hlo, hws, hcw⟩, hcode, hini, hy, hlen, hl, hstt⟩ := cw
  have hK : Back l R p e below s args y 3 8 (PreOf R mc ms Pc) (PostOf Qc mc ms free) := va_backW (hh := hh) (bytes := bytes) (maxL := maxL) (ret := ret) hM hp.1 hrc hrs hfr hlo hws hcw (fun a' U hW => word_at hW (Or.inl (by first | rfl | simp [Cond.onTables, Cond.keeps, Cond.steady])) hini)
  obtain ⟨hx, hb, hml, ho, -⟩ := S
  intro T hT X
  obtain ⟨v, vm₁, ⟨U', l2, c2, s2⟩, hW₁, X', ⟨g', mk, t, L, e1, e2, hq, h1, hL, h2, h3⟩, st⟩ := vx_callSW X hx (hh := hh) (bytes := bytes) (maxL := maxL) (ret := ret) ho hl hstt hini hcode hy hK hg (hsize.trans hml.symm) (argsL := As) (rest := rest) (fun sig h => hn.trans (hlen sig h)) hstack hW (by rw [hb]; exact hdg)
    (fun vm₁ hW₁ => ⟨hf.1, hf.2, hp.2 (T.setVm vm₁) hT hW₁⟩)
  dsimp only [Pt.U, Pt.locs, Pt.cells, Pt.slots] at X' e1 e2 h1 h2 h3 st
  subst h1; subst h2; subst h3
  exact ⟨v, (T.setVm vm₁).calling g' mk As.toArray, t, U', L, hT, X', hL, e1, e2, hq, st⟩
/-- not caught here, past rows that name other classes: it goes on to the caller -/
theorem vx_outP {p : Program} {l : Launch} {e : Env} {R : Room} {s : State} {m : MethodId} {args : Array Value} {below : List Frame} {meth : Method} {c : Code} {H : Heap} {locs : List Loc} {cells slots : Nat} {free : Addr → Prop} {ls : Array Slot} {rest : List Value} {Qc : Array Value → State → Outcome → State → Prop} {XC : String → State → State → Prop}
    {pc : Nat} {own E : String} {ce : Cell} {q : Addr} {mc ms : Nat} (hown : s.vm.findClass own = some m.cls) (hlocks : meth.locks = false)
    (hpass : ∀ z ∈ c.exceptionTable.toList, covers z pc = false ∨ (z.catchType ≠ 0 ∧ ∃ nm : String, (Cond.classLink own z.catchType nm).before args s = true ∧ va_Nc E nm s)) (hcell : H[q]? = some ce) (hv : ce.vm = .none) (hcl : s.vm.findClass E = some ce.cls)
    (hx : ∀ t : State, t.heap = H → s.vm.Alike t.vm → XC E s t) (hf : ∀ z ∈ locs, free z.base) (hc : cells ≤ mc) (hs : slots ≤ ms) :
    vx_W p l e R s m args below meth c H locs cells slots (vx_MQ below Qc XC args s mc ms free) (F0 m pc ls rest) q := by
  intro T hT X
  have hpl : e.platform.magicAccessors = ({} : Platform).magicAccessors := by rw [X.admits.platform]
  obtain ⟨vm', hW', X', st⟩ := X.outThrough hlocks q (g := F0 m pc ls rest) rfl rfl rfl (cell := ce) (by rw [hT]; exact hcell) (by rw [hv]; rfl)
    (by obtain ⟨k9, h9, -⟩ := Vm.findClass_spec hcl; exact ⟨k9, h9⟩) (fun z hz => by
      rcases hpass z hz with h | ⟨hz0, nm, hl1, hn1⟩
      · exact Or.inl h
      · obtain ⟨c6, hc6, hcl6⟩ := Cond.classLink_spec hown hl1 e.platform hpl
        obtain ⟨a8, b8, h1, h2, h3⟩ := hn1
        cases Option.some.inj (h1.symm.trans hcl)
        cases Option.some.inj (h2.symm.trans hc6)
        exact Or.inr ⟨hz0, _, hcl6, h3⟩)
  obtain ⟨g₀, hfr⟩ := X'.frames_eq
  have hcell9 : ((T.setVm vm').setFrames (.throwing q :: below)).heap[q]? = some ce := by
    show T.heap[q]? = some ce
    rw [hT]; exact hcell
  have hend : Ended ((T.setVm vm').setFrames (.throwing q :: below)) below (.threw q) := State.frames_setFrames _ (State.cur_lt_of_frames hfr)
  refine ⟨(T.setVm vm').setFrames (.throwing q :: below), ?_, .threw q, X'.here.running, hend, Or.inr ⟨q, rfl, E, ce, locs, hx _ hT (X'.ends _).1.alike, hcell9, hv, hcl, (X'.ends _).1, (X'.ends _).2.mono hc hs, hf⟩⟩
  rw [X.pushThrowing_eq]
  exact st
/-- a thing of a world lies in the heap -/
theorem vx_lt {D : va_G} {cl : List vw_C} {ws : va_W} {H1 : Heap} (h : va_P D cl ws H1) {k : Nat} {q : Nat × va_E} (hk : ws[k]? = some q) : q.1 < H1.size := (h k q hk).lt
end VXS
/-! ===== END ===== -/
/-! ===== BEGIN methods with a table of their own: called by a name, returning or throwing ===== -/
section VXH
/-! vx_backW, vx_callVX, vx_callSX, vx_callVW, vx_runVW, vx_runVX, vx_runSX, vx_ofWH follow the same proofs as their sisters above (Free/Laws.lean, Shelf42/LK1.lean); vx_outP calls Shelf42/NT130.lean (outThrough). -/
section
variable {l : Launch} {R : Room} {p : Program} {e : Env} {below : List Frame} {s : State} {sargs : Array Value} {y : MethodName} {len W9 : Nat}
theorem vx_backW {ws : List Cond} {rm : Room} {Pc : Array Value → State → Prop} {Qc : Array Value → State → Outcome → State → Prop} {XC : String → State → State → Prop} {mc ms : Nat} {free : Addr → Prop} {bytes : ByteArray} {maxL : Nat} {ret : Option FieldType} {hh : List (Nat × Nat × Nat × Nat)}
    (hM : vx_Met l y ws rm Pc Qc XC mc ms free) (hblind : FrameBlind Pc) (hrc : rm.cells = mc) (hrs : rm.slots = ms)
    (hframes : rm.frames + 1 ≤ R.frames) (hlocals : W9 + (maxL + 11) + rm.locals ≤ R.locals)
    (hws : ∀ w ∈ ws, ∀ a' U, s.WarmedH U.vm → w.before a' U = true) (hcode : Cond.codeWith y bytes maxL ret hh ∈ ws) (hinit : ∀ a' U, s.WarmedH U.vm → (Cond.initialized y.cls).before a' U = true) :
    vx_Back l R p e below s sargs y len W9 (PreOf R mc ms Pc) (PostOf Qc mc ms free) (vx_Post XC mc ms free) := by
  intro m meth c A g ig mk a X hg hsize hdg hW hn hp
  have h1 : (headSpec ws rm).pre.before a A.U = true := atoms_intro fun w hw => hws w hw _ _ X.warmed
  have h2 : (Cond.codeWith y bytes maxL ret hh).before a A.U = true := hws _ hcode _ _ X.warmed
  have h3 : (Cond.initialized y.cls).before a A.U = true := hinit _ _ X.warmed
  have h4 : A.cells + (headSpec ws rm).room.cells ≤ R.cells := by rw [show (headSpec ws rm).room.cells = mc from hrc]; exact hp.1
  have h5 : A.slots + (headSpec ws rm).room.slots ≤ R.slots := by rw [show (headSpec ws rm).room.slots = ms from hrs]; exact hp.2.1
  have hPc : Pc a (A.U.calling g mk a) := hblind _ _ _ _ hp.2.2
  obtain ⟨U, Ls, c0, s0⟩ := A
  dsimp only [Pt.U, Pt.locs, Pt.cells, Pt.slots] at h1 h2 h3 h4 h5 X hn hPc ⊢
  obtain ⟨m9, methY, cY, hn9, hmY, hcY, -, hlY, -⟩ := Cond.codeWith_spec h2
  cases Option.some.inj (hn9.symm.trans hn)
  obtain ⟨kY, hkY, -⟩ := className_of_methodNamed hn
  have hinitY : kY.init = .initialized := Cond.initialized_spec (findClass_of_methodNamed hn) hkY h3
  have h : At U g.method c below := by rw [hg]; exact X.here
  have hlocals9 : W9 + (maxL + 11) + (headSpec ws rm).room.locals ≤ R.locals := hlocals
  have happ : (headSpec ws rm).appliesLoose y e.platform (U.calling g mk a) = true :=
    Spec.appliesLoose_calling (g := g) h hdg hn hkY hinitY
      (X.room_calling (g := g) (R' := (headSpec ws rm).room) hsize hmY hcY hframes (by rw [hlY]; omega) h4 h5) h1
  obtain ⟨mid, hmid⟩ := h.above
  have hfr : (U.setTop g).frames = (.java g :: mid) ++ below := by rw [State.frames_setTop' g h.top, hmid]; rfl
  obtain ⟨o, s₂, hsteps, -, hend, hq⟩ := Steps.callFree hM p X.admits X.cas X.clock (acts := []) hfr happ hPc trivial
  have hq' : vx_Q Qc XC mc ms free a (U.calling g mk a) o s₂ := hq
  rw [State.frames_setTop' g h.top] at hend
  obtain ⟨g₀, hg0⟩ := Option.isSome_iff_exists.mp h.top
  obtain ⟨r, hr⟩ := State.topJava?_eq_some.mp hg0
  have hr' : (({ U with heap := s₂.heap, slotsUsed := s₂.slotsUsed } : State).setVm s₂.vm).frames = .java g₀ :: r := hr
  rcases hq' with ⟨hqc, L, hfe, hL⟩ | ⟨q, rfl, E, ce, L, hx, hce, hcv, hcl, hW₂, hsm, hL⟩
  · obtain ⟨⟨v, rfl⟩, hW₂, e2, q2, q3, q4, q5, q6⟩ := id hfe
    have e3 : s₂ = ({ (U.calling g mk a).setFrames s₂.frames with heap := s₂.heap, slotsUsed := s₂.slotsUsed } : State).setVm s₂.vm := by
      have : s₂ = ({ s₂ with vm := (U.calling g mk a).vm } : State).setVm s₂.vm := rfl
      rw [e2] at this
      exact this
    obtain ⟨c₂, i₂, len₂, hc₂, hd₂, hf₂⟩ := hend
    have hW' : U.WarmedH s₂.vm := hW₂
    have hcc : c₂ = c := by
      have h1 : s₂.code? g.method = U.code? g.method := by
        rw [State.code?_eq, State.code?_eq, hW'.alike.method?]
      exact Option.some.inj (hc₂.symm.trans (h1.trans h.code))
    subst hcc
    have hlen : len₂ = len := by rw [hdg] at hd₂; cases hd₂; rfl
    subst hlen
    have hs₂ : s₂ = (({ U with heap := s₂.heap, slotsUsed := s₂.slotsUsed } : State).setVm s₂.vm).setTop { g with pc := g.pc + len₂, stack := v.toList ++ g.stack } := by
      refine e3.trans ?_
      rw [hf₂, State.calling_eq h.top, State.setFrames_setFrames, State.setTop_of_frames _ hr', hr]
      rfl
    have hsame : U.sameButNew ({ U with heap := s₂.heap, slotsUsed := s₂.slotsUsed } : State) L mc ms := by
      refine ⟨?_, q2, q3, q4, q5, q6⟩
      obtain ⟨t, ht, -⟩ := State.frames_cons hr
      show ({ U with heap := s₂.heap, slotsUsed := s₂.slotsUsed } : State) = { U.setFrames U.frames with heap := s₂.heap, slotsUsed := s₂.slotsUsed }
      rw [State.setFrames_self ht]
    subst hg
    refine Or.inl ⟨v, ⟨(({ U with heap := s₂.heap, slotsUsed := s₂.slotsUsed } : State).setVm s₂.vm), Ls ++ L, c0 + mc, s0 + ms⟩,
      ⟨X.admits, X.cas, X.clock, X.frames, X.room, X.hears, X.method, X.code, (X.here.setHeapUsed s₂.heap s₂.slotsUsed).setVm hW'.alike, X.tail, State.WarmedH.trans X.warmed hW', X.limits, X.bytes, X.same.trans (hsame.setVm s.vm)⟩,
      ⟨g, mk, s₂, L, rfl, rfl, hqc, rfl, hL, rfl, rfl⟩, ?_⟩
    show Steps p.tables e below _ ((({ U with heap := s₂.heap, slotsUsed := s₂.slotsUsed } : State).setVm s₂.vm).setTop { g with pc := g.pc + len₂, stack := v.toList ++ g.stack })
    rw [← hs₂]
    exact hsteps
  · obtain ⟨e2, q2, q3, q4, q5, q6⟩ := id hsm
    have e3 : s₂ = ({ (U.calling g mk a).setFrames s₂.frames with heap := s₂.heap, slotsUsed := s₂.slotsUsed } : State).setVm s₂.vm := by
      have : s₂ = ({ s₂ with vm := (U.calling g mk a).vm } : State).setVm s₂.vm := rfl
      rw [e2] at this
      exact this
    have hf₂ : s₂.frames = .throwing q :: .java g :: U.frames.tail := hend
    have hW' : U.WarmedH s₂.vm := hW₂
    have hs₂ : s₂ = ((({ U with heap := s₂.heap, slotsUsed := s₂.slotsUsed } : State).setVm s₂.vm).setTop g).pushFrame (.throwing q) := by
      refine e3.trans ?_
      rw [hf₂, State.calling_eq h.top, State.setFrames_setFrames, State.pushFrame, State.frames_setTop _ hr', State.setTop_of_frames _ hr', State.setFrames_setFrames, hr]
      rfl
    have hsame : U.sameButNew ({ U with heap := s₂.heap, slotsUsed := s₂.slotsUsed } : State) L mc ms := by
      refine ⟨?_, q2, q3, q4, q5, q6⟩
      obtain ⟨t, ht, -⟩ := State.frames_cons hr
      show ({ U with heap := s₂.heap, slotsUsed := s₂.slotsUsed } : State) = { U.setFrames U.frames with heap := s₂.heap, slotsUsed := s₂.slotsUsed }
      rw [State.setFrames_self ht]
    subst hg
    refine Or.inr ⟨q, ⟨(({ U with heap := s₂.heap, slotsUsed := s₂.slotsUsed } : State).setVm s₂.vm), Ls ++ L, c0 + mc, s0 + ms⟩,
      ⟨X.admits, X.cas, X.clock, X.frames, X.room, X.hears, X.method, X.code, (X.here.setHeapUsed s₂.heap s₂.slotsUsed).setVm hW'.alike, X.tail, State.WarmedH.trans X.warmed hW', X.limits, X.bytes, X.same.trans (hsame.setVm s.vm)⟩,
      ⟨g, mk, s₂, L, E, ce, rfl, rfl, hx, hce, hcv, hcl, rfl, hL, rfl, rfl⟩, ?_⟩
    show Steps p.tables e below _ (((({ U with heap := s₂.heap, slotsUsed := s₂.slotsUsed } : State).setVm s₂.vm).setTop g).pushFrame (.throwing q))
    rw [← hs₂]
    exact hsteps
end
variable {p : Program} {l : Launch} {e : Env} {R : Room} {s : State} {m : MethodId} {args : Array Value} {below : List Frame} {meth : Method} {c : Code} {T : State} {H : Heap} {locs : List Loc} {cells slots : Nat}
theorem vx_callVX (X : Stand p l e R s m args below meth c T locs cells slots) (hexec : p.tables.exec = Jvm.exec) {own C : String} {index : Nat} {y : MethodName} {bytes : ByteArray} {maxL : Nat} {ret : Option FieldType} {hh : List (Nat × Nat × Nat × Nat)}
    (hown : s.vm.findClass own = some m.cls) (hlink : (Cond.methodLink own index y).before args s = true) (hinst : (Cond.instanceMethod y).before args s = true) (hsel : (Cond.selects C y y).before args s = true)
    (hcode : (Cond.codeWith y bytes maxL ret hh).before args s = true) (hy : y.cls ≠ "java/lang/invoke/MethodHandle" ∧ y.cls ≠ "java/lang/invoke/VarHandle")
    {W9 : Nat} {Pre : Pt → Array Value → Prop} {Post : Pt → Array Value → Option Value → Pt → Prop} {PostX : Pt → Array Value → Addr → Pt → Prop} (hK : vx_Back l R p e below s args y 3 W9 Pre Post PostX)
    {b : Addr} {cellB : Cell} (hcell : T.heap[b]? = some cellB) (hobj : cellB.vm.isStatics = false) (hcls : s.vm.findClass C = some cellB.cls)
    {g : JFrame} (hg : g.method = m) (hsize : g.locals.size = c.maxLocals) {argsL rest : List Value} (hlen : ∀ sig, parseMethodDescriptor y.desc = some sig → argsL.length = sig.parameters.length)
    (hstack : g.stack = argsL.reverse ++ .ref b :: rest) (hW : 2 * g.monitorRoom + (rest.map fun v => v.category).sum ≤ W9) (hdg : decode c.code g.pc = .ok (.invokevirtual index, 3))
    (hpre : ∀ vm₁, s.WarmedH vm₁ → Pre ⟨T.setVm vm₁, locs, cells, slots⟩ (Value.ref b :: argsL).toArray) :
    (∃ (v : Option Value) (vm₁ : Vm) (B : Pt), s.WarmedH vm₁ ∧ Stand p l e R s m args below meth c B.U B.locs B.cells B.slots ∧ Post ⟨T.setVm vm₁, locs, cells, slots⟩ (Value.ref b :: argsL).toArray v B ∧
      ∀ target, Steps p.tables e below (B.U.setTop { g with pc := g.pc + 3, stack := v.toList ++ rest }) target → Steps p.tables e below (T.setTop g) target) ∨
    (∃ (q : Addr) (vm₁ : Vm) (B : Pt), s.WarmedH vm₁ ∧ Stand p l e R s m args below meth c B.U B.locs B.cells B.slots ∧ PostX ⟨T.setVm vm₁, locs, cells, slots⟩ (Value.ref b :: argsL).toArray q B ∧
      Steps p.tables e below (T.setTop g) ((B.U.setTop { g with stack := rest }).pushFrame (.throwing q))) := by
  obtain ⟨mk, methM, hnamed, hmethM, hstM, habM⟩ := Cond.instanceMethod_spec hinst
  obtain ⟨m8, methM', cM, hn8, hmethM', -, -, -, -, -, -, hsigM⟩ := Cond.codeWith_spec hcode
  cases Option.some.inj (hn8.symm.trans hnamed)
  cases hmethM.symm.trans hmethM'
  obtain ⟨c2, r2, m2, q1, q2, q3, q4, kP, hkP, hkPi⟩ := Cond.selects_spec hsel
  cases hcls.symm.trans q1
  cases (State.methodFound?_of_named hnamed hy).symm.trans q2
  cases hnamed.symm.trans q3
  have hselP : selectMethod e.platform s.vm cellB.cls mk = .method mk := by rw [Launch.admits_selectMethod X.admits]; exact q4
  obtain ⟨vm₁, X₁, hstep₁⟩ := X.invokevirtual hexec hown hlink hnamed hmethM hstM hkP hkPi hy (a := b) (cell := cellB) hcell
    (fun z h => by rw [h] at hobj; cases hobj) hselP hmethM habM hkP hkPi (g := g) hg (argsL := argsL) (rest := rest) (hlen _ hsigM) hstack hdg
  rcases hK m meth c ⟨T.setVm vm₁, locs, cells, slots⟩ { g with stack := rest } (.invokevirtual index) mk (Value.ref b :: argsL).toArray X₁ hg hsize hdg hW (X₁.named hnamed) (hpre vm₁ X₁.warmed) with ⟨v, B, X', hpost, hsteps⟩ | ⟨q, B, X', hpost, hsteps⟩
  · exact Or.inl ⟨v, vm₁, B, X₁.warmed, X', hpost, fun target h => hstep₁ _ fun acts => by rw [doInvoke_state]; exact hsteps.trans h⟩
  · exact Or.inr ⟨q, vm₁, B, X₁.warmed, X', hpost, hstep₁ _ fun acts => by rw [doInvoke_state]; exact hsteps⟩
theorem vx_callSX (X : Stand p l e R s m args below meth c T locs cells slots) (hexec : p.tables.exec = Jvm.exec) {own : String} {index : Nat} {y : MethodName} {bytes : ByteArray} {maxL : Nat} {ret : Option FieldType} {hh : List (Nat × Nat × Nat × Nat)}
    (hown : s.vm.findClass own = some m.cls) (hlink : (Cond.methodLink own index y).before args s = true) (hstat : (Cond.static y).before args s = true) (hinit : (Cond.initialized y.cls).before args s = true)
    (hcode : (Cond.codeWith y bytes maxL ret hh).before args s = true) (hy : y.cls ≠ "java/lang/invoke/MethodHandle" ∧ y.cls ≠ "java/lang/invoke/VarHandle")
    {W9 : Nat} {Pre : Pt → Array Value → Prop} {Post : Pt → Array Value → Option Value → Pt → Prop} {PostX : Pt → Array Value → Addr → Pt → Prop} (hK : vx_Back l R p e below s args y 3 W9 Pre Post PostX)
    {g : JFrame} (hg : g.method = m) (hsize : g.locals.size = c.maxLocals) {argsL rest : List Value} (hlen : ∀ sig, parseMethodDescriptor y.desc = some sig → argsL.length = sig.parameters.length)
    (hstack : g.stack = argsL.reverse ++ rest) (hW : 2 * g.monitorRoom + (rest.map fun v => v.category).sum ≤ W9) (hdg : decode c.code g.pc = .ok (.invokestatic index, 3))
    (hpre : ∀ vm₁, s.WarmedH vm₁ → Pre ⟨T.setVm vm₁, locs, cells, slots⟩ argsL.toArray) :
    (∃ (v : Option Value) (vm₁ : Vm) (B : Pt), s.WarmedH vm₁ ∧ Stand p l e R s m args below meth c B.U B.locs B.cells B.slots ∧ Post ⟨T.setVm vm₁, locs, cells, slots⟩ argsL.toArray v B ∧
      ∀ target, Steps p.tables e below (B.U.setTop { g with pc := g.pc + 3, stack := v.toList ++ rest }) target → Steps p.tables e below (T.setTop g) target) ∨
    (∃ (q : Addr) (vm₁ : Vm) (B : Pt), s.WarmedH vm₁ ∧ Stand p l e R s m args below meth c B.U B.locs B.cells B.slots ∧ PostX ⟨T.setVm vm₁, locs, cells, slots⟩ argsL.toArray q B ∧
      Steps p.tables e below (T.setTop g) ((B.U.setTop { g with stack := rest }).pushFrame (.throwing q))) := by
  obtain ⟨mk, methM, cM, hnamed, hmethM, -, -, -, -, -, -, hsigM⟩ := Cond.codeWith_spec hcode
  have hstatic : methM.isStatic = true := Cond.static_spec hnamed hmethM hstat
  obtain ⟨kP, hkP, -⟩ := className_of_methodNamed hnamed
  have hinitP : kP.init = .initialized := Cond.initialized_spec (findClass_of_methodNamed hnamed) hkP hinit
  obtain ⟨vm₁, X₁, hstep₁⟩ := X.invokestatic hexec hown hlink hnamed hmethM hstatic hkP hinitP hy (g := g) hg (argsL := argsL) (rest := rest) (hlen _ hsigM) hstack hdg
  rcases hK m meth c ⟨T.setVm vm₁, locs, cells, slots⟩ { g with stack := rest } (.invokestatic index) mk argsL.toArray X₁ hg hsize hdg hW (X₁.named hnamed) (hpre vm₁ X₁.warmed) with ⟨v, B, X', hpost, hsteps⟩ | ⟨q, B, X', hpost, hsteps⟩
  · exact Or.inl ⟨v, vm₁, B, X₁.warmed, X', hpost, fun target h => hstep₁ _ fun acts => by rw [doInvoke_state]; exact hsteps.trans h⟩
  · exact Or.inr ⟨q, vm₁, B, X₁.warmed, X', hpost, hstep₁ _ fun acts => by rw [doInvoke_state]; exact hsteps⟩
theorem vx_callVW (X : Stand p l e R s m args below meth c T locs cells slots) (hexec : p.tables.exec = Jvm.exec) {own C : String} {index : Nat} {y : MethodName} {bytes : ByteArray} {maxL : Nat} {ret : Option FieldType} {hh : List (Nat × Nat × Nat × Nat)}
    (hown : s.vm.findClass own = some m.cls) (hlink : (Cond.methodLink own index y).before args s = true) (hinst : (Cond.instanceMethod y).before args s = true) (hsel : (Cond.selects C y y).before args s = true)
    (hcode : (Cond.codeWith y bytes maxL ret hh).before args s = true) (hy : y.cls ≠ "java/lang/invoke/MethodHandle" ∧ y.cls ≠ "java/lang/invoke/VarHandle")
    {W9 : Nat} {Pre : Pt → Array Value → Prop} {Post : Pt → Array Value → Option Value → Pt → Prop} (hK : Back l R p e below s args y 3 W9 Pre Post)
    {b : Addr} {cellB : Cell} (hcell : T.heap[b]? = some cellB) (hobj : cellB.vm.isStatics = false) (hcls : s.vm.findClass C = some cellB.cls)
    {g : JFrame} (hg : g.method = m) (hsize : g.locals.size = c.maxLocals) {argsL rest : List Value} (hlen : ∀ sig, parseMethodDescriptor y.desc = some sig → argsL.length = sig.parameters.length)
    (hstack : g.stack = argsL.reverse ++ .ref b :: rest) (hW : 2 * g.monitorRoom + (rest.map fun v => v.category).sum ≤ W9) (hdg : decode c.code g.pc = .ok (.invokevirtual index, 3))
    (hpre : ∀ vm₁, s.WarmedH vm₁ → Pre ⟨T.setVm vm₁, locs, cells, slots⟩ (Value.ref b :: argsL).toArray) :
    ∃ (v : Option Value) (vm₁ : Vm) (B : Pt), s.WarmedH vm₁ ∧ Stand p l e R s m args below meth c B.U B.locs B.cells B.slots ∧ Post ⟨T.setVm vm₁, locs, cells, slots⟩ (Value.ref b :: argsL).toArray v B ∧
      ∀ target, Steps p.tables e below (B.U.setTop { g with pc := g.pc + 3, stack := v.toList ++ rest }) target → Steps p.tables e below (T.setTop g) target := by
  obtain ⟨mk, methM, hnamed, hmethM, hstM, habM⟩ := Cond.instanceMethod_spec hinst
  obtain ⟨m8, methM', cM, hn8, hmethM', -, -, -, -, -, -, hsigM⟩ := Cond.codeWith_spec hcode
  cases Option.some.inj (hn8.symm.trans hnamed)
  cases hmethM.symm.trans hmethM'
  obtain ⟨c2, r2, m2, q1, q2, q3, q4, kP, hkP, hkPi⟩ := Cond.selects_spec hsel
  cases hcls.symm.trans q1
  cases (State.methodFound?_of_named hnamed hy).symm.trans q2
  cases hnamed.symm.trans q3
  have hselP : selectMethod e.platform s.vm cellB.cls mk = .method mk := by rw [Launch.admits_selectMethod X.admits]; exact q4
  obtain ⟨vm₁, X₁, hstep₁⟩ := X.invokevirtual hexec hown hlink hnamed hmethM hstM hkP hkPi hy (a := b) (cell := cellB) hcell
    (fun z h => by rw [h] at hobj; cases hobj) hselP hmethM habM hkP hkPi (g := g) hg (argsL := argsL) (rest := rest) (hlen _ hsigM) hstack hdg
  obtain ⟨v, B, X', hpost, hsteps⟩ := hK m meth c ⟨T.setVm vm₁, locs, cells, slots⟩ { g with stack := rest } (.invokevirtual index) mk (Value.ref b :: argsL).toArray X₁ hg hsize hdg hW (X₁.named hnamed) (hpre vm₁ X₁.warmed)
  exact ⟨v, vm₁, B, X₁.warmed, X', hpost, fun target h => hstep₁ _ fun acts => by rw [doInvoke_state]; exact hsteps.trans h⟩
abbrev vx_CVW (R : Room) (s : State) (args : Array Value) (own C : String) (index : Nat) (y : MethodName) (bytes : ByteArray) (maxL : Nat) (ret : Option FieldType) (hh : List (Nat × Nat × Nat × Nat)) (ws : List Cond) (rm : Room) (mc ms n : Nat) : Prop :=
  (rm.cells = mc ∧ rm.slots = ms ∧ rm.frames + 1 ≤ R.frames ∧ 8 + (maxL + 11) + rm.locals ≤ R.locals ∧ (∀ w ∈ ws, ∀ (a' : Array Value) (U : State), s.WarmedH U.vm → w.before a' U = true) ∧ Cond.codeWith y bytes maxL ret hh ∈ ws) ∧
  (Cond.codeWith y bytes maxL ret hh).before args s = true ∧ (Cond.initialized y.cls).before args s = true ∧ (y.cls ≠ "java/lang/invoke/MethodHandle" ∧ y.cls ≠ "java/lang/invoke/VarHandle") ∧
  (∀ sig, parseMethodDescriptor y.desc = some sig → n = sig.parameters.length) ∧ (Cond.methodLink own index y).before args s = true ∧ (Cond.instanceMethod y).before args s = true ∧ (Cond.selects C y y).before args s = true
theorem vx_cwVW {own C : String} {index maxL mc ms : Nat} {y : MethodName} {bytes : ByteArray} {ret : Option FieldType} {hh : List (Nat × Nat × Nat × Nat)} {Ts ws ws' : List Cond} {rm : Room} (n : Nat) (ht : ∀ w ∈ Ts, w.before args s = true) (hT : GoodIn Ts (wsV own index C y ws)) (hw : ws = Cond.codeWith y bytes maxL ret hh :: ws') (hrc : rm.cells = mc) (hrs : rm.slots = ms)
    (hd : y.cls = C ∧ y.cls ≠ "java/lang/invoke/MethodHandle" ∧ y.cls ≠ "java/lang/invoke/VarHandle" ∧ (parseMethodDescriptor y.desc).map (fun d => d.parameters.length) = some n) (hR : rm.frames + 1 ≤ R.frames ∧ 8 + (maxL + 11) + rm.locals ≤ R.locals) :
    vx_CVW R s args own C index y bytes maxL ret hh ws rm mc ms n := by
  obtain ⟨hC, hd⟩ := hd
  subst hC
  have ok : ∀ w ∈ wsV own index y.cls y ws, w.before args s = true := fun w h => ht w (hT w h).1
  have hG : GoodIn Ts ws := fun w h => hT w (by unfold wsV; exact List.mem_append_right _ h)
  have hc : Cond.codeWith y bytes maxL ret hh ∈ ws := by rw [hw]; exact List.mem_cons_self
  refine ⟨⟨hrc, hrs, hR.1, hR.2, pay_in ht hG, hc⟩, ht _ (hG _ hc).1, ok _ (by simp [wsV]), ⟨hd.1, hd.2.1⟩, fun sig h => ?_, ok _ (by simp [wsV]), ok _ (by simp [wsV]), ok _ (by simp [wsV])⟩
  have h2 := hd.2.2
  rw [h] at h2
  exact (Option.some.inj h2).symm
theorem vx_runVW {y : MethodName} {bytes cc : ByteArray} {maxL nL mc ms n index : Nat} {ret : Option FieldType} {hh : List (Nat × Nat × Nat × Nat)} {ws : List Cond} {rm : Room} {Pc : Array Value → State → Prop} {Qc : Array Value → State → Outcome → State → Prop} {free : Addr → Prop} {Ts : List Cond} {own C : String} {b : Addr} {As rest : List Value} {g : JFrame}
    (S : CallFix p m c cc nL s args Ts own) (hM : Met l y ws rm Pc Qc mc ms free) (cw : vx_CVW R s args own C index y bytes maxL ret hh ws rm mc ms n) (hp : PreV s H C b Pc As)
    (hg : g.method = m) (hn : As.length = n) (hsize : g.locals.size = nL) (hstack : g.stack = As.reverse ++ .ref b :: rest) (hW : 2 * g.monitorRoom + (rest.map fun v => v.category).sum ≤ 8) (hdg : decode cc g.pc = .ok (.invokevirtual index, 3)) (hf : cells + mc ≤ R.cells ∧ slots + ms ≤ R.slots) :
    va_Run p l e R s m args below meth c H locs cells slots mc ms g rest (Qc (Value.ref b :: As).toArray) free := by
  obtain ⟨⟨hrc, hrs, hfr, hlo, hws, hcw⟩, hcode, hini, hy, hlen, hl, hin, hse⟩ := cw
  have hK : Back l R p e below s args y 3 8 (PreOf R mc ms Pc) (PostOf Qc mc ms free) := va_backW (hh := hh) (bytes := bytes) (maxL := maxL) (ret := ret) hM hp.1 hrc hrs hfr hlo hws hcw (fun a' U hW => word_at hW (Or.inl (by first | rfl | simp [Cond.onTables, Cond.keeps, Cond.steady])) hini)
  obtain ⟨hx, hb, hml, ho, -⟩ := S
  obtain ⟨-, ⟨cellB, hcB, hoB, hclB⟩, hPc⟩ := hp
  intro T hT X
  obtain ⟨v, vm₁, ⟨U', l2, c2, s2⟩, hW₁, X', ⟨g', mk, t, L, e1, e2, hq, h1, hL, h2, h3⟩, st⟩ := vx_callVW X hx (C := C) (hh := hh) (bytes := bytes) (maxL := maxL) (ret := ret) ho hl hin hse hcode hy hK (by rw [hT]; exact hcB) hoB hclB hg (hsize.trans hml.symm) (argsL := As) (rest := rest) (fun sig h => hn.trans (hlen sig h)) hstack hW (by rw [hb]; exact hdg)
    (fun vm₁ hW₁ => ⟨hf.1, hf.2, hPc (T.setVm vm₁) hT hW₁⟩)
  dsimp only [Pt.U, Pt.locs, Pt.cells, Pt.slots] at X' e1 e2 h1 h2 h3 st
  subst h1; subst h2; subst h3
  exact ⟨v, (T.setVm vm₁).calling g' mk (Value.ref b :: As).toArray, t, U', L, hT, X', hL, e1, e2, hq, st⟩
section
variable {y : MethodName} {bytes cc : ByteArray} {maxL nL mc ms n index : Nat} {ret : Option FieldType} {ws : List Cond} {rm : Room} {Pc : Array Value → State → Prop} {Qc : Array Value → State → Outcome → State → Prop} {XC : String → State → State → Prop} {free : Addr → Prop} {Ts : List Cond} {own C : String} {b : Addr} {As rest : List Value} {g : JFrame}
theorem vx_runVX {hh : List (Nat × Nat × Nat × Nat)} (S : CallFix p m c cc nL s args Ts own) (hM : vx_Met l y ws rm Pc Qc XC mc ms free) (cw : vx_CVW R s args own C index y bytes maxL ret hh ws rm mc ms n) (hp : PreV s H C b Pc As)
    (hg : g.method = m) (hn : As.length = n) (hsize : g.locals.size = nL) (hstack : g.stack = As.reverse ++ .ref b :: rest) (hW : 2 * g.monitorRoom + (rest.map fun v => v.category).sum ≤ 8) (hdg : decode cc g.pc = .ok (.invokevirtual index, 3)) (hf : cells + mc ≤ R.cells ∧ slots + ms ≤ R.slots) :
    vx_Run p l e R s m args below meth c H locs cells slots mc ms g rest (Qc (Value.ref b :: As).toArray) XC free := by
  obtain ⟨⟨hrc, hrs, hfr, hlo, hws, hcw⟩, hcode, hini, hy, hlen, hl, hin, hse⟩ := cw
  have hK : vx_Back l R p e below s args y 3 8 (PreOf R mc ms Pc) (PostOf Qc mc ms free) (vx_Post XC mc ms free) := vx_backW (hh := hh) (bytes := bytes) (maxL := maxL) (ret := ret) hM hp.1 hrc hrs hfr hlo hws hcw (fun a' U hW => word_at hW (Or.inl (by first | rfl | simp [Cond.onTables, Cond.keeps, Cond.steady])) hini)
  obtain ⟨hx, hb, hml, ho, -⟩ := S
  obtain ⟨-, ⟨cellB, hcB, hoB, hclB⟩, hPc⟩ := hp
  intro T hT X
  rcases vx_callVX X hx (C := C) (hh := hh) (bytes := bytes) (maxL := maxL) (ret := ret) ho hl hin hse hcode hy hK (by rw [hT]; exact hcB) hoB hclB hg (hsize.trans hml.symm) (argsL := As) (rest := rest) (fun sig h => hn.trans (hlen sig h)) hstack hW (by rw [hb]; exact hdg)
    (fun vm₁ hW₁ => ⟨hf.1, hf.2, hPc (T.setVm vm₁) hT hW₁⟩) with ⟨v, vm₁, ⟨U', l2, c2, s2⟩, hW₁, X', ⟨g', mk, t, L, e1, e2, hq, h1, hL, h2, h3⟩, st⟩ | ⟨q, vm₁, ⟨U', l2, c2, s2⟩, hW₁, X', ⟨g', mk, t, L, E, ce, e1, e2, hq, hce, hcv, hcl, h1, hL, h2, h3⟩, st⟩
  · dsimp only [Pt.U, Pt.locs, Pt.cells, Pt.slots] at X' e1 e2 h1 h2 h3 st
    subst h1; subst h2; subst h3
    exact Or.inl ⟨v, (T.setVm vm₁).calling g' mk (Value.ref b :: As).toArray, t, U', L, hT, X', hL, e1, e2, hq, st⟩
  · dsimp only [Pt.U, Pt.locs, Pt.cells, Pt.slots] at X' e1 e2 h1 h2 h3 st hcl
    subst h1; subst h2; subst h3
    exact Or.inr ⟨q, (T.setVm vm₁).calling g' mk (Value.ref b :: As).toArray, t, U', L, E, ce, hT, X', hL, e1, e2, hq, hce, hcv, vx_cls hW₁ hcl, st⟩
theorem vx_runSX {hh : List (Nat × Nat × Nat × Nat)} (S : CallFix p m c cc nL s args Ts own) (hM : vx_Met l y ws rm Pc Qc XC mc ms free) (cw : vx_CSW R s args own index y bytes maxL ret hh ws rm mc ms n) (hp : PreS s H Pc As)
    (hg : g.method = m) (hn : As.length = n) (hsize : g.locals.size = nL) (hstack : g.stack = As.reverse ++ rest) (hW : 2 * g.monitorRoom + (rest.map fun v => v.category).sum ≤ 8) (hdg : decode cc g.pc = .ok (.invokestatic index, 3)) (hf : cells + mc ≤ R.cells ∧ slots + ms ≤ R.slots) :
    vx_Run p l e R s m args below meth c H locs cells slots mc ms g rest (Qc As.toArray) XC free := by
  obtain ⟨⟨hrc, hrs, hfr, hlo, hws, hcw⟩, hcode, hini, hy, hlen, hl, hstt⟩ := cw
  have hK : vx_Back l R p e below s args y 3 8 (PreOf R mc ms Pc) (PostOf Qc mc ms free) (vx_Post XC mc ms free) := vx_backW (hh := hh) (bytes := bytes) (maxL := maxL) (ret := ret) hM hp.1 hrc hrs hfr hlo hws hcw (fun a' U hW => word_at hW (Or.inl (by first | rfl | simp [Cond.onTables, Cond.keeps, Cond.steady])) hini)
  obtain ⟨hx, hb, hml, ho, -⟩ := S
  intro T hT X
  rcases vx_callSX X hx (hh := hh) (bytes := bytes) (maxL := maxL) (ret := ret) ho hl hstt hini hcode hy hK hg (hsize.trans hml.symm) (argsL := As) (rest := rest) (fun sig h => hn.trans (hlen sig h)) hstack hW (by rw [hb]; exact hdg)
    (fun vm₁ hW₁ => ⟨hf.1, hf.2, hp.2 (T.setVm vm₁) hT hW₁⟩) with ⟨v, vm₁, ⟨U', l2, c2, s2⟩, hW₁, X', ⟨g', mk, t, L, e1, e2, hq, h1, hL, h2, h3⟩, st⟩ | ⟨q, vm₁, ⟨U', l2, c2, s2⟩, hW₁, X', ⟨g', mk, t, L, E, ce, e1, e2, hq, hce, hcv, hcl, h1, hL, h2, h3⟩, st⟩
  · dsimp only [Pt.U, Pt.locs, Pt.cells, Pt.slots] at X' e1 e2 h1 h2 h3 st
    subst h1; subst h2; subst h3
    exact Or.inl ⟨v, (T.setVm vm₁).calling g' mk As.toArray, t, U', L, hT, X', hL, e1, e2, hq, st⟩
  · dsimp only [Pt.U, Pt.locs, Pt.cells, Pt.slots] at X' e1 e2 h1 h2 h3 st hcl
    subst h1; subst h2; subst h3
    exact Or.inr ⟨q, (T.setVm vm₁).calling g' mk As.toArray, t, U', L, E, ce, hT, X', hL, e1, e2, hq, hce, hcv, vx_cls hW₁ hcl, st⟩
end
end VXH
theorem vx_ofWH {l : Launch} {y : MethodName} {ws ws' : List Cond} {rm : Room} {Pc : Array Value → State → Prop} {Qc : Array Value → State → Outcome → State → Prop} {XC : String → State → State → Prop} {mc ms : Nat} {free : Addr → Prop} {cc : ByteArray} {maxL : Nat} {ret : Option FieldType} {hh : List (Nat × Nat × Nat × Nat)}
    (hy : plainName y.cls = true) (hw : ws = Cond.codeWith y cc maxL ret hh :: ws')
    (body : ∀ p e s m args below meth c s₁, BodyLoose p l y (headSpec ws rm) cc maxL ret e s m args below meth c s₁ → c.maxLocals = maxL → Pc args s →
      W p l e (headSpec ws rm).room s m args below meth c s.heap [] 0 0 (vx_MQ below Qc XC args s mc ms free) (entryFrame m args maxL)) : vx_Met l y ws rm Pc Qc XC mc ms free := by
  refine MetFree.of_bodyS (code := cc) (maxLocals := maxL) (ret := ret) hy ?_ ?_
  · intro args s m h hn
    obtain ⟨m9, meth, c, hn9, h1, h2, h3, h4, -, h5, h6, -⟩ := Cond.codeWith_spec (atoms_spec (ws := ws) h _ (by rw [hw]; exact List.mem_cons_self))
    cases hn.symm.trans hn9
    exact ⟨meth, c, h1, h2, h3, h4, h5, h6⟩
  · intro p e s m args below meth c s₁ B hml hP _
    have hh0 : s₁.heap = s.heap := by rw [B.state]; rfl
    obtain ⟨t, a1, o, b1, b2, b3⟩ := body p e s m args below meth c s₁ B hml hP s₁ hh0 (Stand.of_body B)
    exact ⟨t, o, a1, b1, b2, b3⟩
/-! ===== END ===== -/
end
section
/-! ===== BEGIN printed: names, fields, word lists, decode rows ===== -/
def RX0 : String := "BellRanks$Change"
def TX0 : u_T := fun k => match k with
  | 0 => ("BellRanks$Change", "row", "[I", true)
  | _ => ("BellRanks$Change", "size", "I", false)
def tyX0 : Nat → FieldType := fun k => match k with
  | 0 => .array .int
  | _ => .int
abbrev wsX00 : List Cond := u_ws RX0 TX0 2
theorem nmX0 : ∀ a, a < 2 → ∀ b, b < 2 → a ≠ b → (TX0 a).2.1 ≠ (TX0 b).2.1 := by decide +kernel
theorem tyX0_ok : ∀ k, k < 2 → parseFieldDescriptor (TX0 k).2.2.1 = some (tyX0 k) := by decide +kernel
abbrev cX0_init : ByteArray := prog_2_method_1_code
def yX0_init : MethodName := ⟨RX0, "<init>", "()V"⟩
abbrev cX0_bellAt : ByteArray := prog_2_method_2_code
def yX0_bellAt : MethodName := ⟨RX0, "bellAt", "(I)I"⟩
abbrev cX0_put : ByteArray := prog_2_method_3_code
def yX0_put : MethodName := ⟨RX0, "put", "(II)V"⟩
abbrev cX0_placeOf : ByteArray := prog_2_method_4_code
def yX0_placeOf : MethodName := ⟨RX0, "placeOf", "(I)I"⟩
abbrev cX0_isSame : ByteArray := prog_2_method_5_code
def yX0_isSame : MethodName := ⟨RX0, "isSame", "(LBellRanks$Change;)Z"⟩
abbrev cX0_rank : ByteArray := prog_2_method_6_code
def yX0_rank : MethodName := ⟨RX0, "rank", "()I"⟩
abbrev cX0_inversions : ByteArray := prog_2_method_7_code
def yX0_inversions : MethodName := ⟨RX0, "inversions", "()I"⟩
abbrev cX0_lesserBehind : ByteArray := prog_2_method_8_code
def yX0_lesserBehind : MethodName := ⟨RX0, "lesserBehind", "(I)I"⟩
abbrev cX0_setRank : ByteArray := prog_2_method_9_code
def yX0_setRank : MethodName := ⟨RX0, "setRank", "(II)V"⟩
abbrev cX0_insertAhead : ByteArray := prog_2_method_10_code
def yX0_insertAhead : MethodName := ⟨RX0, "insertAhead", "(II)V"⟩
abbrev cX0_setCopy : ByteArray := prog_2_method_11_code
def yX0_setCopy : MethodName := ⟨RX0, "setCopy", "(LBellRanks$Change;)V"⟩
abbrev cX0_setBehind : ByteArray := prog_2_method_12_code
def yX0_setBehind : MethodName := ⟨RX0, "setBehind", "(LBellRanks$Change;LBellRanks$Change;)V"⟩
abbrev cX0_setBack : ByteArray := prog_2_method_13_code
def yX0_setBack : MethodName := ⟨RX0, "setBack", "(LBellRanks$Change;)V"⟩
abbrev cX0_exchange : ByteArray := prog_2_method_16_code
def yX0_exchange : MethodName := ⟨RX0, "exchange", "(I)V"⟩
abbrev cX0_ringStep : ByteArray := prog_2_method_17_code
def yX0_ringStep : MethodName := ⟨RX0, "ringStep", "(I)V"⟩
abbrev cX0_ringLength : ByteArray := prog_2_method_18_code
def yX0_ringLength : MethodName := ⟨RX0, "ringLength", "(I)I"⟩
abbrev cX0_isLeastOfRing : ByteArray := prog_2_method_19_code
def yX0_isLeastOfRing : MethodName := ⟨RX0, "isLeastOfRing", "(I)Z"⟩
abbrev cX0_ringCount : ByteArray := prog_2_method_20_code
def yX0_ringCount : MethodName := ⟨RX0, "ringCount", "()I"⟩
abbrev cX0_longestRing : ByteArray := prog_2_method_21_code
def yX0_longestRing : MethodName := ⟨RX0, "longestRing", "()I"⟩
abbrev cX0_order : ByteArray := prog_2_method_22_code
def yX0_order : MethodName := ⟨RX0, "order", "()I"⟩
abbrev cX0_leastMultiple : ByteArray := prog_2_method_23_code
def yX0_leastMultiple : MethodName := ⟨RX0, "leastMultiple", "(II)I"⟩
abbrev cX0_ownPlaces : ByteArray := prog_2_method_24_code
def yX0_ownPlaces : MethodName := ⟨RX0, "ownPlaces", "()I"⟩
def RX1 : String := "BellRanks$Method"
def TX1 : u_T := fun k => match k with
  | 0 => ("BellRanks$Method", "steps", "[I", true)
  | _ => ("BellRanks$Method", "length", "I", false)
def tyX1 : Nat → FieldType := fun k => match k with
  | 0 => .array .int
  | _ => .int
abbrev wsX10 : List Cond := u_ws RX1 TX1 2
theorem nmX1 : ∀ a, a < 2 → ∀ b, b < 2 → a ≠ b → (TX1 a).2.1 ≠ (TX1 b).2.1 := by decide +kernel
theorem tyX1_ok : ∀ k, k < 2 → parseFieldDescriptor (TX1 k).2.2.1 = some (tyX1 k) := by decide +kernel
abbrev cX1_init : ByteArray := prog_3_method_1_code
def yX1_init : MethodName := ⟨RX1, "<init>", "()V"⟩
abbrev cX1_keeps : ByteArray := prog_3_method_2_code
def yX1_keeps : MethodName := ⟨RX1, "keeps", "(II)Z"⟩
abbrev cX1_isStep : ByteArray := prog_3_method_3_code
def yX1_isStep : MethodName := ⟨RX1, "isStep", "(II)Z"⟩
abbrev cX1_length : ByteArray := prog_3_method_4_code
def yX1_length : MethodName := ⟨RX1, "length", "()I"⟩
abbrev cX1_keptAt : ByteArray := prog_3_method_5_code
def yX1_keptAt : MethodName := ⟨RX1, "keptAt", "(I)I"⟩
abbrev cX1_add : ByteArray := prog_3_method_6_code
def yX1_add : MethodName := ⟨RX1, "add", "(I)V"⟩
abbrev cX1_removeAll : ByteArray := prog_3_method_7_code
def yX1_removeAll : MethodName := ⟨RX1, "removeAll", "()V"⟩
abbrev cX1_ringOn : ByteArray := prog_3_method_8_code
def yX1_ringOn : MethodName := ⟨RX1, "ringOn", "(LBellRanks$Change;I)V"⟩
def RX2 : String := "BellRanks$RankSet"
def TX2 : u_T := fun k => match k with
  | 0 => ("BellRanks$RankSet", "row", "[I", true)
  | _ => ("BellRanks$RankSet", "size", "I", false)
def tyX2 : Nat → FieldType := fun k => match k with
  | 0 => .array .int
  | _ => .int
abbrev wsX20 : List Cond := u_ws RX2 TX2 2
theorem nmX2 : ∀ a, a < 2 → ∀ b, b < 2 → a ≠ b → (TX2 a).2.1 ≠ (TX2 b).2.1 := by decide +kernel
theorem tyX2_ok : ∀ k, k < 2 → parseFieldDescriptor (TX2 k).2.2.1 = some (tyX2 k) := by decide +kernel
abbrev cX2_init : ByteArray := prog_4_method_1_code
def yX2_init : MethodName := ⟨RX2, "<init>", "()V"⟩
abbrev cX2_size : ByteArray := prog_4_method_2_code
def yX2_size : MethodName := ⟨RX2, "size", "()I"⟩
abbrev cX2_removeAll : ByteArray := prog_4_method_3_code
def yX2_removeAll : MethodName := ⟨RX2, "removeAll", "()V"⟩
abbrev cX2_add : ByteArray := prog_4_method_4_code
def yX2_add : MethodName := ⟨RX2, "add", "(I)V"⟩
def RX3 : String := "BellRanks"
def TX3 : u_T := fun k => match k with
  | 0 => ("BellRanks", "book", "[LBellRanks$Change;", true)
  | 1 => ("BellRanks", "method", "LBellRanks$Method;", true)
  | 2 => ("BellRanks", "rung", "LBellRanks$Change;", true)
  | 3 => ("BellRanks", "made", "LBellRanks$Change;", true)
  | 4 => ("BellRanks", "ranks", "LBellRanks$RankSet;", true)
  | 5 => ("BellRanks", "bells", "I", false)
  | 6 => ("BellRanks", "written", "I", false)
  | _ => ("BellRanks", "rungInAll", "I", false)
def tyX3 : Nat → FieldType := fun k => match k with
  | 0 => .array (.object "BellRanks$Change")
  | 1 => .object "BellRanks$Method"
  | 2 => .object "BellRanks$Change"
  | 3 => .object "BellRanks$Change"
  | 4 => .object "BellRanks$RankSet"
  | 5 => .int
  | 6 => .int
  | _ => .int
abbrev wsX30 : List Cond := u_ws RX3 TX3 8
theorem nmX3 : ∀ a, a < 8 → ∀ b, b < 8 → a ≠ b → (TX3 a).2.1 ≠ (TX3 b).2.1 := by decide +kernel
theorem tyX3_ok : ∀ k, k < 8 → parseFieldDescriptor (TX3 k).2.2.1 = some (tyX3 k) := by decide +kernel
abbrev cX3_init : ByteArray := prog_1_method_1_code
def yX3_init : MethodName := ⟨RX3, "<init>", "()V"⟩
abbrev cX3_setBells : ByteArray := prog_1_method_2_code
def yX3_setBells : MethodName := ⟨RX3, "setBells", "(I)I"⟩
abbrev cX3_write : ByteArray := prog_1_method_3_code
def yX3_write : MethodName := ⟨RX3, "write", "(I)I"⟩
abbrev cX3_swap : ByteArray := prog_1_method_4_code
def yX3_swap : MethodName := ⟨RX3, "swap", "(II)I"⟩
abbrev cX3_next : ByteArray := prog_1_method_5_code
def yX3_next : MethodName := ⟨RX3, "next", "(I)I"⟩
abbrev cX3_behind : ByteArray := prog_1_method_6_code
def yX3_behind : MethodName := ⟨RX3, "behind", "(II)I"⟩
abbrev cX3_back : ByteArray := prog_1_method_7_code
def yX3_back : MethodName := ⟨RX3, "back", "(I)I"⟩
abbrev cX3_step : ByteArray := prog_1_method_9_code
def yX3_step : MethodName := ⟨RX3, "step", "(I)I"⟩
abbrev cX3_ring : ByteArray := prog_1_method_11_code
def yX3_ring : MethodName := ⟨RX3, "ring", "(II)I"⟩
abbrev cX3_bell : ByteArray := prog_1_method_12_code
def yX3_bell : MethodName := ⟨RX3, "bell", "(II)I"⟩
abbrev cX3_told : ByteArray := prog_1_method_13_code
def yX3_told : MethodName := ⟨RX3, "told", "(II)I"⟩
abbrev cX3_round : ByteArray := prog_1_method_14_code
def yX3_round : MethodName := ⟨RX3, "round", "(II)I"⟩
abbrev cX3_apart : ByteArray := prog_1_method_15_code
def yX3_apart : MethodName := ⟨RX3, "apart", "(II)I"⟩
abbrev cX3_count : ByteArray := prog_1_method_16_code
def yX3_count : MethodName := ⟨RX3, "count", "(I)I"⟩
abbrev cX3_kept : ByteArray := prog_1_method_17_code
def yX3_kept : MethodName := ⟨RX3, "kept", "(I)I"⟩
abbrev cX3_comes : ByteArray := prog_1_method_18_code
def yX3_comes : MethodName := ⟨RX3, "comes", "(I)I"⟩
abbrev cX3_differ : ByteArray := prog_1_method_19_code
def yX3_differ : MethodName := ⟨RX3, "differ", "(I)I"⟩
abbrev cX3_advise : ByteArray := prog_1_method_20_code
def yX3_advise : MethodName := ⟨RX3, "advise", "(I)I"⟩
abbrev cX3_digest : ByteArray := prog_1_method_22_code
def yX3_digest : MethodName := ⟨RX3, "digest", "()J"⟩
abbrev cX3_find : ByteArray := prog_1_method_23_code
def yX3_find : MethodName := ⟨RX3, "find", "(I)LBellRanks$Change;"⟩
abbrev cX3_openPage : ByteArray := prog_1_method_24_code
def yX3_openPage : MethodName := ⟨RX3, "openPage", "()LBellRanks$Change;"⟩
abbrev cX3_checkPlace : ByteArray := prog_1_method_25_code
def yX3_checkPlace : MethodName := ⟨RX3, "checkPlace", "(I)V"⟩
abbrev cX3_checkSteps : ByteArray := prog_1_method_26_code
def yX3_checkSteps : MethodName := ⟨RX3, "checkSteps", "(I)V"⟩
abbrev cX3_differentInBook : ByteArray := prog_1_method_27_code
def yX3_differentInBook : MethodName := ⟨RX3, "differentInBook", "()I"⟩
abbrev cX3_changesOf : ByteArray := prog_1_method_28_code
def yX3_changesOf : MethodName := ⟨RX3, "changesOf", "(I)I"⟩
def RX4 : String := "BellRanksModel"
def TX4 : u_T := fun k => match k with
  | _ => ("", "", "", false)
def tyX4 : Nat → FieldType := fun k => match k with
  | _ => .int
abbrev wsX40 : List Cond := u_ws RX4 TX4 0
theorem nmX4 : ∀ a, a < 0 → ∀ b, b < 0 → a ≠ b → (TX4 a).2.1 ≠ (TX4 b).2.1 := by decide +kernel
theorem tyX4_ok : ∀ k, k < 0 → parseFieldDescriptor (TX4 k).2.2.1 = some (tyX4 k) := by decide +kernel
def RJ9 : String := "java/lang/Math"
def TJ9 : u_T := fun k => match k with
  | _ => ("", "", "", false)
def tyJ9 : Nat → FieldType := fun k => match k with
  | _ => .int
abbrev wsJ90 : List Cond := u_ws RJ9 TJ9 0
theorem nmJ9 : ∀ a, a < 0 → ∀ b, b < 0 → a ≠ b → (TJ9 a).2.1 ≠ (TJ9 b).2.1 := by decide +kernel
theorem tyJ9_ok : ∀ k, k < 0 → parseFieldDescriptor (TJ9 k).2.2.1 = some (tyJ9 k) := by decide +kernel
abbrev cJ9_max_7cf53 : ByteArray := prog_11_method_65_code
def yJ9_max_7cf53 : MethodName := ⟨RJ9, "max", "(II)I"⟩
def RJ0 : String := "java/lang/String"
def TJ0 : u_T := fun k => match k with
  | _ => ("", "", "", false)
def tyJ0 : Nat → FieldType := fun k => match k with
  | _ => .int
abbrev wsJ00 : List Cond := u_ws RJ0 TJ0 0
theorem nmJ0 : ∀ a, a < 0 → ∀ b, b < 0 → a ≠ b → (TJ0 a).2.1 ≠ (TJ0 b).2.1 := by decide +kernel
theorem tyJ0_ok : ∀ k, k < 0 → parseFieldDescriptor (TJ0 k).2.2.1 = some (tyJ0 k) := by decide +kernel
def RL : String := "BellRanksLaw"
abbrev cL_below : ByteArray := method_2_code
def yL_below : MethodName := ⟨RL, "below", "(II)I"⟩
abbrev cL_cell : ByteArray := method_3_code
def yL_cell : MethodName := ⟨RL, "cell", "([II)I"⟩
abbrev cL_product : ByteArray := method_4_code
def yL_product : MethodName := ⟨RL, "product", "(I)I"⟩
abbrev cL_bellsOf : ByteArray := method_5_code
def yL_bellsOf : MethodName := ⟨RL, "bellsOf", "([I)I"⟩
abbrev cL_tower : ByteArray := method_6_code
def yL_tower : MethodName := ⟨RL, "tower", "([I)LBellRanks;"⟩
abbrev cL_steps : ByteArray := method_7_code
def yL_steps : MethodName := ⟨RL, "steps", "(LBellRanks;[II)I"⟩
abbrev cL_keptOf : ByteArray := method_8_code
def yL_keptOf : MethodName := ⟨RL, "keptOf", "([III)I"⟩
abbrev cL_law : ByteArray := code
def yL_law : MethodName := ⟨RL, "law", "([I)Z"⟩
def wsX0_init : List Cond := .code yX0_init cX0_init 1 none :: ([.methodLink RX0 3 objectInit, .instanceMethod objectInit, .code objectInit ⟨#[0xb1]⟩ 1 none, .arrayClass .int, .fieldLink RX0 9 "BellRanks$Change" "row" "[I", .fieldLink RX0 15 "BellRanks$Change" "size" "I"] ++ wsX00)
def wsX0_bellAt : List Cond := .code yX0_bellAt cX0_bellAt 2 (some .int) :: ([.fieldLink RX0 9 "BellRanks$Change" "row" "[I"] ++ wsX00)
def wsX0_put : List Cond := .code yX0_put cX0_put 3 none :: ([.fieldLink RX0 9 "BellRanks$Change" "row" "[I"] ++ wsX00)
def wsX0_placeOf : List Cond := .code yX0_placeOf cX0_placeOf 3 (some .int) :: ([.fieldLink RX0 15 "BellRanks$Change" "size" "I", .methodLink RX0 19 yX0_bellAt, .instanceMethod yX0_bellAt, .selects RX0 yX0_bellAt yX0_bellAt, .initialized RX0, .code yX0_bellAt cX0_bellAt 2 (some .int), .fieldLink RX0 9 "BellRanks$Change" "row" "[I"] ++ wsX00)
def wsX0_isSame : List Cond := .code yX0_isSame cX0_isSame 3 (some .boolean) :: ([.fieldLink RX0 15 "BellRanks$Change" "size" "I", .methodLink RX0 19 yX0_bellAt, .instanceMethod yX0_bellAt, .selects RX0 yX0_bellAt yX0_bellAt, .initialized RX0, .code yX0_bellAt cX0_bellAt 2 (some .int), .fieldLink RX0 9 "BellRanks$Change" "row" "[I"] ++ wsX00)
def wsX0_lesserBehind : List Cond := .code yX0_lesserBehind cX0_lesserBehind 4 (some .int) :: ([.fieldLink RX0 15 "BellRanks$Change" "size" "I", .methodLink RX0 19 yX0_bellAt, .instanceMethod yX0_bellAt, .selects RX0 yX0_bellAt yX0_bellAt, .initialized RX0, .code yX0_bellAt cX0_bellAt 2 (some .int), .fieldLink RX0 9 "BellRanks$Change" "row" "[I"] ++ wsX00)
def wsX0_rank : List Cond := .code yX0_rank cX0_rank 3 (some .int) :: ([.fieldLink RX0 15 "BellRanks$Change" "size" "I", .methodLink RX0 23 yX0_lesserBehind, .instanceMethod yX0_lesserBehind, .selects RX0 yX0_lesserBehind yX0_lesserBehind, .initialized RX0, .code yX0_lesserBehind cX0_lesserBehind 4 (some .int), .methodLink RX0 19 yX0_bellAt, .instanceMethod yX0_bellAt, .selects RX0 yX0_bellAt yX0_bellAt, .code yX0_bellAt cX0_bellAt 2 (some .int), .fieldLink RX0 9 "BellRanks$Change" "row" "[I"] ++ wsX00)
def wsX0_inversions : List Cond := .code yX0_inversions cX0_inversions 3 (some .int) :: ([.fieldLink RX0 15 "BellRanks$Change" "size" "I", .methodLink RX0 23 yX0_lesserBehind, .instanceMethod yX0_lesserBehind, .selects RX0 yX0_lesserBehind yX0_lesserBehind, .initialized RX0, .code yX0_lesserBehind cX0_lesserBehind 4 (some .int), .methodLink RX0 19 yX0_bellAt, .instanceMethod yX0_bellAt, .selects RX0 yX0_bellAt yX0_bellAt, .code yX0_bellAt cX0_bellAt 2 (some .int), .fieldLink RX0 9 "BellRanks$Change" "row" "[I"] ++ wsX00)
def wsX0_insertAhead : List Cond := .code yX0_insertAhead cX0_insertAhead 4 none :: ([.fieldLink RX0 15 "BellRanks$Change" "size" "I", .methodLink RX0 30 yX0_put, .instanceMethod yX0_put, .selects RX0 yX0_put yX0_put, .initialized RX0, .code yX0_put cX0_put 3 none, .fieldLink RX0 9 "BellRanks$Change" "row" "[I", .methodLink RX0 19 yX0_bellAt, .instanceMethod yX0_bellAt, .selects RX0 yX0_bellAt yX0_bellAt, .code yX0_bellAt cX0_bellAt 2 (some .int)] ++ wsX00)
def wsX0_setRank : List Cond := .code yX0_setRank cX0_setRank 5 none :: ([.fieldLink RX0 15 "BellRanks$Change" "size" "I", .methodLink RX0 26 yX0_insertAhead, .instanceMethod yX0_insertAhead, .selects RX0 yX0_insertAhead yX0_insertAhead, .initialized RX0, .code yX0_insertAhead cX0_insertAhead 4 none, .methodLink RX0 30 yX0_put, .instanceMethod yX0_put, .selects RX0 yX0_put yX0_put, .code yX0_put cX0_put 3 none, .fieldLink RX0 9 "BellRanks$Change" "row" "[I", .methodLink RX0 19 yX0_bellAt, .instanceMethod yX0_bellAt, .selects RX0 yX0_bellAt yX0_bellAt, .code yX0_bellAt cX0_bellAt 2 (some .int)] ++ wsX00)
def wsX0_setCopy : List Cond := .code yX0_setCopy cX0_setCopy 3 none :: ([.fieldLink RX0 15 "BellRanks$Change" "size" "I", .methodLink RX0 19 yX0_bellAt, .instanceMethod yX0_bellAt, .selects RX0 yX0_bellAt yX0_bellAt, .initialized RX0, .code yX0_bellAt cX0_bellAt 2 (some .int), .fieldLink RX0 9 "BellRanks$Change" "row" "[I", .methodLink RX0 30 yX0_put, .instanceMethod yX0_put, .selects RX0 yX0_put yX0_put, .code yX0_put cX0_put 3 none] ++ wsX00)
def wsX0_setBehind : List Cond := .code yX0_setBehind cX0_setBehind 4 none :: ([.fieldLink RX0 15 "BellRanks$Change" "size" "I", .methodLink RX0 19 yX0_bellAt, .instanceMethod yX0_bellAt, .selects RX0 yX0_bellAt yX0_bellAt, .initialized RX0, .code yX0_bellAt cX0_bellAt 2 (some .int), .fieldLink RX0 9 "BellRanks$Change" "row" "[I", .methodLink RX0 30 yX0_put, .instanceMethod yX0_put, .selects RX0 yX0_put yX0_put, .code yX0_put cX0_put 3 none] ++ wsX00)
def wsX0_setBack : List Cond := .code yX0_setBack cX0_setBack 3 none :: ([.fieldLink RX0 15 "BellRanks$Change" "size" "I", .methodLink RX0 19 yX0_bellAt, .instanceMethod yX0_bellAt, .selects RX0 yX0_bellAt yX0_bellAt, .initialized RX0, .code yX0_bellAt cX0_bellAt 2 (some .int), .fieldLink RX0 9 "BellRanks$Change" "row" "[I", .methodLink RX0 30 yX0_put, .instanceMethod yX0_put, .selects RX0 yX0_put yX0_put, .code yX0_put cX0_put 3 none] ++ wsX00)
def wsX0_exchange : List Cond := .code yX0_exchange cX0_exchange 3 none :: ([.methodLink RX0 19 yX0_bellAt, .instanceMethod yX0_bellAt, .selects RX0 yX0_bellAt yX0_bellAt, .initialized RX0, .code yX0_bellAt cX0_bellAt 2 (some .int), .fieldLink RX0 9 "BellRanks$Change" "row" "[I", .methodLink RX0 30 yX0_put, .instanceMethod yX0_put, .selects RX0 yX0_put yX0_put, .code yX0_put cX0_put 3 none] ++ wsX00)
def wsX1_keeps : List Cond := .code yX1_keeps cX1_keeps 2 (some .boolean) :: ([])
def wsX0_ringStep : List Cond := .code yX0_ringStep cX0_ringStep 3 none :: ([.fieldLink RX0 15 "BellRanks$Change" "size" "I", .methodLink RX0 40 yX1_keeps, .static yX1_keeps, .initialized RX1, .code yX1_keeps cX1_keeps 2 (some .boolean), .methodLink RX0 46 yX0_exchange, .instanceMethod yX0_exchange, .selects RX0 yX0_exchange yX0_exchange, .initialized RX0, .code yX0_exchange cX0_exchange 3 none, .methodLink RX0 19 yX0_bellAt, .instanceMethod yX0_bellAt, .selects RX0 yX0_bellAt yX0_bellAt, .code yX0_bellAt cX0_bellAt 2 (some .int), .fieldLink RX0 9 "BellRanks$Change" "row" "[I", .methodLink RX0 30 yX0_put, .instanceMethod yX0_put, .selects RX0 yX0_put yX0_put, .code yX0_put cX0_put 3 none] ++ wsX00)
def wsX0_ringLength : List Cond := .code yX0_ringLength cX0_ringLength 4 (some .int) :: ([.fieldLink RX0 15 "BellRanks$Change" "size" "I", .methodLink RX0 19 yX0_bellAt, .instanceMethod yX0_bellAt, .selects RX0 yX0_bellAt yX0_bellAt, .initialized RX0, .code yX0_bellAt cX0_bellAt 2 (some .int), .fieldLink RX0 9 "BellRanks$Change" "row" "[I"] ++ wsX00)
def wsX0_isLeastOfRing : List Cond := .code yX0_isLeastOfRing cX0_isLeastOfRing 4 (some .boolean) :: ([.fieldLink RX0 15 "BellRanks$Change" "size" "I", .methodLink RX0 19 yX0_bellAt, .instanceMethod yX0_bellAt, .selects RX0 yX0_bellAt yX0_bellAt, .initialized RX0, .code yX0_bellAt cX0_bellAt 2 (some .int), .fieldLink RX0 9 "BellRanks$Change" "row" "[I"] ++ wsX00)
def wsX0_ringCount : List Cond := .code yX0_ringCount cX0_ringCount 3 (some .int) :: ([.fieldLink RX0 15 "BellRanks$Change" "size" "I", .methodLink RX0 50 yX0_isLeastOfRing, .instanceMethod yX0_isLeastOfRing, .selects RX0 yX0_isLeastOfRing yX0_isLeastOfRing, .initialized RX0, .code yX0_isLeastOfRing cX0_isLeastOfRing 4 (some .boolean), .methodLink RX0 19 yX0_bellAt, .instanceMethod yX0_bellAt, .selects RX0 yX0_bellAt yX0_bellAt, .code yX0_bellAt cX0_bellAt 2 (some .int), .fieldLink RX0 9 "BellRanks$Change" "row" "[I"] ++ wsX00)
def wsX0_longestRing : List Cond := .code yX0_longestRing cX0_longestRing 3 (some .int) :: ([.fieldLink RX0 15 "BellRanks$Change" "size" "I", .methodLink RX0 54 Lib.Math.max.name, .static Lib.Math.max.name, .initialized "java/lang/Math", .code Lib.Math.max.name Lib.Math.max.code 2 (some .int), .methodLink RX0 33 yX0_ringLength, .instanceMethod yX0_ringLength, .selects RX0 yX0_ringLength yX0_ringLength, .initialized RX0, .code yX0_ringLength cX0_ringLength 4 (some .int), .methodLink RX0 19 yX0_bellAt, .instanceMethod yX0_bellAt, .selects RX0 yX0_bellAt yX0_bellAt, .code yX0_bellAt cX0_bellAt 2 (some .int), .fieldLink RX0 9 "BellRanks$Change" "row" "[I"] ++ wsX00)
def wsX0_leastMultiple : List Cond := .code yX0_leastMultiple cX0_leastMultiple 4 (some .int) :: ([])
def wsX0_order : List Cond := .code yX0_order cX0_order 3 (some .int) :: ([.fieldLink RX0 15 "BellRanks$Change" "size" "I", .methodLink RX0 33 yX0_ringLength, .instanceMethod yX0_ringLength, .selects RX0 yX0_ringLength yX0_ringLength, .initialized RX0, .code yX0_ringLength cX0_ringLength 4 (some .int), .methodLink RX0 19 yX0_bellAt, .instanceMethod yX0_bellAt, .selects RX0 yX0_bellAt yX0_bellAt, .code yX0_bellAt cX0_bellAt 2 (some .int), .fieldLink RX0 9 "BellRanks$Change" "row" "[I", .methodLink RX0 59 yX0_leastMultiple, .static yX0_leastMultiple, .code yX0_leastMultiple cX0_leastMultiple 4 (some .int)] ++ wsX00)
def wsX0_ownPlaces : List Cond := .code yX0_ownPlaces cX0_ownPlaces 3 (some .int) :: ([.fieldLink RX0 15 "BellRanks$Change" "size" "I", .methodLink RX0 19 yX0_bellAt, .instanceMethod yX0_bellAt, .selects RX0 yX0_bellAt yX0_bellAt, .initialized RX0, .code yX0_bellAt cX0_bellAt 2 (some .int), .fieldLink RX0 9 "BellRanks$Change" "row" "[I"] ++ wsX00)
def wsX1_init : List Cond := .code yX1_init cX1_init 1 none :: ([.methodLink RX1 3 objectInit, .instanceMethod objectInit, .code objectInit ⟨#[0xb1]⟩ 1 none, .arrayClass .int, .fieldLink RX1 9 "BellRanks$Method" "steps" "[I", .fieldLink RX1 15 "BellRanks$Method" "length" "I"] ++ wsX10)
def wsX1_isStep : List Cond := .code yX1_isStep cX1_isStep 3 (some .boolean) :: ([.methodLink RX1 19 yX1_keeps, .static yX1_keeps, .initialized RX1, .code yX1_keeps cX1_keeps 2 (some .boolean)])
def wsX1_length : List Cond := .code yX1_length cX1_length 1 (some .int) :: ([.fieldLink RX1 15 "BellRanks$Method" "length" "I"] ++ wsX10)
def wsX1_keptAt : List Cond := .code yX1_keptAt cX1_keptAt 2 (some .int) :: ([.fieldLink RX1 9 "BellRanks$Method" "steps" "[I"] ++ wsX10)
def wsX1_add : List Cond := .code yX1_add cX1_add 2 none :: ([.fieldLink RX1 15 "BellRanks$Method" "length" "I", .fieldLink RX1 9 "BellRanks$Method" "steps" "[I"] ++ wsX10)
def wsX1_removeAll : List Cond := .code yX1_removeAll cX1_removeAll 1 none :: ([.fieldLink RX1 15 "BellRanks$Method" "length" "I"] ++ wsX10)
def wsX1_ringOn_r1 : List Cond := [Cond.fieldLink RX1 15 "BellRanks$Method" "length" "I", Cond.methodLink RX1 23 yX1_keptAt, Cond.instanceMethod yX1_keptAt, Cond.selects RX1 yX1_keptAt yX1_keptAt, Cond.initialized RX1, Cond.code yX1_keptAt cX1_keptAt 2 (some .int), Cond.fieldLink RX1 9 "BellRanks$Method" "steps" "[I", Cond.methodLink RX1 27 yX0_ringStep, Cond.instanceMethod yX0_ringStep, Cond.selects RX0 yX0_ringStep yX0_ringStep, Cond.initialized RX0, Cond.code yX0_ringStep cX0_ringStep 3 none, Cond.fieldLink RX0 15 "BellRanks$Change" "size" "I", Cond.methodLink RX0 40 yX1_keeps, Cond.static yX1_keeps, Cond.code yX1_keeps cX1_keeps 2 (some .boolean), Cond.methodLink RX0 46 yX0_exchange, Cond.instanceMethod yX0_exchange, Cond.selects RX0 yX0_exchange yX0_exchange, Cond.code yX0_exchange cX0_exchange 3 none, Cond.methodLink RX0 19 yX0_bellAt, Cond.instanceMethod yX0_bellAt, Cond.selects RX0 yX0_bellAt yX0_bellAt, Cond.code yX0_bellAt cX0_bellAt 2 (some .int)]
def wsX1_ringOn_r2 : List Cond := [Cond.fieldLink RX0 9 "BellRanks$Change" "row" "[I", Cond.methodLink RX0 30 yX0_put, Cond.instanceMethod yX0_put, Cond.selects RX0 yX0_put yX0_put, Cond.code yX0_put cX0_put 3 none]
def wsX1_ringOn : List Cond := .code yX1_ringOn cX1_ringOn 3 none :: ((wsX1_ringOn_r1 ++ wsX1_ringOn_r2) ++ wsX10 ++ wsX00)
def wsX2_init : List Cond := .code yX2_init cX2_init 1 none :: ([.methodLink RX2 3 objectInit, .instanceMethod objectInit, .code objectInit ⟨#[0xb1]⟩ 1 none, .arrayClass .int, .fieldLink RX2 9 "BellRanks$RankSet" "row" "[I", .fieldLink RX2 15 "BellRanks$RankSet" "size" "I"] ++ wsX20)
def wsX2_size : List Cond := .code yX2_size cX2_size 1 (some .int) :: ([.fieldLink RX2 15 "BellRanks$RankSet" "size" "I"] ++ wsX20)
def wsX2_removeAll : List Cond := .code yX2_removeAll cX2_removeAll 1 none :: ([.fieldLink RX2 15 "BellRanks$RankSet" "size" "I"] ++ wsX20)
def wsX2_add : List Cond := .code yX2_add cX2_add 3 none :: ([.fieldLink RX2 15 "BellRanks$RankSet" "size" "I", .fieldLink RX2 9 "BellRanks$RankSet" "row" "[I"] ++ wsX20)
def wsX3_init_r1 : List Cond := [Cond.methodLink RX3 1 objectInit, Cond.instanceMethod objectInit, Cond.code objectInit ⟨#[0xb1]⟩ 1 none, Cond.classLink RX3 9 RX0, Cond.fieldLink RX3 11 "BellRanks" "book" "[LBellRanks$Change;", Cond.instantiable RX0 2, Cond.initialized RX0, Cond.classLink RX3 16 RX1, Cond.instantiable RX1 2, Cond.initialized RX1, Cond.fieldLink RX3 19 "BellRanks" "method" "LBellRanks$Method;", Cond.fieldLink RX3 23 "BellRanks" "rung" "LBellRanks$Change;", Cond.fieldLink RX3 27 "BellRanks" "made" "LBellRanks$Change;", Cond.classLink RX3 30 RX2, Cond.instantiable RX2 2, Cond.initialized RX2, Cond.fieldLink RX3 33 "BellRanks" "ranks" "LBellRanks$RankSet;", Cond.fieldLink RX3 37 "BellRanks" "bells" "I", Cond.fieldLink RX3 41 "BellRanks" "written" "I", Cond.fieldLink RX3 44 "BellRanks" "rungInAll" "I", Cond.methodLink RX3 15 yX0_init, Cond.instanceMethod yX0_init, Cond.code yX0_init cX0_init 1 none, Cond.methodLink RX0 3 objectInit]
def wsX3_init_r2 : List Cond := [Cond.arrayClass .int, Cond.fieldLink RX0 9 "BellRanks$Change" "row" "[I", Cond.fieldLink RX0 15 "BellRanks$Change" "size" "I", Cond.methodLink RX3 18 yX1_init, Cond.instanceMethod yX1_init, Cond.code yX1_init cX1_init 1 none, Cond.methodLink RX1 3 objectInit, Cond.fieldLink RX1 9 "BellRanks$Method" "steps" "[I", Cond.fieldLink RX1 15 "BellRanks$Method" "length" "I", Cond.methodLink RX3 32 yX2_init, Cond.instanceMethod yX2_init, Cond.code yX2_init cX2_init 1 none, Cond.methodLink RX2 3 objectInit, Cond.fieldLink RX2 9 "BellRanks$RankSet" "row" "[I", Cond.fieldLink RX2 15 "BellRanks$RankSet" "size" "I"]
def wsX3_init : List Cond := .code yX3_init cX3_init 2 none :: ((wsX3_init_r1 ++ wsX3_init_r2) ++ wsX30 ++ wsX00 ++ wsX10 ++ wsX20)
def wsX3_setBells : List Cond := .code yX3_setBells cX3_setBells 3 (some .int) :: ([.classLink RX3 47 "java/lang/IllegalArgumentException", .initialized "java/lang/IllegalArgumentException", .fieldLink RX3 37 "BellRanks" "bells" "I", .fieldLink RX3 41 "BellRanks" "written" "I", .fieldLink RX3 19 "BellRanks" "method" "LBellRanks$Method;", .methodLink RX3 54 yX1_removeAll, .instanceMethod yX1_removeAll, .selects RX1 yX1_removeAll yX1_removeAll, .initialized RX1, .code yX1_removeAll cX1_removeAll 1 none, .fieldLink RX1 15 "BellRanks$Method" "length" "I"] ++ wsX30 ++ wsX10 ++ (vx_atS RX3 51 "java/lang/IllegalArgumentException" ["java/lang/RuntimeException", "java/lang/Exception"]).filter goodWord)
def wsX3_changesOf : List Cond := .code yX3_changesOf cX3_changesOf 3 (some .int) :: ([])
def wsX3_openPage : List Cond := .code yX3_openPage cX3_openPage 2 (some (.object "BellRanks$Change")) :: ([.classLink RX3 114 "java/lang/IllegalStateException", .initialized "java/lang/IllegalStateException", .fieldLink RX3 41 "BellRanks" "written" "I", .fieldLink RX3 11 "BellRanks" "book" "[LBellRanks$Change;"] ++ wsX30 ++ (vx_atS RX3 118 "java/lang/IllegalStateException" ["java/lang/RuntimeException", "java/lang/Exception"]).filter goodWord)
def wsX3_write_r1 : List Cond := [Cond.classLink RX3 61 "java/lang/IndexOutOfBoundsException", Cond.initialized "java/lang/IndexOutOfBoundsException", Cond.fieldLink RX3 37 "BellRanks" "bells" "I", Cond.fieldLink RX3 41 "BellRanks" "written" "I", Cond.methodLink RX3 57 yX3_changesOf, Cond.static yX3_changesOf, Cond.initialized RX3, Cond.code yX3_changesOf cX3_changesOf 3 (some .int), Cond.methodLink RX3 66 yX3_openPage, Cond.instanceMethod yX3_openPage, Cond.selects RX3 yX3_openPage yX3_openPage, Cond.code yX3_openPage cX3_openPage 2 (some (.object "BellRanks$Change")), Cond.classLink RX3 114 "java/lang/IllegalStateException", Cond.initialized "java/lang/IllegalStateException", Cond.fieldLink RX3 11 "BellRanks" "book" "[LBellRanks$Change;", Cond.methodLink RX3 70 yX0_setRank, Cond.instanceMethod yX0_setRank, Cond.selects RX0 yX0_setRank yX0_setRank, Cond.initialized RX0, Cond.code yX0_setRank cX0_setRank 5 none, Cond.fieldLink RX0 15 "BellRanks$Change" "size" "I", Cond.methodLink RX0 26 yX0_insertAhead, Cond.instanceMethod yX0_insertAhead, Cond.selects RX0 yX0_insertAhead yX0_insertAhead]
def wsX3_write_r2 : List Cond := [Cond.code yX0_insertAhead cX0_insertAhead 4 none, Cond.methodLink RX0 30 yX0_put, Cond.instanceMethod yX0_put, Cond.selects RX0 yX0_put yX0_put, Cond.code yX0_put cX0_put 3 none, Cond.fieldLink RX0 9 "BellRanks$Change" "row" "[I", Cond.methodLink RX0 19 yX0_bellAt, Cond.instanceMethod yX0_bellAt, Cond.selects RX0 yX0_bellAt yX0_bellAt, Cond.code yX0_bellAt cX0_bellAt 2 (some .int)]
def wsX3_write : List Cond := .code yX3_write cX3_write 3 (some .int) :: ((wsX3_write_r1 ++ wsX3_write_r2) ++ wsX30 ++ wsX00 ++ (vx_atS RX3 65 "java/lang/IndexOutOfBoundsException" ["java/lang/RuntimeException", "java/lang/Exception"]).filter goodWord ++ (vx_atS RX3 118 "java/lang/IllegalStateException" ["java/lang/RuntimeException", "java/lang/Exception"]).filter goodWord)
def wsX3_find : List Cond := .code yX3_find cX3_find 2 (some (.object "BellRanks$Change")) :: ([.classLink RX3 61 "java/lang/IndexOutOfBoundsException", .initialized "java/lang/IndexOutOfBoundsException", .fieldLink RX3 41 "BellRanks" "written" "I", .fieldLink RX3 11 "BellRanks" "book" "[LBellRanks$Change;"] ++ wsX30 ++ (vx_atS RX3 65 "java/lang/IndexOutOfBoundsException" ["java/lang/RuntimeException", "java/lang/Exception"]).filter goodWord)
def wsX3_swap_r1 : List Cond := [Cond.classLink RX3 61 "java/lang/IndexOutOfBoundsException", Cond.initialized "java/lang/IndexOutOfBoundsException", Cond.fieldLink RX3 37 "BellRanks" "bells" "I", Cond.methodLink RX3 74 yX3_find, Cond.instanceMethod yX3_find, Cond.selects RX3 yX3_find yX3_find, Cond.initialized RX3, Cond.code yX3_find cX3_find 2 (some (.object "BellRanks$Change")), Cond.fieldLink RX3 41 "BellRanks" "written" "I", Cond.fieldLink RX3 11 "BellRanks" "book" "[LBellRanks$Change;", Cond.methodLink RX3 80 yX0_exchange, Cond.instanceMethod yX0_exchange, Cond.selects RX0 yX0_exchange yX0_exchange, Cond.initialized RX0, Cond.code yX0_exchange cX0_exchange 3 none, Cond.methodLink RX0 19 yX0_bellAt, Cond.instanceMethod yX0_bellAt, Cond.selects RX0 yX0_bellAt yX0_bellAt, Cond.code yX0_bellAt cX0_bellAt 2 (some .int), Cond.fieldLink RX0 9 "BellRanks$Change" "row" "[I", Cond.methodLink RX0 30 yX0_put, Cond.instanceMethod yX0_put, Cond.selects RX0 yX0_put yX0_put, Cond.code yX0_put cX0_put 3 none]
def wsX3_swap_r2 : List Cond := [Cond.methodLink RX3 84 yX0_rank, Cond.instanceMethod yX0_rank, Cond.selects RX0 yX0_rank yX0_rank, Cond.code yX0_rank cX0_rank 3 (some .int), Cond.fieldLink RX0 15 "BellRanks$Change" "size" "I", Cond.methodLink RX0 23 yX0_lesserBehind, Cond.instanceMethod yX0_lesserBehind, Cond.selects RX0 yX0_lesserBehind yX0_lesserBehind, Cond.code yX0_lesserBehind cX0_lesserBehind 4 (some .int)]
def wsX3_swap : List Cond := .code yX3_swap cX3_swap 4 (some .int) :: ((wsX3_swap_r1 ++ wsX3_swap_r2) ++ wsX30 ++ wsX00 ++ (vx_atS RX3 65 "java/lang/IndexOutOfBoundsException" ["java/lang/RuntimeException", "java/lang/Exception"]).filter goodWord)
def wsX3_next_r1 : List Cond := [Cond.fieldLink RX3 37 "BellRanks" "bells" "I", Cond.methodLink RX3 74 yX3_find, Cond.instanceMethod yX3_find, Cond.selects RX3 yX3_find yX3_find, Cond.initialized RX3, Cond.code yX3_find cX3_find 2 (some (.object "BellRanks$Change")), Cond.classLink RX3 61 "java/lang/IndexOutOfBoundsException", Cond.initialized "java/lang/IndexOutOfBoundsException", Cond.fieldLink RX3 41 "BellRanks" "written" "I", Cond.fieldLink RX3 11 "BellRanks" "book" "[LBellRanks$Change;", Cond.methodLink RX3 84 yX0_rank, Cond.instanceMethod yX0_rank, Cond.selects RX0 yX0_rank yX0_rank, Cond.initialized RX0, Cond.code yX0_rank cX0_rank 3 (some .int), Cond.fieldLink RX0 15 "BellRanks$Change" "size" "I", Cond.methodLink RX0 23 yX0_lesserBehind, Cond.instanceMethod yX0_lesserBehind, Cond.selects RX0 yX0_lesserBehind yX0_lesserBehind, Cond.code yX0_lesserBehind cX0_lesserBehind 4 (some .int), Cond.methodLink RX0 19 yX0_bellAt, Cond.instanceMethod yX0_bellAt, Cond.selects RX0 yX0_bellAt yX0_bellAt, Cond.code yX0_bellAt cX0_bellAt 2 (some .int)]
def wsX3_next_r2 : List Cond := [Cond.fieldLink RX0 9 "BellRanks$Change" "row" "[I", Cond.methodLink RX3 57 yX3_changesOf, Cond.static yX3_changesOf, Cond.code yX3_changesOf cX3_changesOf 3 (some .int), Cond.methodLink RX3 70 yX0_setRank, Cond.instanceMethod yX0_setRank, Cond.selects RX0 yX0_setRank yX0_setRank, Cond.code yX0_setRank cX0_setRank 5 none, Cond.methodLink RX0 26 yX0_insertAhead, Cond.instanceMethod yX0_insertAhead, Cond.selects RX0 yX0_insertAhead yX0_insertAhead, Cond.code yX0_insertAhead cX0_insertAhead 4 none, Cond.methodLink RX0 30 yX0_put, Cond.instanceMethod yX0_put, Cond.selects RX0 yX0_put yX0_put, Cond.code yX0_put cX0_put 3 none]
def wsX3_next : List Cond := .code yX3_next cX3_next 4 (some .int) :: ((wsX3_next_r1 ++ wsX3_next_r2) ++ wsX30 ++ wsX00 ++ (vx_atS RX3 65 "java/lang/IndexOutOfBoundsException" ["java/lang/RuntimeException", "java/lang/Exception"]).filter goodWord)
def wsX3_behind_r1 : List Cond := [Cond.fieldLink RX3 41 "BellRanks" "written" "I", Cond.methodLink RX3 74 yX3_find, Cond.instanceMethod yX3_find, Cond.selects RX3 yX3_find yX3_find, Cond.initialized RX3, Cond.code yX3_find cX3_find 2 (some (.object "BellRanks$Change")), Cond.classLink RX3 61 "java/lang/IndexOutOfBoundsException", Cond.initialized "java/lang/IndexOutOfBoundsException", Cond.fieldLink RX3 11 "BellRanks" "book" "[LBellRanks$Change;", Cond.methodLink RX3 66 yX3_openPage, Cond.instanceMethod yX3_openPage, Cond.selects RX3 yX3_openPage yX3_openPage, Cond.code yX3_openPage cX3_openPage 2 (some (.object "BellRanks$Change")), Cond.classLink RX3 114 "java/lang/IllegalStateException", Cond.initialized "java/lang/IllegalStateException", Cond.methodLink RX3 88 yX0_setBehind, Cond.instanceMethod yX0_setBehind, Cond.selects RX0 yX0_setBehind yX0_setBehind, Cond.initialized RX0, Cond.code yX0_setBehind cX0_setBehind 4 none, Cond.fieldLink RX0 15 "BellRanks$Change" "size" "I", Cond.methodLink RX0 19 yX0_bellAt, Cond.instanceMethod yX0_bellAt, Cond.selects RX0 yX0_bellAt yX0_bellAt]
def wsX3_behind_r2 : List Cond := [Cond.code yX0_bellAt cX0_bellAt 2 (some .int), Cond.fieldLink RX0 9 "BellRanks$Change" "row" "[I", Cond.methodLink RX0 30 yX0_put, Cond.instanceMethod yX0_put, Cond.selects RX0 yX0_put yX0_put, Cond.code yX0_put cX0_put 3 none]
def wsX3_behind : List Cond := .code yX3_behind cX3_behind 6 (some .int) :: ((wsX3_behind_r1 ++ wsX3_behind_r2) ++ wsX30 ++ wsX00 ++ (vx_atS RX3 65 "java/lang/IndexOutOfBoundsException" ["java/lang/RuntimeException", "java/lang/Exception"]).filter goodWord ++ (vx_atS RX3 118 "java/lang/IllegalStateException" ["java/lang/RuntimeException", "java/lang/Exception"]).filter goodWord)
def wsX3_back_r1 : List Cond := [Cond.fieldLink RX3 27 "BellRanks" "made" "LBellRanks$Change;", Cond.methodLink RX3 74 yX3_find, Cond.instanceMethod yX3_find, Cond.selects RX3 yX3_find yX3_find, Cond.initialized RX3, Cond.code yX3_find cX3_find 2 (some (.object "BellRanks$Change")), Cond.classLink RX3 61 "java/lang/IndexOutOfBoundsException", Cond.initialized "java/lang/IndexOutOfBoundsException", Cond.fieldLink RX3 41 "BellRanks" "written" "I", Cond.fieldLink RX3 11 "BellRanks" "book" "[LBellRanks$Change;", Cond.methodLink RX3 92 yX0_setBack, Cond.instanceMethod yX0_setBack, Cond.selects RX0 yX0_setBack yX0_setBack, Cond.initialized RX0, Cond.code yX0_setBack cX0_setBack 3 none, Cond.fieldLink RX0 15 "BellRanks$Change" "size" "I", Cond.methodLink RX0 19 yX0_bellAt, Cond.instanceMethod yX0_bellAt, Cond.selects RX0 yX0_bellAt yX0_bellAt, Cond.code yX0_bellAt cX0_bellAt 2 (some .int), Cond.fieldLink RX0 9 "BellRanks$Change" "row" "[I", Cond.methodLink RX0 30 yX0_put, Cond.instanceMethod yX0_put, Cond.selects RX0 yX0_put yX0_put]
def wsX3_back_r2 : List Cond := [Cond.code yX0_put cX0_put 3 none, Cond.methodLink RX3 96 yX0_setCopy, Cond.instanceMethod yX0_setCopy, Cond.selects RX0 yX0_setCopy yX0_setCopy, Cond.code yX0_setCopy cX0_setCopy 3 none, Cond.methodLink RX3 84 yX0_rank, Cond.instanceMethod yX0_rank, Cond.selects RX0 yX0_rank yX0_rank, Cond.code yX0_rank cX0_rank 3 (some .int), Cond.methodLink RX0 23 yX0_lesserBehind, Cond.instanceMethod yX0_lesserBehind, Cond.selects RX0 yX0_lesserBehind yX0_lesserBehind, Cond.code yX0_lesserBehind cX0_lesserBehind 4 (some .int)]
def wsX3_back : List Cond := .code yX3_back cX3_back 3 (some .int) :: ((wsX3_back_r1 ++ wsX3_back_r2) ++ wsX30 ++ wsX00 ++ (vx_atS RX3 65 "java/lang/IndexOutOfBoundsException" ["java/lang/RuntimeException", "java/lang/Exception"]).filter goodWord)
def wsX3_step : List Cond := .code yX3_step cX3_step 2 (some .int) :: ([.classLink RX3 47 "java/lang/IllegalArgumentException", .initialized "java/lang/IllegalArgumentException", .classLink RX3 114 "java/lang/IllegalStateException", .initialized "java/lang/IllegalStateException", .fieldLink RX3 37 "BellRanks" "bells" "I", .fieldLink RX3 19 "BellRanks" "method" "LBellRanks$Method;", .methodLink RX3 105 yX1_isStep, .static yX1_isStep, .initialized RX1, .code yX1_isStep cX1_isStep 3 (some .boolean), .methodLink RX1 19 yX1_keeps, .static yX1_keeps, .code yX1_keeps cX1_keeps 2 (some .boolean), .methodLink RX3 111 yX1_length, .instanceMethod yX1_length, .selects RX1 yX1_length yX1_length, .code yX1_length cX1_length 1 (some .int), .fieldLink RX1 15 "BellRanks$Method" "length" "I", .methodLink RX3 119 yX1_add, .instanceMethod yX1_add, .selects RX1 yX1_add yX1_add, .code yX1_add cX1_add 2 none, .fieldLink RX1 9 "BellRanks$Method" "steps" "[I"] ++ wsX30 ++ wsX10 ++ (vx_atS RX3 51 "java/lang/IllegalArgumentException" ["java/lang/RuntimeException", "java/lang/Exception"]).filter goodWord ++ (vx_atS RX3 118 "java/lang/IllegalStateException" ["java/lang/RuntimeException", "java/lang/Exception"]).filter goodWord)
def wsX3_checkSteps : List Cond := .code yX3_checkSteps cX3_checkSteps 1 none :: ([.classLink RX3 47 "java/lang/IllegalArgumentException", .initialized "java/lang/IllegalArgumentException"] ++ (vx_atS RX3 51 "java/lang/IllegalArgumentException" ["java/lang/RuntimeException", "java/lang/Exception"]).filter goodWord)
def wsX3_ring_r1 : List Cond := [Cond.fieldLink RX3 19 "BellRanks" "method" "LBellRanks$Method;", Cond.fieldLink RX3 44 "BellRanks" "rungInAll" "I", Cond.methodLink RX3 74 yX3_find, Cond.instanceMethod yX3_find, Cond.selects RX3 yX3_find yX3_find, Cond.initialized RX3, Cond.code yX3_find cX3_find 2 (some (.object "BellRanks$Change")), Cond.classLink RX3 61 "java/lang/IndexOutOfBoundsException", Cond.initialized "java/lang/IndexOutOfBoundsException", Cond.fieldLink RX3 41 "BellRanks" "written" "I", Cond.fieldLink RX3 11 "BellRanks" "book" "[LBellRanks$Change;", Cond.methodLink RX3 122 yX3_checkSteps, Cond.static yX3_checkSteps, Cond.code yX3_checkSteps cX3_checkSteps 1 none, Cond.classLink RX3 47 "java/lang/IllegalArgumentException", Cond.initialized "java/lang/IllegalArgumentException", Cond.methodLink RX3 111 yX1_length, Cond.instanceMethod yX1_length, Cond.selects RX1 yX1_length yX1_length, Cond.initialized RX1, Cond.code yX1_length cX1_length 1 (some .int), Cond.fieldLink RX1 15 "BellRanks$Method" "length" "I", Cond.methodLink RX3 125 yX1_ringOn, Cond.instanceMethod yX1_ringOn]
def wsX3_ring_r2 : List Cond := [Cond.selects RX1 yX1_ringOn yX1_ringOn, Cond.code yX1_ringOn cX1_ringOn 3 none, Cond.methodLink RX1 23 yX1_keptAt, Cond.instanceMethod yX1_keptAt, Cond.selects RX1 yX1_keptAt yX1_keptAt, Cond.code yX1_keptAt cX1_keptAt 2 (some .int), Cond.fieldLink RX1 9 "BellRanks$Method" "steps" "[I", Cond.methodLink RX1 27 yX0_ringStep, Cond.instanceMethod yX0_ringStep, Cond.selects RX0 yX0_ringStep yX0_ringStep, Cond.initialized RX0, Cond.code yX0_ringStep cX0_ringStep 3 none, Cond.fieldLink RX0 15 "BellRanks$Change" "size" "I", Cond.methodLink RX0 40 yX1_keeps, Cond.static yX1_keeps, Cond.code yX1_keeps cX1_keeps 2 (some .boolean), Cond.methodLink RX0 46 yX0_exchange, Cond.instanceMethod yX0_exchange, Cond.selects RX0 yX0_exchange yX0_exchange, Cond.code yX0_exchange cX0_exchange 3 none, Cond.methodLink RX0 19 yX0_bellAt, Cond.instanceMethod yX0_bellAt, Cond.selects RX0 yX0_bellAt yX0_bellAt, Cond.code yX0_bellAt cX0_bellAt 2 (some .int)]
def wsX3_ring_r3 : List Cond := [Cond.fieldLink RX0 9 "BellRanks$Change" "row" "[I", Cond.methodLink RX0 30 yX0_put, Cond.instanceMethod yX0_put, Cond.selects RX0 yX0_put yX0_put, Cond.code yX0_put cX0_put 3 none, Cond.methodLink RX3 84 yX0_rank, Cond.instanceMethod yX0_rank, Cond.selects RX0 yX0_rank yX0_rank, Cond.code yX0_rank cX0_rank 3 (some .int), Cond.methodLink RX0 23 yX0_lesserBehind, Cond.instanceMethod yX0_lesserBehind, Cond.selects RX0 yX0_lesserBehind yX0_lesserBehind, Cond.code yX0_lesserBehind cX0_lesserBehind 4 (some .int)]
def wsX3_ring : List Cond := .code yX3_ring cX3_ring 5 (some .int) :: ((wsX3_ring_r1 ++ (wsX3_ring_r2 ++ wsX3_ring_r3)) ++ wsX30 ++ wsX10 ++ wsX00 ++ (vx_atS RX3 65 "java/lang/IndexOutOfBoundsException" ["java/lang/RuntimeException", "java/lang/Exception"]).filter goodWord ++ (vx_atS RX3 51 "java/lang/IllegalArgumentException" ["java/lang/RuntimeException", "java/lang/Exception"]).filter goodWord)
def wsX3_checkPlace : List Cond := .code yX3_checkPlace cX3_checkPlace 2 none :: ([.classLink RX3 61 "java/lang/IndexOutOfBoundsException", .initialized "java/lang/IndexOutOfBoundsException", .fieldLink RX3 37 "BellRanks" "bells" "I"] ++ wsX30 ++ (vx_atS RX3 65 "java/lang/IndexOutOfBoundsException" ["java/lang/RuntimeException", "java/lang/Exception"]).filter goodWord)
def wsX3_bell : List Cond := .code yX3_bell cX3_bell 4 (some .int) :: ([.methodLink RX3 74 yX3_find, .instanceMethod yX3_find, .selects RX3 yX3_find yX3_find, .initialized RX3, .code yX3_find cX3_find 2 (some (.object "BellRanks$Change")), .classLink RX3 61 "java/lang/IndexOutOfBoundsException", .initialized "java/lang/IndexOutOfBoundsException", .fieldLink RX3 41 "BellRanks" "written" "I", .fieldLink RX3 11 "BellRanks" "book" "[LBellRanks$Change;", .methodLink RX3 128 yX3_checkPlace, .instanceMethod yX3_checkPlace, .selects RX3 yX3_checkPlace yX3_checkPlace, .code yX3_checkPlace cX3_checkPlace 2 none, .fieldLink RX3 37 "BellRanks" "bells" "I", .methodLink RX3 131 yX0_bellAt, .instanceMethod yX0_bellAt, .selects RX0 yX0_bellAt yX0_bellAt, .initialized RX0, .code yX0_bellAt cX0_bellAt 2 (some .int), .fieldLink RX0 9 "BellRanks$Change" "row" "[I"] ++ wsX30 ++ wsX00 ++ (vx_atS RX3 65 "java/lang/IndexOutOfBoundsException" ["java/lang/RuntimeException", "java/lang/Exception"]).filter goodWord)
def wsX3_told_r1 : List Cond := [Cond.classLink RX3 61 "java/lang/IndexOutOfBoundsException", Cond.initialized "java/lang/IndexOutOfBoundsException", Cond.methodLink RX3 74 yX3_find, Cond.instanceMethod yX3_find, Cond.selects RX3 yX3_find yX3_find, Cond.initialized RX3, Cond.code yX3_find cX3_find 2 (some (.object "BellRanks$Change")), Cond.fieldLink RX3 41 "BellRanks" "written" "I", Cond.fieldLink RX3 11 "BellRanks" "book" "[LBellRanks$Change;", Cond.methodLink RX3 84 yX0_rank, Cond.instanceMethod yX0_rank, Cond.selects RX0 yX0_rank yX0_rank, Cond.initialized RX0, Cond.code yX0_rank cX0_rank 3 (some .int), Cond.fieldLink RX0 15 "BellRanks$Change" "size" "I", Cond.methodLink RX0 23 yX0_lesserBehind, Cond.instanceMethod yX0_lesserBehind, Cond.selects RX0 yX0_lesserBehind yX0_lesserBehind, Cond.code yX0_lesserBehind cX0_lesserBehind 4 (some .int), Cond.methodLink RX0 19 yX0_bellAt, Cond.instanceMethod yX0_bellAt, Cond.selects RX0 yX0_bellAt yX0_bellAt, Cond.code yX0_bellAt cX0_bellAt 2 (some .int), Cond.fieldLink RX0 9 "BellRanks$Change" "row" "[I"]
def wsX3_told_r2 : List Cond := [Cond.methodLink RX3 134 yX0_inversions, Cond.instanceMethod yX0_inversions, Cond.selects RX0 yX0_inversions yX0_inversions, Cond.code yX0_inversions cX0_inversions 3 (some .int), Cond.methodLink RX3 137 yX0_ringCount, Cond.instanceMethod yX0_ringCount, Cond.selects RX0 yX0_ringCount yX0_ringCount, Cond.code yX0_ringCount cX0_ringCount 3 (some .int), Cond.methodLink RX0 50 yX0_isLeastOfRing, Cond.instanceMethod yX0_isLeastOfRing, Cond.selects RX0 yX0_isLeastOfRing yX0_isLeastOfRing, Cond.code yX0_isLeastOfRing cX0_isLeastOfRing 4 (some .boolean), Cond.methodLink RX3 140 yX0_longestRing, Cond.instanceMethod yX0_longestRing, Cond.selects RX0 yX0_longestRing yX0_longestRing, Cond.code yX0_longestRing cX0_longestRing 3 (some .int), Cond.methodLink RX0 54 Lib.Math.max.name, Cond.static Lib.Math.max.name, Cond.initialized "java/lang/Math", Cond.code Lib.Math.max.name Lib.Math.max.code 2 (some .int), Cond.methodLink RX0 33 yX0_ringLength, Cond.instanceMethod yX0_ringLength, Cond.selects RX0 yX0_ringLength yX0_ringLength, Cond.code yX0_ringLength cX0_ringLength 4 (some .int)]
def wsX3_told_r3 : List Cond := [Cond.methodLink RX3 143 yX0_order, Cond.instanceMethod yX0_order, Cond.selects RX0 yX0_order yX0_order, Cond.code yX0_order cX0_order 3 (some .int), Cond.methodLink RX0 59 yX0_leastMultiple, Cond.static yX0_leastMultiple, Cond.code yX0_leastMultiple cX0_leastMultiple 4 (some .int), Cond.methodLink RX3 146 yX0_ownPlaces, Cond.instanceMethod yX0_ownPlaces, Cond.selects RX0 yX0_ownPlaces yX0_ownPlaces, Cond.code yX0_ownPlaces cX0_ownPlaces 3 (some .int), Cond.methodLink RX3 149 yX0_placeOf, Cond.instanceMethod yX0_placeOf, Cond.selects RX0 yX0_placeOf yX0_placeOf, Cond.code yX0_placeOf cX0_placeOf 3 (some .int)]
def wsX3_told : List Cond := .code yX3_told cX3_told 4 (some .int) :: ((wsX3_told_r1 ++ (wsX3_told_r2 ++ wsX3_told_r3)) ++ wsX30 ++ wsX00 ++ (vx_atS RX3 65 "java/lang/IndexOutOfBoundsException" ["java/lang/RuntimeException", "java/lang/Exception"]).filter goodWord)
def wsX3_round_r1 : List Cond := [Cond.methodLink RX3 74 yX3_find, Cond.instanceMethod yX3_find, Cond.selects RX3 yX3_find yX3_find, Cond.initialized RX3, Cond.code yX3_find cX3_find 2 (some (.object "BellRanks$Change")), Cond.classLink RX3 61 "java/lang/IndexOutOfBoundsException", Cond.initialized "java/lang/IndexOutOfBoundsException", Cond.fieldLink RX3 41 "BellRanks" "written" "I", Cond.fieldLink RX3 11 "BellRanks" "book" "[LBellRanks$Change;", Cond.methodLink RX3 128 yX3_checkPlace, Cond.instanceMethod yX3_checkPlace, Cond.selects RX3 yX3_checkPlace yX3_checkPlace, Cond.code yX3_checkPlace cX3_checkPlace 2 none, Cond.fieldLink RX3 37 "BellRanks" "bells" "I", Cond.methodLink RX3 154 yX0_ringLength, Cond.instanceMethod yX0_ringLength, Cond.selects RX0 yX0_ringLength yX0_ringLength, Cond.initialized RX0, Cond.code yX0_ringLength cX0_ringLength 4 (some .int), Cond.fieldLink RX0 15 "BellRanks$Change" "size" "I", Cond.methodLink RX0 19 yX0_bellAt, Cond.instanceMethod yX0_bellAt, Cond.selects RX0 yX0_bellAt yX0_bellAt, Cond.code yX0_bellAt cX0_bellAt 2 (some .int)]
def wsX3_round_r2 : List Cond := [Cond.fieldLink RX0 9 "BellRanks$Change" "row" "[I"]
def wsX3_round : List Cond := .code yX3_round cX3_round 4 (some .int) :: ((wsX3_round_r1 ++ wsX3_round_r2) ++ wsX30 ++ wsX00 ++ (vx_atS RX3 65 "java/lang/IndexOutOfBoundsException" ["java/lang/RuntimeException", "java/lang/Exception"]).filter goodWord)
def wsX3_apart : List Cond := .code yX3_apart cX3_apart 8 (some .int) :: ([.fieldLink RX3 37 "BellRanks" "bells" "I", .methodLink RX3 74 yX3_find, .instanceMethod yX3_find, .selects RX3 yX3_find yX3_find, .initialized RX3, .code yX3_find cX3_find 2 (some (.object "BellRanks$Change")), .classLink RX3 61 "java/lang/IndexOutOfBoundsException", .initialized "java/lang/IndexOutOfBoundsException", .fieldLink RX3 41 "BellRanks" "written" "I", .fieldLink RX3 11 "BellRanks" "book" "[LBellRanks$Change;", .methodLink RX3 131 yX0_bellAt, .instanceMethod yX0_bellAt, .selects RX0 yX0_bellAt yX0_bellAt, .initialized RX0, .code yX0_bellAt cX0_bellAt 2 (some .int), .fieldLink RX0 9 "BellRanks$Change" "row" "[I", .methodLink RX3 149 yX0_placeOf, .instanceMethod yX0_placeOf, .selects RX0 yX0_placeOf yX0_placeOf, .code yX0_placeOf cX0_placeOf 3 (some .int), .fieldLink RX0 15 "BellRanks$Change" "size" "I", .methodLink RX0 19 yX0_bellAt] ++ wsX30 ++ wsX00 ++ (vx_atS RX3 65 "java/lang/IndexOutOfBoundsException" ["java/lang/RuntimeException", "java/lang/Exception"]).filter goodWord)
def wsX3_differentInBook_r1 : List Cond := [Cond.fieldLink RX3 33 "BellRanks" "ranks" "LBellRanks$RankSet;", Cond.fieldLink RX3 41 "BellRanks" "written" "I", Cond.fieldLink RX3 11 "BellRanks" "book" "[LBellRanks$Change;", Cond.methodLink RX3 171 yX2_removeAll, Cond.instanceMethod yX2_removeAll, Cond.selects RX2 yX2_removeAll yX2_removeAll, Cond.initialized RX2, Cond.code yX2_removeAll cX2_removeAll 1 none, Cond.fieldLink RX2 15 "BellRanks$RankSet" "size" "I", Cond.methodLink RX3 84 yX0_rank, Cond.instanceMethod yX0_rank, Cond.selects RX0 yX0_rank yX0_rank, Cond.initialized RX0, Cond.code yX0_rank cX0_rank 3 (some .int), Cond.fieldLink RX0 15 "BellRanks$Change" "size" "I", Cond.methodLink RX0 23 yX0_lesserBehind, Cond.instanceMethod yX0_lesserBehind, Cond.selects RX0 yX0_lesserBehind yX0_lesserBehind, Cond.code yX0_lesserBehind cX0_lesserBehind 4 (some .int), Cond.methodLink RX0 19 yX0_bellAt, Cond.instanceMethod yX0_bellAt, Cond.selects RX0 yX0_bellAt yX0_bellAt, Cond.code yX0_bellAt cX0_bellAt 2 (some .int), Cond.fieldLink RX0 9 "BellRanks$Change" "row" "[I"]
def wsX3_differentInBook_r2 : List Cond := [Cond.methodLink RX3 172 yX2_add, Cond.instanceMethod yX2_add, Cond.selects RX2 yX2_add yX2_add, Cond.code yX2_add cX2_add 3 none, Cond.fieldLink RX2 9 "BellRanks$RankSet" "row" "[I", Cond.methodLink RX3 173 yX2_size, Cond.instanceMethod yX2_size, Cond.selects RX2 yX2_size yX2_size, Cond.code yX2_size cX2_size 1 (some .int)]
def wsX3_differentInBook : List Cond := .code yX3_differentInBook cX3_differentInBook 2 (some .int) :: ((wsX3_differentInBook_r1 ++ wsX3_differentInBook_r2) ++ wsX30 ++ wsX20 ++ wsX00)
def wsX3_count_r1 : List Cond := [Cond.classLink RX3 61 "java/lang/IndexOutOfBoundsException", Cond.initialized "java/lang/IndexOutOfBoundsException", Cond.fieldLink RX3 37 "BellRanks" "bells" "I", Cond.fieldLink RX3 41 "BellRanks" "written" "I", Cond.fieldLink RX3 19 "BellRanks" "method" "LBellRanks$Method;", Cond.fieldLink RX3 44 "BellRanks" "rungInAll" "I", Cond.methodLink RX3 57 yX3_changesOf, Cond.static yX3_changesOf, Cond.initialized RX3, Cond.code yX3_changesOf cX3_changesOf 3 (some .int), Cond.methodLink RX3 157 yX3_differentInBook, Cond.instanceMethod yX3_differentInBook, Cond.selects RX3 yX3_differentInBook yX3_differentInBook, Cond.code yX3_differentInBook cX3_differentInBook 2 (some .int), Cond.fieldLink RX3 33 "BellRanks" "ranks" "LBellRanks$RankSet;", Cond.fieldLink RX3 11 "BellRanks" "book" "[LBellRanks$Change;", Cond.methodLink RX3 171 yX2_removeAll, Cond.instanceMethod yX2_removeAll, Cond.selects RX2 yX2_removeAll yX2_removeAll, Cond.initialized RX2, Cond.code yX2_removeAll cX2_removeAll 1 none, Cond.fieldLink RX2 15 "BellRanks$RankSet" "size" "I", Cond.methodLink RX3 84 yX0_rank, Cond.instanceMethod yX0_rank]
def wsX3_count_r2 : List Cond := [Cond.selects RX0 yX0_rank yX0_rank, Cond.initialized RX0, Cond.code yX0_rank cX0_rank 3 (some .int), Cond.fieldLink RX0 15 "BellRanks$Change" "size" "I", Cond.methodLink RX0 23 yX0_lesserBehind, Cond.instanceMethod yX0_lesserBehind, Cond.selects RX0 yX0_lesserBehind yX0_lesserBehind, Cond.code yX0_lesserBehind cX0_lesserBehind 4 (some .int), Cond.methodLink RX0 19 yX0_bellAt, Cond.instanceMethod yX0_bellAt, Cond.selects RX0 yX0_bellAt yX0_bellAt, Cond.code yX0_bellAt cX0_bellAt 2 (some .int), Cond.fieldLink RX0 9 "BellRanks$Change" "row" "[I", Cond.methodLink RX3 172 yX2_add, Cond.instanceMethod yX2_add, Cond.selects RX2 yX2_add yX2_add, Cond.code yX2_add cX2_add 3 none, Cond.fieldLink RX2 9 "BellRanks$RankSet" "row" "[I", Cond.methodLink RX3 173 yX2_size, Cond.instanceMethod yX2_size, Cond.selects RX2 yX2_size yX2_size, Cond.code yX2_size cX2_size 1 (some .int), Cond.methodLink RX3 111 yX1_length, Cond.instanceMethod yX1_length]
def wsX3_count_r3 : List Cond := [Cond.selects RX1 yX1_length yX1_length, Cond.initialized RX1, Cond.code yX1_length cX1_length 1 (some .int), Cond.fieldLink RX1 15 "BellRanks$Method" "length" "I"]
def wsX3_count : List Cond := .code yX3_count cX3_count 2 (some .int) :: ((wsX3_count_r1 ++ (wsX3_count_r2 ++ wsX3_count_r3)) ++ wsX30 ++ wsX20 ++ wsX00 ++ wsX10 ++ (vx_atS RX3 65 "java/lang/IndexOutOfBoundsException" ["java/lang/RuntimeException", "java/lang/Exception"]).filter goodWord)
def wsX3_kept : List Cond := .code yX3_kept cX3_kept 2 (some .int) :: ([.classLink RX3 61 "java/lang/IndexOutOfBoundsException", .initialized "java/lang/IndexOutOfBoundsException", .fieldLink RX3 19 "BellRanks" "method" "LBellRanks$Method;", .methodLink RX3 111 yX1_length, .instanceMethod yX1_length, .selects RX1 yX1_length yX1_length, .initialized RX1, .code yX1_length cX1_length 1 (some .int), .fieldLink RX1 15 "BellRanks$Method" "length" "I", .methodLink RX3 164 yX1_keptAt, .instanceMethod yX1_keptAt, .selects RX1 yX1_keptAt yX1_keptAt, .code yX1_keptAt cX1_keptAt 2 (some .int), .fieldLink RX1 9 "BellRanks$Method" "steps" "[I"] ++ wsX30 ++ wsX10 ++ (vx_atS RX3 65 "java/lang/IndexOutOfBoundsException" ["java/lang/RuntimeException", "java/lang/Exception"]).filter goodWord)
def wsX3_comes_r1 : List Cond := [Cond.fieldLink RX3 19 "BellRanks" "method" "LBellRanks$Method;", Cond.fieldLink RX3 23 "BellRanks" "rung" "LBellRanks$Change;", Cond.methodLink RX3 74 yX3_find, Cond.instanceMethod yX3_find, Cond.selects RX3 yX3_find yX3_find, Cond.initialized RX3, Cond.code yX3_find cX3_find 2 (some (.object "BellRanks$Change")), Cond.classLink RX3 61 "java/lang/IndexOutOfBoundsException", Cond.initialized "java/lang/IndexOutOfBoundsException", Cond.fieldLink RX3 41 "BellRanks" "written" "I", Cond.fieldLink RX3 11 "BellRanks" "book" "[LBellRanks$Change;", Cond.methodLink RX3 111 yX1_length, Cond.instanceMethod yX1_length, Cond.selects RX1 yX1_length yX1_length, Cond.initialized RX1, Cond.code yX1_length cX1_length 1 (some .int), Cond.fieldLink RX1 15 "BellRanks$Method" "length" "I", Cond.methodLink RX3 96 yX0_setCopy, Cond.instanceMethod yX0_setCopy, Cond.selects RX0 yX0_setCopy yX0_setCopy, Cond.initialized RX0, Cond.code yX0_setCopy cX0_setCopy 3 none, Cond.fieldLink RX0 15 "BellRanks$Change" "size" "I", Cond.methodLink RX0 19 yX0_bellAt]
def wsX3_comes_r2 : List Cond := [Cond.instanceMethod yX0_bellAt, Cond.selects RX0 yX0_bellAt yX0_bellAt, Cond.code yX0_bellAt cX0_bellAt 2 (some .int), Cond.fieldLink RX0 9 "BellRanks$Change" "row" "[I", Cond.methodLink RX0 30 yX0_put, Cond.instanceMethod yX0_put, Cond.selects RX0 yX0_put yX0_put, Cond.code yX0_put cX0_put 3 none, Cond.methodLink RX3 125 yX1_ringOn, Cond.instanceMethod yX1_ringOn, Cond.selects RX1 yX1_ringOn yX1_ringOn, Cond.code yX1_ringOn cX1_ringOn 3 none, Cond.methodLink RX1 23 yX1_keptAt, Cond.instanceMethod yX1_keptAt, Cond.selects RX1 yX1_keptAt yX1_keptAt, Cond.code yX1_keptAt cX1_keptAt 2 (some .int), Cond.fieldLink RX1 9 "BellRanks$Method" "steps" "[I", Cond.methodLink RX1 27 yX0_ringStep, Cond.instanceMethod yX0_ringStep, Cond.selects RX0 yX0_ringStep yX0_ringStep, Cond.code yX0_ringStep cX0_ringStep 3 none, Cond.methodLink RX0 40 yX1_keeps, Cond.static yX1_keeps, Cond.code yX1_keeps cX1_keeps 2 (some .boolean)]
def wsX3_comes_r3 : List Cond := [Cond.methodLink RX0 46 yX0_exchange, Cond.instanceMethod yX0_exchange, Cond.selects RX0 yX0_exchange yX0_exchange, Cond.code yX0_exchange cX0_exchange 3 none, Cond.methodLink RX3 167 yX0_isSame, Cond.instanceMethod yX0_isSame, Cond.selects RX0 yX0_isSame yX0_isSame, Cond.code yX0_isSame cX0_isSame 3 (some .boolean)]
def wsX3_comes : List Cond := .code yX3_comes cX3_comes 4 (some .int) :: ((wsX3_comes_r1 ++ (wsX3_comes_r2 ++ wsX3_comes_r3)) ++ wsX30 ++ wsX10 ++ wsX00 ++ (vx_atS RX3 65 "java/lang/IndexOutOfBoundsException" ["java/lang/RuntimeException", "java/lang/Exception"]).filter goodWord)
def wsX3_differ_r1 : List Cond := [Cond.fieldLink RX3 23 "BellRanks" "rung" "LBellRanks$Change;", Cond.fieldLink RX3 37 "BellRanks" "bells" "I", Cond.fieldLink RX3 33 "BellRanks" "ranks" "LBellRanks$RankSet;", Cond.fieldLink RX3 19 "BellRanks" "method" "LBellRanks$Method;", Cond.methodLink RX3 122 yX3_checkSteps, Cond.static yX3_checkSteps, Cond.initialized RX3, Cond.code yX3_checkSteps cX3_checkSteps 1 none, Cond.classLink RX3 47 "java/lang/IllegalArgumentException", Cond.initialized "java/lang/IllegalArgumentException", Cond.methodLink RX3 70 yX0_setRank, Cond.instanceMethod yX0_setRank, Cond.selects RX0 yX0_setRank yX0_setRank, Cond.initialized RX0, Cond.code yX0_setRank cX0_setRank 5 none, Cond.fieldLink RX0 15 "BellRanks$Change" "size" "I", Cond.methodLink RX0 26 yX0_insertAhead, Cond.instanceMethod yX0_insertAhead, Cond.selects RX0 yX0_insertAhead yX0_insertAhead, Cond.code yX0_insertAhead cX0_insertAhead 4 none, Cond.methodLink RX0 30 yX0_put, Cond.instanceMethod yX0_put, Cond.selects RX0 yX0_put yX0_put, Cond.code yX0_put cX0_put 3 none]
def wsX3_differ_r2 : List Cond := [Cond.fieldLink RX0 9 "BellRanks$Change" "row" "[I", Cond.methodLink RX0 19 yX0_bellAt, Cond.instanceMethod yX0_bellAt, Cond.selects RX0 yX0_bellAt yX0_bellAt, Cond.code yX0_bellAt cX0_bellAt 2 (some .int), Cond.methodLink RX3 171 yX2_removeAll, Cond.instanceMethod yX2_removeAll, Cond.selects RX2 yX2_removeAll yX2_removeAll, Cond.initialized RX2, Cond.code yX2_removeAll cX2_removeAll 1 none, Cond.fieldLink RX2 15 "BellRanks$RankSet" "size" "I", Cond.methodLink RX3 84 yX0_rank, Cond.instanceMethod yX0_rank, Cond.selects RX0 yX0_rank yX0_rank, Cond.code yX0_rank cX0_rank 3 (some .int), Cond.methodLink RX0 23 yX0_lesserBehind, Cond.instanceMethod yX0_lesserBehind, Cond.selects RX0 yX0_lesserBehind yX0_lesserBehind, Cond.code yX0_lesserBehind cX0_lesserBehind 4 (some .int), Cond.methodLink RX3 172 yX2_add, Cond.instanceMethod yX2_add, Cond.selects RX2 yX2_add yX2_add, Cond.code yX2_add cX2_add 3 none, Cond.fieldLink RX2 9 "BellRanks$RankSet" "row" "[I"]
def wsX3_differ_r3 : List Cond := [Cond.methodLink RX3 111 yX1_length, Cond.instanceMethod yX1_length, Cond.selects RX1 yX1_length yX1_length, Cond.initialized RX1, Cond.code yX1_length cX1_length 1 (some .int), Cond.fieldLink RX1 15 "BellRanks$Method" "length" "I", Cond.methodLink RX3 125 yX1_ringOn, Cond.instanceMethod yX1_ringOn, Cond.selects RX1 yX1_ringOn yX1_ringOn, Cond.code yX1_ringOn cX1_ringOn 3 none, Cond.methodLink RX1 23 yX1_keptAt, Cond.instanceMethod yX1_keptAt, Cond.selects RX1 yX1_keptAt yX1_keptAt, Cond.code yX1_keptAt cX1_keptAt 2 (some .int), Cond.fieldLink RX1 9 "BellRanks$Method" "steps" "[I", Cond.methodLink RX1 27 yX0_ringStep, Cond.instanceMethod yX0_ringStep, Cond.selects RX0 yX0_ringStep yX0_ringStep, Cond.code yX0_ringStep cX0_ringStep 3 none, Cond.methodLink RX0 40 yX1_keeps, Cond.static yX1_keeps, Cond.code yX1_keeps cX1_keeps 2 (some .boolean), Cond.methodLink RX0 46 yX0_exchange, Cond.instanceMethod yX0_exchange]
def wsX3_differ_r4 : List Cond := [Cond.selects RX0 yX0_exchange yX0_exchange, Cond.code yX0_exchange cX0_exchange 3 none, Cond.methodLink RX3 173 yX2_size, Cond.instanceMethod yX2_size, Cond.selects RX2 yX2_size yX2_size, Cond.code yX2_size cX2_size 1 (some .int)]
def wsX3_differ : List Cond := .code yX3_differ cX3_differ 3 (some .int) :: ((wsX3_differ_r1 ++ (wsX3_differ_r2 ++ (wsX3_differ_r3 ++ wsX3_differ_r4))) ++ wsX30 ++ wsX00 ++ wsX20 ++ wsX10 ++ (vx_atS RX3 51 "java/lang/IllegalArgumentException" ["java/lang/RuntimeException", "java/lang/Exception"]).filter goodWord)
def wsX3_advise_r1 : List Cond := [Cond.fieldLink RX3 41 "BellRanks" "written" "I", Cond.fieldLink RX3 27 "BellRanks" "made" "LBellRanks$Change;", Cond.fieldLink RX3 11 "BellRanks" "book" "[LBellRanks$Change;", Cond.methodLink RX3 74 yX3_find, Cond.instanceMethod yX3_find, Cond.selects RX3 yX3_find yX3_find, Cond.initialized RX3, Cond.code yX3_find cX3_find 2 (some (.object "BellRanks$Change")), Cond.classLink RX3 61 "java/lang/IndexOutOfBoundsException", Cond.initialized "java/lang/IndexOutOfBoundsException", Cond.methodLink RX3 88 yX0_setBehind, Cond.instanceMethod yX0_setBehind, Cond.selects RX0 yX0_setBehind yX0_setBehind, Cond.initialized RX0, Cond.code yX0_setBehind cX0_setBehind 4 none, Cond.fieldLink RX0 15 "BellRanks$Change" "size" "I", Cond.methodLink RX0 19 yX0_bellAt, Cond.instanceMethod yX0_bellAt, Cond.selects RX0 yX0_bellAt yX0_bellAt, Cond.code yX0_bellAt cX0_bellAt 2 (some .int), Cond.fieldLink RX0 9 "BellRanks$Change" "row" "[I", Cond.methodLink RX0 30 yX0_put, Cond.instanceMethod yX0_put, Cond.selects RX0 yX0_put yX0_put]
def wsX3_advise_r2 : List Cond := [Cond.code yX0_put cX0_put 3 none, Cond.methodLink RX3 134 yX0_inversions, Cond.instanceMethod yX0_inversions, Cond.selects RX0 yX0_inversions yX0_inversions, Cond.code yX0_inversions cX0_inversions 3 (some .int), Cond.methodLink RX0 23 yX0_lesserBehind, Cond.instanceMethod yX0_lesserBehind, Cond.selects RX0 yX0_lesserBehind yX0_lesserBehind, Cond.code yX0_lesserBehind cX0_lesserBehind 4 (some .int)]
def wsX3_advise : List Cond := .code yX3_advise cX3_advise 7 (some .int) :: ((wsX3_advise_r1 ++ wsX3_advise_r2) ++ wsX30 ++ wsX00 ++ (vx_atS RX3 65 "java/lang/IndexOutOfBoundsException" ["java/lang/RuntimeException", "java/lang/Exception"]).filter goodWord)
def wsX3_digest_r1 : List Cond := [Cond.constantLong RX3 176 (1579), Cond.constantLong RX3 178 (31), Cond.fieldLink RX3 41 "BellRanks" "written" "I", Cond.fieldLink RX3 37 "BellRanks" "bells" "I", Cond.fieldLink RX3 19 "BellRanks" "method" "LBellRanks$Method;", Cond.methodLink RX3 180 yX3_count, Cond.instanceMethod yX3_count, Cond.selects RX3 yX3_count yX3_count, Cond.initialized RX3, Cond.code yX3_count cX3_count 2 (some .int), Cond.classLink RX3 61 "java/lang/IndexOutOfBoundsException", Cond.initialized "java/lang/IndexOutOfBoundsException", Cond.fieldLink RX3 44 "BellRanks" "rungInAll" "I", Cond.methodLink RX3 57 yX3_changesOf, Cond.static yX3_changesOf, Cond.code yX3_changesOf cX3_changesOf 3 (some .int), Cond.methodLink RX3 157 yX3_differentInBook, Cond.instanceMethod yX3_differentInBook, Cond.selects RX3 yX3_differentInBook yX3_differentInBook, Cond.code yX3_differentInBook cX3_differentInBook 2 (some .int), Cond.fieldLink RX3 33 "BellRanks" "ranks" "LBellRanks$RankSet;", Cond.fieldLink RX3 11 "BellRanks" "book" "[LBellRanks$Change;", Cond.methodLink RX3 171 yX2_removeAll, Cond.instanceMethod yX2_removeAll]
def wsX3_digest_r2 : List Cond := [Cond.selects RX2 yX2_removeAll yX2_removeAll, Cond.initialized RX2, Cond.code yX2_removeAll cX2_removeAll 1 none, Cond.fieldLink RX2 15 "BellRanks$RankSet" "size" "I", Cond.methodLink RX3 84 yX0_rank, Cond.instanceMethod yX0_rank, Cond.selects RX0 yX0_rank yX0_rank, Cond.initialized RX0, Cond.code yX0_rank cX0_rank 3 (some .int), Cond.fieldLink RX0 15 "BellRanks$Change" "size" "I", Cond.methodLink RX0 23 yX0_lesserBehind, Cond.instanceMethod yX0_lesserBehind, Cond.selects RX0 yX0_lesserBehind yX0_lesserBehind, Cond.code yX0_lesserBehind cX0_lesserBehind 4 (some .int), Cond.methodLink RX0 19 yX0_bellAt, Cond.instanceMethod yX0_bellAt, Cond.selects RX0 yX0_bellAt yX0_bellAt, Cond.code yX0_bellAt cX0_bellAt 2 (some .int), Cond.fieldLink RX0 9 "BellRanks$Change" "row" "[I", Cond.methodLink RX3 172 yX2_add, Cond.instanceMethod yX2_add, Cond.selects RX2 yX2_add yX2_add, Cond.code yX2_add cX2_add 3 none, Cond.fieldLink RX2 9 "BellRanks$RankSet" "row" "[I"]
def wsX3_digest_r3 : List Cond := [Cond.methodLink RX3 173 yX2_size, Cond.instanceMethod yX2_size, Cond.selects RX2 yX2_size yX2_size, Cond.code yX2_size cX2_size 1 (some .int), Cond.methodLink RX3 111 yX1_length, Cond.instanceMethod yX1_length, Cond.selects RX1 yX1_length yX1_length, Cond.initialized RX1, Cond.code yX1_length cX1_length 1 (some .int), Cond.fieldLink RX1 15 "BellRanks$Method" "length" "I", Cond.methodLink RX3 183 yX3_told, Cond.instanceMethod yX3_told, Cond.selects RX3 yX3_told yX3_told, Cond.code yX3_told cX3_told 4 (some .int), Cond.methodLink RX3 74 yX3_find, Cond.instanceMethod yX3_find, Cond.selects RX3 yX3_find yX3_find, Cond.code yX3_find cX3_find 2 (some (.object "BellRanks$Change")), Cond.methodLink RX3 134 yX0_inversions, Cond.instanceMethod yX0_inversions, Cond.selects RX0 yX0_inversions yX0_inversions, Cond.code yX0_inversions cX0_inversions 3 (some .int), Cond.methodLink RX3 137 yX0_ringCount, Cond.instanceMethod yX0_ringCount]
def wsX3_digest_r4 : List Cond := [Cond.selects RX0 yX0_ringCount yX0_ringCount, Cond.code yX0_ringCount cX0_ringCount 3 (some .int), Cond.methodLink RX0 50 yX0_isLeastOfRing, Cond.instanceMethod yX0_isLeastOfRing, Cond.selects RX0 yX0_isLeastOfRing yX0_isLeastOfRing, Cond.code yX0_isLeastOfRing cX0_isLeastOfRing 4 (some .boolean), Cond.methodLink RX3 140 yX0_longestRing, Cond.instanceMethod yX0_longestRing, Cond.selects RX0 yX0_longestRing yX0_longestRing, Cond.code yX0_longestRing cX0_longestRing 3 (some .int), Cond.methodLink RX0 54 Lib.Math.max.name, Cond.static Lib.Math.max.name, Cond.initialized "java/lang/Math", Cond.code Lib.Math.max.name Lib.Math.max.code 2 (some .int), Cond.methodLink RX0 33 yX0_ringLength, Cond.instanceMethod yX0_ringLength, Cond.selects RX0 yX0_ringLength yX0_ringLength, Cond.code yX0_ringLength cX0_ringLength 4 (some .int), Cond.methodLink RX3 143 yX0_order, Cond.instanceMethod yX0_order, Cond.selects RX0 yX0_order yX0_order, Cond.code yX0_order cX0_order 3 (some .int), Cond.methodLink RX0 59 yX0_leastMultiple, Cond.static yX0_leastMultiple]
def wsX3_digest_r5 : List Cond := [Cond.code yX0_leastMultiple cX0_leastMultiple 4 (some .int), Cond.methodLink RX3 146 yX0_ownPlaces, Cond.instanceMethod yX0_ownPlaces, Cond.selects RX0 yX0_ownPlaces yX0_ownPlaces, Cond.code yX0_ownPlaces cX0_ownPlaces 3 (some .int), Cond.methodLink RX3 149 yX0_placeOf, Cond.instanceMethod yX0_placeOf, Cond.selects RX0 yX0_placeOf yX0_placeOf, Cond.code yX0_placeOf cX0_placeOf 3 (some .int), Cond.methodLink RX3 187 yX3_bell, Cond.instanceMethod yX3_bell, Cond.selects RX3 yX3_bell yX3_bell, Cond.code yX3_bell cX3_bell 4 (some .int), Cond.methodLink RX3 128 yX3_checkPlace, Cond.instanceMethod yX3_checkPlace, Cond.selects RX3 yX3_checkPlace yX3_checkPlace, Cond.code yX3_checkPlace cX3_checkPlace 2 none, Cond.methodLink RX3 131 yX0_bellAt, Cond.methodLink RX3 190 yX3_kept, Cond.instanceMethod yX3_kept, Cond.selects RX3 yX3_kept yX3_kept, Cond.code yX3_kept cX3_kept 2 (some .int), Cond.methodLink RX3 164 yX1_keptAt, Cond.instanceMethod yX1_keptAt]
def wsX3_digest_r6 : List Cond := [Cond.selects RX1 yX1_keptAt yX1_keptAt, Cond.code yX1_keptAt cX1_keptAt 2 (some .int), Cond.fieldLink RX1 9 "BellRanks$Method" "steps" "[I"]
def wsX3_digest : List Cond := .code yX3_digest cX3_digest 5 (some .long) :: ((wsX3_digest_r1 ++ (wsX3_digest_r2 ++ (wsX3_digest_r3 ++ (wsX3_digest_r4 ++ (wsX3_digest_r5 ++ wsX3_digest_r6))))) ++ wsX30 ++ wsX20 ++ wsX00 ++ wsX10 ++ (vx_atS RX3 65 "java/lang/IndexOutOfBoundsException" ["java/lang/RuntimeException", "java/lang/Exception"]).filter goodWord)
def wsJ9_max_7cf53 : List Cond := .code yJ9_max_7cf53 cJ9_max_7cf53 2 (some .int) :: ([])
abbrev vwCl : List vw_C := [(RX0, TX0, 2), (RX1, TX1, 2), (RX2, TX2, 2), (RX3, TX3, 8)]
end
section
theorem dX0_init_0 : decode cX0_init 0 = .ok (.aload_n 0, 1) := by decide +kernel
theorem dX0_init_1 : decode cX0_init 1 = .ok (.invokespecial 3, 3) := by decide +kernel
theorem dX0_init_4 : decode cX0_init 4 = .ok (.aload_n 0, 1) := by decide +kernel
theorem dX0_init_5 : decode cX0_init 5 = .ok (.bipush 8, 2) := by decide +kernel
theorem dX0_init_7 : decode cX0_init 7 = .ok (.newarray .int, 2) := by decide +kernel
theorem dX0_init_9 : decode cX0_init 9 = .ok (.putfield 9, 3) := by decide +kernel
theorem dX0_init_12 : decode cX0_init 12 = .ok (.aload_n 0, 1) := by decide +kernel
theorem dX0_init_13 : decode cX0_init 13 = .ok (.iconst 0, 1) := by decide +kernel
theorem dX0_init_14 : decode cX0_init 14 = .ok (.putfield 15, 3) := by decide +kernel
theorem dX0_init_17 : decode cX0_init 17 = .ok (.return_, 1) := by decide +kernel
theorem dX0_bellAt_0 : decode cX0_bellAt 0 = .ok (.iload_n 1, 1) := by decide +kernel
theorem dX0_bellAt_1 : decode cX0_bellAt 1 = .ok (.ifCond .lt 21, 3) := by decide +kernel
theorem dX0_bellAt_4 : decode cX0_bellAt 4 = .ok (.iload_n 1, 1) := by decide +kernel
theorem dX0_bellAt_5 : decode cX0_bellAt 5 = .ok (.aload_n 0, 1) := by decide +kernel
theorem dX0_bellAt_6 : decode cX0_bellAt 6 = .ok (.getfield 9, 3) := by decide +kernel
theorem dX0_bellAt_9 : decode cX0_bellAt 9 = .ok (.arraylength, 1) := by decide +kernel
theorem dX0_bellAt_10 : decode cX0_bellAt 10 = .ok (.if_icmp .ge 12, 3) := by decide +kernel
theorem dX0_bellAt_13 : decode cX0_bellAt 13 = .ok (.aload_n 0, 1) := by decide +kernel
theorem dX0_bellAt_14 : decode cX0_bellAt 14 = .ok (.getfield 9, 3) := by decide +kernel
theorem dX0_bellAt_17 : decode cX0_bellAt 17 = .ok (.iload_n 1, 1) := by decide +kernel
theorem dX0_bellAt_18 : decode cX0_bellAt 18 = .ok (.iaload, 1) := by decide +kernel
theorem dX0_bellAt_19 : decode cX0_bellAt 19 = .ok (.goto 4, 3) := by decide +kernel
theorem dX0_bellAt_22 : decode cX0_bellAt 22 = .ok (.iconst 0, 1) := by decide +kernel
theorem dX0_bellAt_23 : decode cX0_bellAt 23 = .ok (.ireturn, 1) := by decide +kernel
theorem dX0_put_0 : decode cX0_put 0 = .ok (.iload_n 1, 1) := by decide +kernel
theorem dX0_put_1 : decode cX0_put 1 = .ok (.ifCond .lt 19, 3) := by decide +kernel
theorem dX0_put_4 : decode cX0_put 4 = .ok (.iload_n 1, 1) := by decide +kernel
theorem dX0_put_5 : decode cX0_put 5 = .ok (.aload_n 0, 1) := by decide +kernel
theorem dX0_put_6 : decode cX0_put 6 = .ok (.getfield 9, 3) := by decide +kernel
theorem dX0_put_9 : decode cX0_put 9 = .ok (.arraylength, 1) := by decide +kernel
theorem dX0_put_10 : decode cX0_put 10 = .ok (.if_icmp .ge 10, 3) := by decide +kernel
theorem dX0_put_13 : decode cX0_put 13 = .ok (.aload_n 0, 1) := by decide +kernel
theorem dX0_put_14 : decode cX0_put 14 = .ok (.getfield 9, 3) := by decide +kernel
theorem dX0_put_17 : decode cX0_put 17 = .ok (.iload_n 1, 1) := by decide +kernel
theorem dX0_put_18 : decode cX0_put 18 = .ok (.iload_n 2, 1) := by decide +kernel
theorem dX0_put_19 : decode cX0_put 19 = .ok (.iastore, 1) := by decide +kernel
theorem dX0_put_20 : decode cX0_put 20 = .ok (.return_, 1) := by decide +kernel
theorem dX0_placeOf_0 : decode cX0_placeOf 0 = .ok (.iconst 0, 1) := by decide +kernel
theorem dX0_placeOf_1 : decode cX0_placeOf 1 = .ok (.istore_n 2, 1) := by decide +kernel
theorem dX0_placeOf_2 : decode cX0_placeOf 2 = .ok (.iload_n 2, 1) := by decide +kernel
theorem dX0_placeOf_3 : decode cX0_placeOf 3 = .ok (.aload_n 0, 1) := by decide +kernel
theorem dX0_placeOf_4 : decode cX0_placeOf 4 = .ok (.getfield 15, 3) := by decide +kernel
theorem dX0_placeOf_7 : decode cX0_placeOf 7 = .ok (.if_icmp .ge 18, 3) := by decide +kernel
theorem dX0_placeOf_10 : decode cX0_placeOf 10 = .ok (.aload_n 0, 1) := by decide +kernel
theorem dX0_placeOf_11 : decode cX0_placeOf 11 = .ok (.iload_n 2, 1) := by decide +kernel
theorem dX0_placeOf_12 : decode cX0_placeOf 12 = .ok (.invokevirtual 19, 3) := by decide +kernel
theorem dX0_placeOf_15 : decode cX0_placeOf 15 = .ok (.iload_n 1, 1) := by decide +kernel
theorem dX0_placeOf_16 : decode cX0_placeOf 16 = .ok (.if_icmp .eq 9, 3) := by decide +kernel
theorem dX0_placeOf_19 : decode cX0_placeOf 19 = .ok (.iinc 2 1, 3) := by decide +kernel
theorem dX0_placeOf_22 : decode cX0_placeOf 22 = .ok (.goto (-20), 3) := by decide +kernel
theorem dX0_placeOf_25 : decode cX0_placeOf 25 = .ok (.iload_n 2, 1) := by decide +kernel
theorem dX0_placeOf_26 : decode cX0_placeOf 26 = .ok (.ireturn, 1) := by decide +kernel
theorem dX0_isSame_0 : decode cX0_isSame 0 = .ok (.iconst 0, 1) := by decide +kernel
theorem dX0_isSame_1 : decode cX0_isSame 1 = .ok (.istore_n 2, 1) := by decide +kernel
theorem dX0_isSame_2 : decode cX0_isSame 2 = .ok (.iload_n 2, 1) := by decide +kernel
theorem dX0_isSame_3 : decode cX0_isSame 3 = .ok (.aload_n 0, 1) := by decide +kernel
theorem dX0_isSame_4 : decode cX0_isSame 4 = .ok (.getfield 15, 3) := by decide +kernel
theorem dX0_isSame_7 : decode cX0_isSame 7 = .ok (.if_icmp .ge 24, 3) := by decide +kernel
theorem dX0_isSame_10 : decode cX0_isSame 10 = .ok (.aload_n 0, 1) := by decide +kernel
theorem dX0_isSame_11 : decode cX0_isSame 11 = .ok (.iload_n 2, 1) := by decide +kernel
theorem dX0_isSame_12 : decode cX0_isSame 12 = .ok (.invokevirtual 19, 3) := by decide +kernel
theorem dX0_isSame_15 : decode cX0_isSame 15 = .ok (.aload_n 1, 1) := by decide +kernel
theorem dX0_isSame_16 : decode cX0_isSame 16 = .ok (.iload_n 2, 1) := by decide +kernel
theorem dX0_isSame_17 : decode cX0_isSame 17 = .ok (.invokevirtual 19, 3) := by decide +kernel
theorem dX0_isSame_20 : decode cX0_isSame 20 = .ok (.if_icmp .eq 5, 3) := by decide +kernel
theorem dX0_isSame_23 : decode cX0_isSame 23 = .ok (.iconst 0, 1) := by decide +kernel
theorem dX0_isSame_24 : decode cX0_isSame 24 = .ok (.ireturn, 1) := by decide +kernel
theorem dX0_isSame_25 : decode cX0_isSame 25 = .ok (.iinc 2 1, 3) := by decide +kernel
theorem dX0_isSame_28 : decode cX0_isSame 28 = .ok (.goto (-26), 3) := by decide +kernel
theorem dX0_isSame_31 : decode cX0_isSame 31 = .ok (.iconst 1, 1) := by decide +kernel
theorem dX0_isSame_32 : decode cX0_isSame 32 = .ok (.ireturn, 1) := by decide +kernel
theorem dX0_rank_0 : decode cX0_rank 0 = .ok (.iconst 0, 1) := by decide +kernel
theorem dX0_rank_1 : decode cX0_rank 1 = .ok (.istore_n 1, 1) := by decide +kernel
theorem dX0_rank_2 : decode cX0_rank 2 = .ok (.iconst 0, 1) := by decide +kernel
theorem dX0_rank_3 : decode cX0_rank 3 = .ok (.istore_n 2, 1) := by decide +kernel
theorem dX0_rank_4 : decode cX0_rank 4 = .ok (.iload_n 2, 1) := by decide +kernel
theorem dX0_rank_5 : decode cX0_rank 5 = .ok (.aload_n 0, 1) := by decide +kernel
theorem dX0_rank_6 : decode cX0_rank 6 = .ok (.getfield 15, 3) := by decide +kernel
theorem dX0_rank_9 : decode cX0_rank 9 = .ok (.if_icmp .ge 24, 3) := by decide +kernel
theorem dX0_rank_12 : decode cX0_rank 12 = .ok (.iload_n 1, 1) := by decide +kernel
theorem dX0_rank_13 : decode cX0_rank 13 = .ok (.aload_n 0, 1) := by decide +kernel
theorem dX0_rank_14 : decode cX0_rank 14 = .ok (.getfield 15, 3) := by decide +kernel
theorem dX0_rank_17 : decode cX0_rank 17 = .ok (.iload_n 2, 1) := by decide +kernel
theorem dX0_rank_18 : decode cX0_rank 18 = .ok (.isub, 1) := by decide +kernel
theorem dX0_rank_19 : decode cX0_rank 19 = .ok (.imul, 1) := by decide +kernel
theorem dX0_rank_20 : decode cX0_rank 20 = .ok (.aload_n 0, 1) := by decide +kernel
theorem dX0_rank_21 : decode cX0_rank 21 = .ok (.iload_n 2, 1) := by decide +kernel
theorem dX0_rank_22 : decode cX0_rank 22 = .ok (.invokevirtual 23, 3) := by decide +kernel
theorem dX0_rank_25 : decode cX0_rank 25 = .ok (.iadd, 1) := by decide +kernel
theorem dX0_rank_26 : decode cX0_rank 26 = .ok (.istore_n 1, 1) := by decide +kernel
theorem dX0_rank_27 : decode cX0_rank 27 = .ok (.iinc 2 1, 3) := by decide +kernel
theorem dX0_rank_30 : decode cX0_rank 30 = .ok (.goto (-26), 3) := by decide +kernel
theorem dX0_rank_33 : decode cX0_rank 33 = .ok (.iload_n 1, 1) := by decide +kernel
theorem dX0_rank_34 : decode cX0_rank 34 = .ok (.ireturn, 1) := by decide +kernel
theorem dX0_inversions_0 : decode cX0_inversions 0 = .ok (.iconst 0, 1) := by decide +kernel
theorem dX0_inversions_1 : decode cX0_inversions 1 = .ok (.istore_n 1, 1) := by decide +kernel
theorem dX0_inversions_2 : decode cX0_inversions 2 = .ok (.iconst 0, 1) := by decide +kernel
theorem dX0_inversions_3 : decode cX0_inversions 3 = .ok (.istore_n 2, 1) := by decide +kernel
theorem dX0_inversions_4 : decode cX0_inversions 4 = .ok (.iload_n 2, 1) := by decide +kernel
theorem dX0_inversions_5 : decode cX0_inversions 5 = .ok (.aload_n 0, 1) := by decide +kernel
theorem dX0_inversions_6 : decode cX0_inversions 6 = .ok (.getfield 15, 3) := by decide +kernel
theorem dX0_inversions_9 : decode cX0_inversions 9 = .ok (.if_icmp .ge 17, 3) := by decide +kernel
theorem dX0_inversions_12 : decode cX0_inversions 12 = .ok (.iload_n 1, 1) := by decide +kernel
theorem dX0_inversions_13 : decode cX0_inversions 13 = .ok (.aload_n 0, 1) := by decide +kernel
theorem dX0_inversions_14 : decode cX0_inversions 14 = .ok (.iload_n 2, 1) := by decide +kernel
theorem dX0_inversions_15 : decode cX0_inversions 15 = .ok (.invokevirtual 23, 3) := by decide +kernel
theorem dX0_inversions_18 : decode cX0_inversions 18 = .ok (.iadd, 1) := by decide +kernel
theorem dX0_inversions_19 : decode cX0_inversions 19 = .ok (.istore_n 1, 1) := by decide +kernel
theorem dX0_inversions_20 : decode cX0_inversions 20 = .ok (.iinc 2 1, 3) := by decide +kernel
theorem dX0_inversions_23 : decode cX0_inversions 23 = .ok (.goto (-19), 3) := by decide +kernel
theorem dX0_inversions_26 : decode cX0_inversions 26 = .ok (.iload_n 1, 1) := by decide +kernel
theorem dX0_inversions_27 : decode cX0_inversions 27 = .ok (.ireturn, 1) := by decide +kernel
theorem dX0_lesserBehind_0 : decode cX0_lesserBehind 0 = .ok (.iconst 0, 1) := by decide +kernel
theorem dX0_lesserBehind_1 : decode cX0_lesserBehind 1 = .ok (.istore_n 2, 1) := by decide +kernel
theorem dX0_lesserBehind_2 : decode cX0_lesserBehind 2 = .ok (.iload_n 1, 1) := by decide +kernel
theorem dX0_lesserBehind_3 : decode cX0_lesserBehind 3 = .ok (.iconst 1, 1) := by decide +kernel
theorem dX0_lesserBehind_4 : decode cX0_lesserBehind 4 = .ok (.iadd, 1) := by decide +kernel
theorem dX0_lesserBehind_5 : decode cX0_lesserBehind 5 = .ok (.istore_n 3, 1) := by decide +kernel
theorem dX0_lesserBehind_6 : decode cX0_lesserBehind 6 = .ok (.iload_n 3, 1) := by decide +kernel
theorem dX0_lesserBehind_7 : decode cX0_lesserBehind 7 = .ok (.aload_n 0, 1) := by decide +kernel
theorem dX0_lesserBehind_8 : decode cX0_lesserBehind 8 = .ok (.getfield 15, 3) := by decide +kernel
theorem dX0_lesserBehind_11 : decode cX0_lesserBehind 11 = .ok (.if_icmp .ge 25, 3) := by decide +kernel
theorem dX0_lesserBehind_14 : decode cX0_lesserBehind 14 = .ok (.aload_n 0, 1) := by decide +kernel
theorem dX0_lesserBehind_15 : decode cX0_lesserBehind 15 = .ok (.iload_n 3, 1) := by decide +kernel
theorem dX0_lesserBehind_16 : decode cX0_lesserBehind 16 = .ok (.invokevirtual 19, 3) := by decide +kernel
theorem dX0_lesserBehind_19 : decode cX0_lesserBehind 19 = .ok (.aload_n 0, 1) := by decide +kernel
theorem dX0_lesserBehind_20 : decode cX0_lesserBehind 20 = .ok (.iload_n 1, 1) := by decide +kernel
theorem dX0_lesserBehind_21 : decode cX0_lesserBehind 21 = .ok (.invokevirtual 19, 3) := by decide +kernel
theorem dX0_lesserBehind_24 : decode cX0_lesserBehind 24 = .ok (.if_icmp .ge 6, 3) := by decide +kernel
theorem dX0_lesserBehind_27 : decode cX0_lesserBehind 27 = .ok (.iinc 2 1, 3) := by decide +kernel
theorem dX0_lesserBehind_30 : decode cX0_lesserBehind 30 = .ok (.iinc 3 1, 3) := by decide +kernel
theorem dX0_lesserBehind_33 : decode cX0_lesserBehind 33 = .ok (.goto (-27), 3) := by decide +kernel
theorem dX0_lesserBehind_36 : decode cX0_lesserBehind 36 = .ok (.iload_n 2, 1) := by decide +kernel
theorem dX0_lesserBehind_37 : decode cX0_lesserBehind 37 = .ok (.ireturn, 1) := by decide +kernel
theorem dX0_setRank_0 : decode cX0_setRank 0 = .ok (.aload_n 0, 1) := by decide +kernel
theorem dX0_setRank_1 : decode cX0_setRank 1 = .ok (.iload_n 1, 1) := by decide +kernel
theorem dX0_setRank_2 : decode cX0_setRank 2 = .ok (.putfield 15, 3) := by decide +kernel
theorem dX0_setRank_5 : decode cX0_setRank 5 = .ok (.iload_n 2, 1) := by decide +kernel
theorem dX0_setRank_6 : decode cX0_setRank 6 = .ok (.istore_n 3, 1) := by decide +kernel
theorem dX0_setRank_7 : decode cX0_setRank 7 = .ok (.iconst 1, 1) := by decide +kernel
theorem dX0_setRank_8 : decode cX0_setRank 8 = .ok (.istore 4, 2) := by decide +kernel
theorem dX0_setRank_10 : decode cX0_setRank 10 = .ok (.iload 4, 2) := by decide +kernel
theorem dX0_setRank_12 : decode cX0_setRank 12 = .ok (.iload_n 1, 1) := by decide +kernel
theorem dX0_setRank_13 : decode cX0_setRank 13 = .ok (.if_icmp .gt 26, 3) := by decide +kernel
theorem dX0_setRank_16 : decode cX0_setRank 16 = .ok (.aload_n 0, 1) := by decide +kernel
theorem dX0_setRank_17 : decode cX0_setRank 17 = .ok (.iload_n 1, 1) := by decide +kernel
theorem dX0_setRank_18 : decode cX0_setRank 18 = .ok (.iload 4, 2) := by decide +kernel
theorem dX0_setRank_20 : decode cX0_setRank 20 = .ok (.isub, 1) := by decide +kernel
theorem dX0_setRank_21 : decode cX0_setRank 21 = .ok (.iload_n 3, 1) := by decide +kernel
theorem dX0_setRank_22 : decode cX0_setRank 22 = .ok (.iload 4, 2) := by decide +kernel
theorem dX0_setRank_24 : decode cX0_setRank 24 = .ok (.irem, 1) := by decide +kernel
theorem dX0_setRank_25 : decode cX0_setRank 25 = .ok (.invokevirtual 26, 3) := by decide +kernel
theorem dX0_setRank_28 : decode cX0_setRank 28 = .ok (.iload_n 3, 1) := by decide +kernel
theorem dX0_setRank_29 : decode cX0_setRank 29 = .ok (.iload 4, 2) := by decide +kernel
theorem dX0_setRank_31 : decode cX0_setRank 31 = .ok (.idiv, 1) := by decide +kernel
theorem dX0_setRank_32 : decode cX0_setRank 32 = .ok (.istore_n 3, 1) := by decide +kernel
theorem dX0_setRank_33 : decode cX0_setRank 33 = .ok (.iinc 4 1, 3) := by decide +kernel
theorem dX0_setRank_36 : decode cX0_setRank 36 = .ok (.goto (-26), 3) := by decide +kernel
theorem dX0_setRank_39 : decode cX0_setRank 39 = .ok (.return_, 1) := by decide +kernel
theorem dX0_insertAhead_0 : decode cX0_insertAhead 0 = .ok (.aload_n 0, 1) := by decide +kernel
theorem dX0_insertAhead_1 : decode cX0_insertAhead 1 = .ok (.iload_n 1, 1) := by decide +kernel
theorem dX0_insertAhead_2 : decode cX0_insertAhead 2 = .ok (.iload_n 2, 1) := by decide +kernel
theorem dX0_insertAhead_3 : decode cX0_insertAhead 3 = .ok (.invokevirtual 30, 3) := by decide +kernel
theorem dX0_insertAhead_6 : decode cX0_insertAhead 6 = .ok (.iload_n 1, 1) := by decide +kernel
theorem dX0_insertAhead_7 : decode cX0_insertAhead 7 = .ok (.iconst 1, 1) := by decide +kernel
theorem dX0_insertAhead_8 : decode cX0_insertAhead 8 = .ok (.iadd, 1) := by decide +kernel
theorem dX0_insertAhead_9 : decode cX0_insertAhead 9 = .ok (.istore_n 3, 1) := by decide +kernel
theorem dX0_insertAhead_10 : decode cX0_insertAhead 10 = .ok (.iload_n 3, 1) := by decide +kernel
theorem dX0_insertAhead_11 : decode cX0_insertAhead 11 = .ok (.aload_n 0, 1) := by decide +kernel
theorem dX0_insertAhead_12 : decode cX0_insertAhead 12 = .ok (.getfield 15, 3) := by decide +kernel
theorem dX0_insertAhead_15 : decode cX0_insertAhead 15 = .ok (.if_icmp .ge 30, 3) := by decide +kernel
theorem dX0_insertAhead_18 : decode cX0_insertAhead 18 = .ok (.aload_n 0, 1) := by decide +kernel
theorem dX0_insertAhead_19 : decode cX0_insertAhead 19 = .ok (.iload_n 3, 1) := by decide +kernel
theorem dX0_insertAhead_20 : decode cX0_insertAhead 20 = .ok (.invokevirtual 19, 3) := by decide +kernel
theorem dX0_insertAhead_23 : decode cX0_insertAhead 23 = .ok (.iload_n 2, 1) := by decide +kernel
theorem dX0_insertAhead_24 : decode cX0_insertAhead 24 = .ok (.if_icmp .lt 15, 3) := by decide +kernel
theorem dX0_insertAhead_27 : decode cX0_insertAhead 27 = .ok (.aload_n 0, 1) := by decide +kernel
theorem dX0_insertAhead_28 : decode cX0_insertAhead 28 = .ok (.iload_n 3, 1) := by decide +kernel
theorem dX0_insertAhead_29 : decode cX0_insertAhead 29 = .ok (.aload_n 0, 1) := by decide +kernel
theorem dX0_insertAhead_30 : decode cX0_insertAhead 30 = .ok (.iload_n 3, 1) := by decide +kernel
theorem dX0_insertAhead_31 : decode cX0_insertAhead 31 = .ok (.invokevirtual 19, 3) := by decide +kernel
theorem dX0_insertAhead_34 : decode cX0_insertAhead 34 = .ok (.iconst 1, 1) := by decide +kernel
theorem dX0_insertAhead_35 : decode cX0_insertAhead 35 = .ok (.iadd, 1) := by decide +kernel
theorem dX0_insertAhead_36 : decode cX0_insertAhead 36 = .ok (.invokevirtual 30, 3) := by decide +kernel
theorem dX0_insertAhead_39 : decode cX0_insertAhead 39 = .ok (.iinc 3 1, 3) := by decide +kernel
theorem dX0_insertAhead_42 : decode cX0_insertAhead 42 = .ok (.goto (-32), 3) := by decide +kernel
theorem dX0_insertAhead_45 : decode cX0_insertAhead 45 = .ok (.return_, 1) := by decide +kernel
theorem dX0_setCopy_0 : decode cX0_setCopy 0 = .ok (.aload_n 0, 1) := by decide +kernel
theorem dX0_setCopy_1 : decode cX0_setCopy 1 = .ok (.aload_n 1, 1) := by decide +kernel
theorem dX0_setCopy_2 : decode cX0_setCopy 2 = .ok (.getfield 15, 3) := by decide +kernel
theorem dX0_setCopy_5 : decode cX0_setCopy 5 = .ok (.putfield 15, 3) := by decide +kernel
theorem dX0_setCopy_8 : decode cX0_setCopy 8 = .ok (.iconst 0, 1) := by decide +kernel
theorem dX0_setCopy_9 : decode cX0_setCopy 9 = .ok (.istore_n 2, 1) := by decide +kernel
theorem dX0_setCopy_10 : decode cX0_setCopy 10 = .ok (.iload_n 2, 1) := by decide +kernel
theorem dX0_setCopy_11 : decode cX0_setCopy 11 = .ok (.aload_n 0, 1) := by decide +kernel
theorem dX0_setCopy_12 : decode cX0_setCopy 12 = .ok (.getfield 15, 3) := by decide +kernel
theorem dX0_setCopy_15 : decode cX0_setCopy 15 = .ok (.if_icmp .ge 19, 3) := by decide +kernel
theorem dX0_setCopy_18 : decode cX0_setCopy 18 = .ok (.aload_n 0, 1) := by decide +kernel
theorem dX0_setCopy_19 : decode cX0_setCopy 19 = .ok (.iload_n 2, 1) := by decide +kernel
theorem dX0_setCopy_20 : decode cX0_setCopy 20 = .ok (.aload_n 1, 1) := by decide +kernel
theorem dX0_setCopy_21 : decode cX0_setCopy 21 = .ok (.iload_n 2, 1) := by decide +kernel
theorem dX0_setCopy_22 : decode cX0_setCopy 22 = .ok (.invokevirtual 19, 3) := by decide +kernel
theorem dX0_setCopy_25 : decode cX0_setCopy 25 = .ok (.invokevirtual 30, 3) := by decide +kernel
theorem dX0_setCopy_28 : decode cX0_setCopy 28 = .ok (.iinc 2 1, 3) := by decide +kernel
theorem dX0_setCopy_31 : decode cX0_setCopy 31 = .ok (.goto (-21), 3) := by decide +kernel
theorem dX0_setCopy_34 : decode cX0_setCopy 34 = .ok (.return_, 1) := by decide +kernel
theorem dX0_setBehind_0 : decode cX0_setBehind 0 = .ok (.aload_n 0, 1) := by decide +kernel
theorem dX0_setBehind_1 : decode cX0_setBehind 1 = .ok (.aload_n 2, 1) := by decide +kernel
theorem dX0_setBehind_2 : decode cX0_setBehind 2 = .ok (.getfield 15, 3) := by decide +kernel
theorem dX0_setBehind_5 : decode cX0_setBehind 5 = .ok (.putfield 15, 3) := by decide +kernel
theorem dX0_setBehind_8 : decode cX0_setBehind 8 = .ok (.iconst 0, 1) := by decide +kernel
theorem dX0_setBehind_9 : decode cX0_setBehind 9 = .ok (.istore_n 3, 1) := by decide +kernel
theorem dX0_setBehind_10 : decode cX0_setBehind 10 = .ok (.iload_n 3, 1) := by decide +kernel
theorem dX0_setBehind_11 : decode cX0_setBehind 11 = .ok (.aload_n 0, 1) := by decide +kernel
theorem dX0_setBehind_12 : decode cX0_setBehind 12 = .ok (.getfield 15, 3) := by decide +kernel
theorem dX0_setBehind_15 : decode cX0_setBehind 15 = .ok (.if_icmp .ge 23, 3) := by decide +kernel
theorem dX0_setBehind_18 : decode cX0_setBehind 18 = .ok (.aload_n 0, 1) := by decide +kernel
theorem dX0_setBehind_19 : decode cX0_setBehind 19 = .ok (.iload_n 3, 1) := by decide +kernel
theorem dX0_setBehind_20 : decode cX0_setBehind 20 = .ok (.aload_n 1, 1) := by decide +kernel
theorem dX0_setBehind_21 : decode cX0_setBehind 21 = .ok (.aload_n 2, 1) := by decide +kernel
theorem dX0_setBehind_22 : decode cX0_setBehind 22 = .ok (.iload_n 3, 1) := by decide +kernel
theorem dX0_setBehind_23 : decode cX0_setBehind 23 = .ok (.invokevirtual 19, 3) := by decide +kernel
theorem dX0_setBehind_26 : decode cX0_setBehind 26 = .ok (.invokevirtual 19, 3) := by decide +kernel
theorem dX0_setBehind_29 : decode cX0_setBehind 29 = .ok (.invokevirtual 30, 3) := by decide +kernel
theorem dX0_setBehind_32 : decode cX0_setBehind 32 = .ok (.iinc 3 1, 3) := by decide +kernel
theorem dX0_setBehind_35 : decode cX0_setBehind 35 = .ok (.goto (-25), 3) := by decide +kernel
theorem dX0_setBehind_38 : decode cX0_setBehind 38 = .ok (.return_, 1) := by decide +kernel
theorem dX0_setBack_0 : decode cX0_setBack 0 = .ok (.aload_n 0, 1) := by decide +kernel
theorem dX0_setBack_1 : decode cX0_setBack 1 = .ok (.aload_n 1, 1) := by decide +kernel
theorem dX0_setBack_2 : decode cX0_setBack 2 = .ok (.getfield 15, 3) := by decide +kernel
theorem dX0_setBack_5 : decode cX0_setBack 5 = .ok (.putfield 15, 3) := by decide +kernel
theorem dX0_setBack_8 : decode cX0_setBack 8 = .ok (.iconst 0, 1) := by decide +kernel
theorem dX0_setBack_9 : decode cX0_setBack 9 = .ok (.istore_n 2, 1) := by decide +kernel
theorem dX0_setBack_10 : decode cX0_setBack 10 = .ok (.iload_n 2, 1) := by decide +kernel
theorem dX0_setBack_11 : decode cX0_setBack 11 = .ok (.aload_n 0, 1) := by decide +kernel
theorem dX0_setBack_12 : decode cX0_setBack 12 = .ok (.getfield 15, 3) := by decide +kernel
theorem dX0_setBack_15 : decode cX0_setBack 15 = .ok (.if_icmp .ge 19, 3) := by decide +kernel
theorem dX0_setBack_18 : decode cX0_setBack 18 = .ok (.aload_n 0, 1) := by decide +kernel
theorem dX0_setBack_19 : decode cX0_setBack 19 = .ok (.aload_n 1, 1) := by decide +kernel
theorem dX0_setBack_20 : decode cX0_setBack 20 = .ok (.iload_n 2, 1) := by decide +kernel
theorem dX0_setBack_21 : decode cX0_setBack 21 = .ok (.invokevirtual 19, 3) := by decide +kernel
theorem dX0_setBack_24 : decode cX0_setBack 24 = .ok (.iload_n 2, 1) := by decide +kernel
theorem dX0_setBack_25 : decode cX0_setBack 25 = .ok (.invokevirtual 30, 3) := by decide +kernel
theorem dX0_setBack_28 : decode cX0_setBack 28 = .ok (.iinc 2 1, 3) := by decide +kernel
theorem dX0_setBack_31 : decode cX0_setBack 31 = .ok (.goto (-21), 3) := by decide +kernel
theorem dX0_setBack_34 : decode cX0_setBack 34 = .ok (.return_, 1) := by decide +kernel
theorem dX0_exchange_0 : decode cX0_exchange 0 = .ok (.aload_n 0, 1) := by decide +kernel
theorem dX0_exchange_1 : decode cX0_exchange 1 = .ok (.iload_n 1, 1) := by decide +kernel
theorem dX0_exchange_2 : decode cX0_exchange 2 = .ok (.invokevirtual 19, 3) := by decide +kernel
theorem dX0_exchange_5 : decode cX0_exchange 5 = .ok (.istore_n 2, 1) := by decide +kernel
theorem dX0_exchange_6 : decode cX0_exchange 6 = .ok (.aload_n 0, 1) := by decide +kernel
theorem dX0_exchange_7 : decode cX0_exchange 7 = .ok (.iload_n 1, 1) := by decide +kernel
theorem dX0_exchange_8 : decode cX0_exchange 8 = .ok (.aload_n 0, 1) := by decide +kernel
theorem dX0_exchange_9 : decode cX0_exchange 9 = .ok (.iload_n 1, 1) := by decide +kernel
theorem dX0_exchange_10 : decode cX0_exchange 10 = .ok (.iconst 1, 1) := by decide +kernel
theorem dX0_exchange_11 : decode cX0_exchange 11 = .ok (.iadd, 1) := by decide +kernel
theorem dX0_exchange_12 : decode cX0_exchange 12 = .ok (.invokevirtual 19, 3) := by decide +kernel
theorem dX0_exchange_15 : decode cX0_exchange 15 = .ok (.invokevirtual 30, 3) := by decide +kernel
theorem dX0_exchange_18 : decode cX0_exchange 18 = .ok (.aload_n 0, 1) := by decide +kernel
theorem dX0_exchange_19 : decode cX0_exchange 19 = .ok (.iload_n 1, 1) := by decide +kernel
theorem dX0_exchange_20 : decode cX0_exchange 20 = .ok (.iconst 1, 1) := by decide +kernel
theorem dX0_exchange_21 : decode cX0_exchange 21 = .ok (.iadd, 1) := by decide +kernel
theorem dX0_exchange_22 : decode cX0_exchange 22 = .ok (.iload_n 2, 1) := by decide +kernel
theorem dX0_exchange_23 : decode cX0_exchange 23 = .ok (.invokevirtual 30, 3) := by decide +kernel
theorem dX0_exchange_26 : decode cX0_exchange 26 = .ok (.return_, 1) := by decide +kernel
theorem dX0_ringStep_0 : decode cX0_ringStep 0 = .ok (.iconst 0, 1) := by decide +kernel
theorem dX0_ringStep_1 : decode cX0_ringStep 1 = .ok (.istore_n 2, 1) := by decide +kernel
theorem dX0_ringStep_2 : decode cX0_ringStep 2 = .ok (.iload_n 2, 1) := by decide +kernel
theorem dX0_ringStep_3 : decode cX0_ringStep 3 = .ok (.iconst 1, 1) := by decide +kernel
theorem dX0_ringStep_4 : decode cX0_ringStep 4 = .ok (.iadd, 1) := by decide +kernel
theorem dX0_ringStep_5 : decode cX0_ringStep 5 = .ok (.aload_n 0, 1) := by decide +kernel
theorem dX0_ringStep_6 : decode cX0_ringStep 6 = .ok (.getfield 15, 3) := by decide +kernel
theorem dX0_ringStep_9 : decode cX0_ringStep 9 = .ok (.if_icmp .ge 28, 3) := by decide +kernel
theorem dX0_ringStep_12 : decode cX0_ringStep 12 = .ok (.iload_n 1, 1) := by decide +kernel
theorem dX0_ringStep_13 : decode cX0_ringStep 13 = .ok (.iload_n 2, 1) := by decide +kernel
theorem dX0_ringStep_14 : decode cX0_ringStep 14 = .ok (.invokestatic 40, 3) := by decide +kernel
theorem dX0_ringStep_17 : decode cX0_ringStep 17 = .ok (.ifCond .eq 9, 3) := by decide +kernel
theorem dX0_ringStep_20 : decode cX0_ringStep 20 = .ok (.iinc 2 1, 3) := by decide +kernel
theorem dX0_ringStep_23 : decode cX0_ringStep 23 = .ok (.goto (-21), 3) := by decide +kernel
theorem dX0_ringStep_26 : decode cX0_ringStep 26 = .ok (.aload_n 0, 1) := by decide +kernel
theorem dX0_ringStep_27 : decode cX0_ringStep 27 = .ok (.iload_n 2, 1) := by decide +kernel
theorem dX0_ringStep_28 : decode cX0_ringStep 28 = .ok (.invokevirtual 46, 3) := by decide +kernel
theorem dX0_ringStep_31 : decode cX0_ringStep 31 = .ok (.iinc 2 2, 3) := by decide +kernel
theorem dX0_ringStep_34 : decode cX0_ringStep 34 = .ok (.goto (-32), 3) := by decide +kernel
theorem dX0_ringStep_37 : decode cX0_ringStep 37 = .ok (.return_, 1) := by decide +kernel
theorem dX0_ringLength_0 : decode cX0_ringLength 0 = .ok (.iconst 1, 1) := by decide +kernel
theorem dX0_ringLength_1 : decode cX0_ringLength 1 = .ok (.istore_n 2, 1) := by decide +kernel
theorem dX0_ringLength_2 : decode cX0_ringLength 2 = .ok (.aload_n 0, 1) := by decide +kernel
theorem dX0_ringLength_3 : decode cX0_ringLength 3 = .ok (.iload_n 1, 1) := by decide +kernel
theorem dX0_ringLength_4 : decode cX0_ringLength 4 = .ok (.invokevirtual 19, 3) := by decide +kernel
theorem dX0_ringLength_7 : decode cX0_ringLength 7 = .ok (.istore_n 3, 1) := by decide +kernel
theorem dX0_ringLength_8 : decode cX0_ringLength 8 = .ok (.iload_n 3, 1) := by decide +kernel
theorem dX0_ringLength_9 : decode cX0_ringLength 9 = .ok (.iload_n 1, 1) := by decide +kernel
theorem dX0_ringLength_10 : decode cX0_ringLength 10 = .ok (.if_icmp .eq 23, 3) := by decide +kernel
theorem dX0_ringLength_13 : decode cX0_ringLength 13 = .ok (.iload_n 2, 1) := by decide +kernel
theorem dX0_ringLength_14 : decode cX0_ringLength 14 = .ok (.aload_n 0, 1) := by decide +kernel
theorem dX0_ringLength_15 : decode cX0_ringLength 15 = .ok (.getfield 15, 3) := by decide +kernel
theorem dX0_ringLength_18 : decode cX0_ringLength 18 = .ok (.if_icmp .ge 15, 3) := by decide +kernel
theorem dX0_ringLength_21 : decode cX0_ringLength 21 = .ok (.aload_n 0, 1) := by decide +kernel
theorem dX0_ringLength_22 : decode cX0_ringLength 22 = .ok (.iload_n 3, 1) := by decide +kernel
theorem dX0_ringLength_23 : decode cX0_ringLength 23 = .ok (.invokevirtual 19, 3) := by decide +kernel
theorem dX0_ringLength_26 : decode cX0_ringLength 26 = .ok (.istore_n 3, 1) := by decide +kernel
theorem dX0_ringLength_27 : decode cX0_ringLength 27 = .ok (.iinc 2 1, 3) := by decide +kernel
theorem dX0_ringLength_30 : decode cX0_ringLength 30 = .ok (.goto (-22), 3) := by decide +kernel
theorem dX0_ringLength_33 : decode cX0_ringLength 33 = .ok (.iload_n 2, 1) := by decide +kernel
theorem dX0_ringLength_34 : decode cX0_ringLength 34 = .ok (.ireturn, 1) := by decide +kernel
theorem dX0_isLeastOfRing_0 : decode cX0_isLeastOfRing 0 = .ok (.aload_n 0, 1) := by decide +kernel
theorem dX0_isLeastOfRing_1 : decode cX0_isLeastOfRing 1 = .ok (.iload_n 1, 1) := by decide +kernel
theorem dX0_isLeastOfRing_2 : decode cX0_isLeastOfRing 2 = .ok (.invokevirtual 19, 3) := by decide +kernel
theorem dX0_isLeastOfRing_5 : decode cX0_isLeastOfRing 5 = .ok (.istore_n 2, 1) := by decide +kernel
theorem dX0_isLeastOfRing_6 : decode cX0_isLeastOfRing 6 = .ok (.iconst 0, 1) := by decide +kernel
theorem dX0_isLeastOfRing_7 : decode cX0_isLeastOfRing 7 = .ok (.istore_n 3, 1) := by decide +kernel
theorem dX0_isLeastOfRing_8 : decode cX0_isLeastOfRing 8 = .ok (.iload_n 3, 1) := by decide +kernel
theorem dX0_isLeastOfRing_9 : decode cX0_isLeastOfRing 9 = .ok (.aload_n 0, 1) := by decide +kernel
theorem dX0_isLeastOfRing_10 : decode cX0_isLeastOfRing 10 = .ok (.getfield 15, 3) := by decide +kernel
theorem dX0_isLeastOfRing_13 : decode cX0_isLeastOfRing 13 = .ok (.if_icmp .ge 20, 3) := by decide +kernel
theorem dX0_isLeastOfRing_16 : decode cX0_isLeastOfRing 16 = .ok (.iload_n 2, 1) := by decide +kernel
theorem dX0_isLeastOfRing_17 : decode cX0_isLeastOfRing 17 = .ok (.iload_n 1, 1) := by decide +kernel
theorem dX0_isLeastOfRing_18 : decode cX0_isLeastOfRing 18 = .ok (.if_icmp .le 15, 3) := by decide +kernel
theorem dX0_isLeastOfRing_21 : decode cX0_isLeastOfRing 21 = .ok (.aload_n 0, 1) := by decide +kernel
theorem dX0_isLeastOfRing_22 : decode cX0_isLeastOfRing 22 = .ok (.iload_n 2, 1) := by decide +kernel
theorem dX0_isLeastOfRing_23 : decode cX0_isLeastOfRing 23 = .ok (.invokevirtual 19, 3) := by decide +kernel
theorem dX0_isLeastOfRing_26 : decode cX0_isLeastOfRing 26 = .ok (.istore_n 2, 1) := by decide +kernel
theorem dX0_isLeastOfRing_27 : decode cX0_isLeastOfRing 27 = .ok (.iinc 3 1, 3) := by decide +kernel
theorem dX0_isLeastOfRing_30 : decode cX0_isLeastOfRing 30 = .ok (.goto (-22), 3) := by decide +kernel
theorem dX0_isLeastOfRing_33 : decode cX0_isLeastOfRing 33 = .ok (.iload_n 2, 1) := by decide +kernel
theorem dX0_isLeastOfRing_34 : decode cX0_isLeastOfRing 34 = .ok (.iload_n 1, 1) := by decide +kernel
theorem dX0_isLeastOfRing_35 : decode cX0_isLeastOfRing 35 = .ok (.if_icmp .ne 7, 3) := by decide +kernel
theorem dX0_isLeastOfRing_38 : decode cX0_isLeastOfRing 38 = .ok (.iconst 1, 1) := by decide +kernel
theorem dX0_isLeastOfRing_39 : decode cX0_isLeastOfRing 39 = .ok (.goto 4, 3) := by decide +kernel
theorem dX0_isLeastOfRing_42 : decode cX0_isLeastOfRing 42 = .ok (.iconst 0, 1) := by decide +kernel
theorem dX0_isLeastOfRing_43 : decode cX0_isLeastOfRing 43 = .ok (.ireturn, 1) := by decide +kernel
theorem dX0_ringCount_0 : decode cX0_ringCount 0 = .ok (.iconst 0, 1) := by decide +kernel
theorem dX0_ringCount_1 : decode cX0_ringCount 1 = .ok (.istore_n 1, 1) := by decide +kernel
theorem dX0_ringCount_2 : decode cX0_ringCount 2 = .ok (.iconst 0, 1) := by decide +kernel
theorem dX0_ringCount_3 : decode cX0_ringCount 3 = .ok (.istore_n 2, 1) := by decide +kernel
theorem dX0_ringCount_4 : decode cX0_ringCount 4 = .ok (.iload_n 2, 1) := by decide +kernel
theorem dX0_ringCount_5 : decode cX0_ringCount 5 = .ok (.aload_n 0, 1) := by decide +kernel
theorem dX0_ringCount_6 : decode cX0_ringCount 6 = .ok (.getfield 15, 3) := by decide +kernel
theorem dX0_ringCount_9 : decode cX0_ringCount 9 = .ok (.if_icmp .ge 20, 3) := by decide +kernel
theorem dX0_ringCount_12 : decode cX0_ringCount 12 = .ok (.aload_n 0, 1) := by decide +kernel
theorem dX0_ringCount_13 : decode cX0_ringCount 13 = .ok (.iload_n 2, 1) := by decide +kernel
theorem dX0_ringCount_14 : decode cX0_ringCount 14 = .ok (.invokevirtual 50, 3) := by decide +kernel
theorem dX0_ringCount_17 : decode cX0_ringCount 17 = .ok (.ifCond .eq 6, 3) := by decide +kernel
theorem dX0_ringCount_20 : decode cX0_ringCount 20 = .ok (.iinc 1 1, 3) := by decide +kernel
theorem dX0_ringCount_23 : decode cX0_ringCount 23 = .ok (.iinc 2 1, 3) := by decide +kernel
theorem dX0_ringCount_26 : decode cX0_ringCount 26 = .ok (.goto (-22), 3) := by decide +kernel
theorem dX0_ringCount_29 : decode cX0_ringCount 29 = .ok (.iload_n 1, 1) := by decide +kernel
theorem dX0_ringCount_30 : decode cX0_ringCount 30 = .ok (.ireturn, 1) := by decide +kernel
theorem dX0_longestRing_0 : decode cX0_longestRing 0 = .ok (.iconst 0, 1) := by decide +kernel
theorem dX0_longestRing_1 : decode cX0_longestRing 1 = .ok (.istore_n 1, 1) := by decide +kernel
theorem dX0_longestRing_2 : decode cX0_longestRing 2 = .ok (.iconst 0, 1) := by decide +kernel
theorem dX0_longestRing_3 : decode cX0_longestRing 3 = .ok (.istore_n 2, 1) := by decide +kernel
theorem dX0_longestRing_4 : decode cX0_longestRing 4 = .ok (.iload_n 2, 1) := by decide +kernel
theorem dX0_longestRing_5 : decode cX0_longestRing 5 = .ok (.aload_n 0, 1) := by decide +kernel
theorem dX0_longestRing_6 : decode cX0_longestRing 6 = .ok (.getfield 15, 3) := by decide +kernel
theorem dX0_longestRing_9 : decode cX0_longestRing 9 = .ok (.if_icmp .ge 19, 3) := by decide +kernel
theorem dX0_longestRing_12 : decode cX0_longestRing 12 = .ok (.iload_n 1, 1) := by decide +kernel
theorem dX0_longestRing_13 : decode cX0_longestRing 13 = .ok (.aload_n 0, 1) := by decide +kernel
theorem dX0_longestRing_14 : decode cX0_longestRing 14 = .ok (.iload_n 2, 1) := by decide +kernel
theorem dX0_longestRing_15 : decode cX0_longestRing 15 = .ok (.invokevirtual 33, 3) := by decide +kernel
theorem dX0_longestRing_18 : decode cX0_longestRing 18 = .ok (.invokestatic 54, 3) := by decide +kernel
theorem dX0_longestRing_21 : decode cX0_longestRing 21 = .ok (.istore_n 1, 1) := by decide +kernel
theorem dX0_longestRing_22 : decode cX0_longestRing 22 = .ok (.iinc 2 1, 3) := by decide +kernel
theorem dX0_longestRing_25 : decode cX0_longestRing 25 = .ok (.goto (-21), 3) := by decide +kernel
theorem dX0_longestRing_28 : decode cX0_longestRing 28 = .ok (.iload_n 1, 1) := by decide +kernel
theorem dX0_longestRing_29 : decode cX0_longestRing 29 = .ok (.ireturn, 1) := by decide +kernel
theorem dX0_order_0 : decode cX0_order 0 = .ok (.iconst 1, 1) := by decide +kernel
theorem dX0_order_1 : decode cX0_order 1 = .ok (.istore_n 1, 1) := by decide +kernel
theorem dX0_order_2 : decode cX0_order 2 = .ok (.iconst 0, 1) := by decide +kernel
theorem dX0_order_3 : decode cX0_order 3 = .ok (.istore_n 2, 1) := by decide +kernel
theorem dX0_order_4 : decode cX0_order 4 = .ok (.iload_n 2, 1) := by decide +kernel
theorem dX0_order_5 : decode cX0_order 5 = .ok (.aload_n 0, 1) := by decide +kernel
theorem dX0_order_6 : decode cX0_order 6 = .ok (.getfield 15, 3) := by decide +kernel
theorem dX0_order_9 : decode cX0_order 9 = .ok (.if_icmp .ge 19, 3) := by decide +kernel
theorem dX0_order_12 : decode cX0_order 12 = .ok (.iload_n 1, 1) := by decide +kernel
theorem dX0_order_13 : decode cX0_order 13 = .ok (.aload_n 0, 1) := by decide +kernel
theorem dX0_order_14 : decode cX0_order 14 = .ok (.iload_n 2, 1) := by decide +kernel
theorem dX0_order_15 : decode cX0_order 15 = .ok (.invokevirtual 33, 3) := by decide +kernel
theorem dX0_order_18 : decode cX0_order 18 = .ok (.invokestatic 59, 3) := by decide +kernel
theorem dX0_order_21 : decode cX0_order 21 = .ok (.istore_n 1, 1) := by decide +kernel
theorem dX0_order_22 : decode cX0_order 22 = .ok (.iinc 2 1, 3) := by decide +kernel
theorem dX0_order_25 : decode cX0_order 25 = .ok (.goto (-21), 3) := by decide +kernel
theorem dX0_order_28 : decode cX0_order 28 = .ok (.iload_n 1, 1) := by decide +kernel
theorem dX0_order_29 : decode cX0_order 29 = .ok (.ireturn, 1) := by decide +kernel
theorem dX0_leastMultiple_0 : decode cX0_leastMultiple 0 = .ok (.iload_n 0, 1) := by decide +kernel
theorem dX0_leastMultiple_1 : decode cX0_leastMultiple 1 = .ok (.istore_n 2, 1) := by decide +kernel
theorem dX0_leastMultiple_2 : decode cX0_leastMultiple 2 = .ok (.iconst 1, 1) := by decide +kernel
theorem dX0_leastMultiple_3 : decode cX0_leastMultiple 3 = .ok (.istore_n 3, 1) := by decide +kernel
theorem dX0_leastMultiple_4 : decode cX0_leastMultiple 4 = .ok (.iload_n 3, 1) := by decide +kernel
theorem dX0_leastMultiple_5 : decode cX0_leastMultiple 5 = .ok (.iload_n 1, 1) := by decide +kernel
theorem dX0_leastMultiple_6 : decode cX0_leastMultiple 6 = .ok (.if_icmp .ge 19, 3) := by decide +kernel
theorem dX0_leastMultiple_9 : decode cX0_leastMultiple 9 = .ok (.iload_n 2, 1) := by decide +kernel
theorem dX0_leastMultiple_10 : decode cX0_leastMultiple 10 = .ok (.iload_n 1, 1) := by decide +kernel
theorem dX0_leastMultiple_11 : decode cX0_leastMultiple 11 = .ok (.irem, 1) := by decide +kernel
theorem dX0_leastMultiple_12 : decode cX0_leastMultiple 12 = .ok (.ifCond .eq 13, 3) := by decide +kernel
theorem dX0_leastMultiple_15 : decode cX0_leastMultiple 15 = .ok (.iload_n 2, 1) := by decide +kernel
theorem dX0_leastMultiple_16 : decode cX0_leastMultiple 16 = .ok (.iload_n 0, 1) := by decide +kernel
theorem dX0_leastMultiple_17 : decode cX0_leastMultiple 17 = .ok (.iadd, 1) := by decide +kernel
theorem dX0_leastMultiple_18 : decode cX0_leastMultiple 18 = .ok (.istore_n 2, 1) := by decide +kernel
theorem dX0_leastMultiple_19 : decode cX0_leastMultiple 19 = .ok (.iinc 3 1, 3) := by decide +kernel
theorem dX0_leastMultiple_22 : decode cX0_leastMultiple 22 = .ok (.goto (-18), 3) := by decide +kernel
theorem dX0_leastMultiple_25 : decode cX0_leastMultiple 25 = .ok (.iload_n 2, 1) := by decide +kernel
theorem dX0_leastMultiple_26 : decode cX0_leastMultiple 26 = .ok (.ireturn, 1) := by decide +kernel
theorem dX0_ownPlaces_0 : decode cX0_ownPlaces 0 = .ok (.iconst 0, 1) := by decide +kernel
theorem dX0_ownPlaces_1 : decode cX0_ownPlaces 1 = .ok (.istore_n 1, 1) := by decide +kernel
theorem dX0_ownPlaces_2 : decode cX0_ownPlaces 2 = .ok (.iconst 0, 1) := by decide +kernel
theorem dX0_ownPlaces_3 : decode cX0_ownPlaces 3 = .ok (.istore_n 2, 1) := by decide +kernel
theorem dX0_ownPlaces_4 : decode cX0_ownPlaces 4 = .ok (.iload_n 2, 1) := by decide +kernel
theorem dX0_ownPlaces_5 : decode cX0_ownPlaces 5 = .ok (.aload_n 0, 1) := by decide +kernel
theorem dX0_ownPlaces_6 : decode cX0_ownPlaces 6 = .ok (.getfield 15, 3) := by decide +kernel
theorem dX0_ownPlaces_9 : decode cX0_ownPlaces 9 = .ok (.if_icmp .ge 21, 3) := by decide +kernel
theorem dX0_ownPlaces_12 : decode cX0_ownPlaces 12 = .ok (.aload_n 0, 1) := by decide +kernel
theorem dX0_ownPlaces_13 : decode cX0_ownPlaces 13 = .ok (.iload_n 2, 1) := by decide +kernel
theorem dX0_ownPlaces_14 : decode cX0_ownPlaces 14 = .ok (.invokevirtual 19, 3) := by decide +kernel
theorem dX0_ownPlaces_17 : decode cX0_ownPlaces 17 = .ok (.iload_n 2, 1) := by decide +kernel
theorem dX0_ownPlaces_18 : decode cX0_ownPlaces 18 = .ok (.if_icmp .ne 6, 3) := by decide +kernel
theorem dX0_ownPlaces_21 : decode cX0_ownPlaces 21 = .ok (.iinc 1 1, 3) := by decide +kernel
theorem dX0_ownPlaces_24 : decode cX0_ownPlaces 24 = .ok (.iinc 2 1, 3) := by decide +kernel
theorem dX0_ownPlaces_27 : decode cX0_ownPlaces 27 = .ok (.goto (-23), 3) := by decide +kernel
theorem dX0_ownPlaces_30 : decode cX0_ownPlaces 30 = .ok (.iload_n 1, 1) := by decide +kernel
theorem dX0_ownPlaces_31 : decode cX0_ownPlaces 31 = .ok (.ireturn, 1) := by decide +kernel
theorem dX1_init_0 : decode cX1_init 0 = .ok (.aload_n 0, 1) := by decide +kernel
theorem dX1_init_1 : decode cX1_init 1 = .ok (.invokespecial 3, 3) := by decide +kernel
theorem dX1_init_4 : decode cX1_init 4 = .ok (.aload_n 0, 1) := by decide +kernel
theorem dX1_init_5 : decode cX1_init 5 = .ok (.bipush 10, 2) := by decide +kernel
theorem dX1_init_7 : decode cX1_init 7 = .ok (.newarray .int, 2) := by decide +kernel
theorem dX1_init_9 : decode cX1_init 9 = .ok (.putfield 9, 3) := by decide +kernel
theorem dX1_init_12 : decode cX1_init 12 = .ok (.aload_n 0, 1) := by decide +kernel
theorem dX1_init_13 : decode cX1_init 13 = .ok (.iconst 0, 1) := by decide +kernel
theorem dX1_init_14 : decode cX1_init 14 = .ok (.putfield 15, 3) := by decide +kernel
theorem dX1_init_17 : decode cX1_init 17 = .ok (.return_, 1) := by decide +kernel
theorem dX1_keeps_0 : decode cX1_keeps 0 = .ok (.iload_n 0, 1) := by decide +kernel
theorem dX1_keeps_1 : decode cX1_keeps 1 = .ok (.iload_n 1, 1) := by decide +kernel
theorem dX1_keeps_2 : decode cX1_keeps 2 = .ok (.ishr, 1) := by decide +kernel
theorem dX1_keeps_3 : decode cX1_keeps 3 = .ok (.iconst 1, 1) := by decide +kernel
theorem dX1_keeps_4 : decode cX1_keeps 4 = .ok (.iand, 1) := by decide +kernel
theorem dX1_keeps_5 : decode cX1_keeps 5 = .ok (.iconst 1, 1) := by decide +kernel
theorem dX1_keeps_6 : decode cX1_keeps 6 = .ok (.if_icmp .ne 7, 3) := by decide +kernel
theorem dX1_keeps_9 : decode cX1_keeps 9 = .ok (.iconst 1, 1) := by decide +kernel
theorem dX1_keeps_10 : decode cX1_keeps 10 = .ok (.goto 4, 3) := by decide +kernel
theorem dX1_keeps_13 : decode cX1_keeps 13 = .ok (.iconst 0, 1) := by decide +kernel
theorem dX1_keeps_14 : decode cX1_keeps 14 = .ok (.ireturn, 1) := by decide +kernel
theorem dX1_isStep_0 : decode cX1_isStep 0 = .ok (.iload_n 0, 1) := by decide +kernel
theorem dX1_isStep_1 : decode cX1_isStep 1 = .ok (.ifCond .lt 10, 3) := by decide +kernel
theorem dX1_isStep_4 : decode cX1_isStep 4 = .ok (.iload_n 0, 1) := by decide +kernel
theorem dX1_isStep_5 : decode cX1_isStep 5 = .ok (.iconst 1, 1) := by decide +kernel
theorem dX1_isStep_6 : decode cX1_isStep 6 = .ok (.iload_n 1, 1) := by decide +kernel
theorem dX1_isStep_7 : decode cX1_isStep 7 = .ok (.ishl, 1) := by decide +kernel
theorem dX1_isStep_8 : decode cX1_isStep 8 = .ok (.if_icmp .lt 5, 3) := by decide +kernel
theorem dX1_isStep_11 : decode cX1_isStep 11 = .ok (.iconst 0, 1) := by decide +kernel
theorem dX1_isStep_12 : decode cX1_isStep 12 = .ok (.ireturn, 1) := by decide +kernel
theorem dX1_isStep_13 : decode cX1_isStep 13 = .ok (.iconst 0, 1) := by decide +kernel
theorem dX1_isStep_14 : decode cX1_isStep 14 = .ok (.istore_n 2, 1) := by decide +kernel
theorem dX1_isStep_15 : decode cX1_isStep 15 = .ok (.iload_n 2, 1) := by decide +kernel
theorem dX1_isStep_16 : decode cX1_isStep 16 = .ok (.iload_n 1, 1) := by decide +kernel
theorem dX1_isStep_17 : decode cX1_isStep 17 = .ok (.if_icmp .ge 42, 3) := by decide +kernel
theorem dX1_isStep_20 : decode cX1_isStep 20 = .ok (.iload_n 0, 1) := by decide +kernel
theorem dX1_isStep_21 : decode cX1_isStep 21 = .ok (.iload_n 2, 1) := by decide +kernel
theorem dX1_isStep_22 : decode cX1_isStep 22 = .ok (.invokestatic 19, 3) := by decide +kernel
theorem dX1_isStep_25 : decode cX1_isStep 25 = .ok (.ifCond .eq 9, 3) := by decide +kernel
theorem dX1_isStep_28 : decode cX1_isStep 28 = .ok (.iinc 2 1, 3) := by decide +kernel
theorem dX1_isStep_31 : decode cX1_isStep 31 = .ok (.goto (-16), 3) := by decide +kernel
theorem dX1_isStep_34 : decode cX1_isStep 34 = .ok (.iload_n 2, 1) := by decide +kernel
theorem dX1_isStep_35 : decode cX1_isStep 35 = .ok (.iconst 1, 1) := by decide +kernel
theorem dX1_isStep_36 : decode cX1_isStep 36 = .ok (.iadd, 1) := by decide +kernel
theorem dX1_isStep_37 : decode cX1_isStep 37 = .ok (.iload_n 1, 1) := by decide +kernel
theorem dX1_isStep_38 : decode cX1_isStep 38 = .ok (.if_icmp .ge 19, 3) := by decide +kernel
theorem dX1_isStep_41 : decode cX1_isStep 41 = .ok (.iload_n 0, 1) := by decide +kernel
theorem dX1_isStep_42 : decode cX1_isStep 42 = .ok (.iload_n 2, 1) := by decide +kernel
theorem dX1_isStep_43 : decode cX1_isStep 43 = .ok (.iconst 1, 1) := by decide +kernel
theorem dX1_isStep_44 : decode cX1_isStep 44 = .ok (.iadd, 1) := by decide +kernel
theorem dX1_isStep_45 : decode cX1_isStep 45 = .ok (.invokestatic 19, 3) := by decide +kernel
theorem dX1_isStep_48 : decode cX1_isStep 48 = .ok (.ifCond .ne 9, 3) := by decide +kernel
theorem dX1_isStep_51 : decode cX1_isStep 51 = .ok (.iinc 2 2, 3) := by decide +kernel
theorem dX1_isStep_54 : decode cX1_isStep 54 = .ok (.goto (-39), 3) := by decide +kernel
theorem dX1_isStep_57 : decode cX1_isStep 57 = .ok (.iconst 0, 1) := by decide +kernel
theorem dX1_isStep_58 : decode cX1_isStep 58 = .ok (.ireturn, 1) := by decide +kernel
theorem dX1_isStep_59 : decode cX1_isStep 59 = .ok (.iconst 1, 1) := by decide +kernel
theorem dX1_isStep_60 : decode cX1_isStep 60 = .ok (.ireturn, 1) := by decide +kernel
theorem dX1_length_0 : decode cX1_length 0 = .ok (.aload_n 0, 1) := by decide +kernel
theorem dX1_length_1 : decode cX1_length 1 = .ok (.getfield 15, 3) := by decide +kernel
theorem dX1_length_4 : decode cX1_length 4 = .ok (.ireturn, 1) := by decide +kernel
theorem dX1_keptAt_0 : decode cX1_keptAt 0 = .ok (.iload_n 1, 1) := by decide +kernel
theorem dX1_keptAt_1 : decode cX1_keptAt 1 = .ok (.ifCond .lt 21, 3) := by decide +kernel
theorem dX1_keptAt_4 : decode cX1_keptAt 4 = .ok (.iload_n 1, 1) := by decide +kernel
theorem dX1_keptAt_5 : decode cX1_keptAt 5 = .ok (.aload_n 0, 1) := by decide +kernel
theorem dX1_keptAt_6 : decode cX1_keptAt 6 = .ok (.getfield 9, 3) := by decide +kernel
theorem dX1_keptAt_9 : decode cX1_keptAt 9 = .ok (.arraylength, 1) := by decide +kernel
theorem dX1_keptAt_10 : decode cX1_keptAt 10 = .ok (.if_icmp .ge 12, 3) := by decide +kernel
theorem dX1_keptAt_13 : decode cX1_keptAt 13 = .ok (.aload_n 0, 1) := by decide +kernel
theorem dX1_keptAt_14 : decode cX1_keptAt 14 = .ok (.getfield 9, 3) := by decide +kernel
theorem dX1_keptAt_17 : decode cX1_keptAt 17 = .ok (.iload_n 1, 1) := by decide +kernel
theorem dX1_keptAt_18 : decode cX1_keptAt 18 = .ok (.iaload, 1) := by decide +kernel
theorem dX1_keptAt_19 : decode cX1_keptAt 19 = .ok (.goto 4, 3) := by decide +kernel
theorem dX1_keptAt_22 : decode cX1_keptAt 22 = .ok (.iconst 0, 1) := by decide +kernel
theorem dX1_keptAt_23 : decode cX1_keptAt 23 = .ok (.ireturn, 1) := by decide +kernel
theorem dX1_add_0 : decode cX1_add 0 = .ok (.aload_n 0, 1) := by decide +kernel
theorem dX1_add_1 : decode cX1_add 1 = .ok (.getfield 15, 3) := by decide +kernel
theorem dX1_add_4 : decode cX1_add 4 = .ok (.aload_n 0, 1) := by decide +kernel
theorem dX1_add_5 : decode cX1_add 5 = .ok (.getfield 9, 3) := by decide +kernel
theorem dX1_add_8 : decode cX1_add 8 = .ok (.arraylength, 1) := by decide +kernel
theorem dX1_add_9 : decode cX1_add 9 = .ok (.if_icmp .ge 23, 3) := by decide +kernel
theorem dX1_add_12 : decode cX1_add 12 = .ok (.aload_n 0, 1) := by decide +kernel
theorem dX1_add_13 : decode cX1_add 13 = .ok (.getfield 9, 3) := by decide +kernel
theorem dX1_add_16 : decode cX1_add 16 = .ok (.aload_n 0, 1) := by decide +kernel
theorem dX1_add_17 : decode cX1_add 17 = .ok (.getfield 15, 3) := by decide +kernel
theorem dX1_add_20 : decode cX1_add 20 = .ok (.iload_n 1, 1) := by decide +kernel
theorem dX1_add_21 : decode cX1_add 21 = .ok (.iastore, 1) := by decide +kernel
theorem dX1_add_22 : decode cX1_add 22 = .ok (.aload_n 0, 1) := by decide +kernel
theorem dX1_add_23 : decode cX1_add 23 = .ok (.dup, 1) := by decide +kernel
theorem dX1_add_24 : decode cX1_add 24 = .ok (.getfield 15, 3) := by decide +kernel
theorem dX1_add_27 : decode cX1_add 27 = .ok (.iconst 1, 1) := by decide +kernel
theorem dX1_add_28 : decode cX1_add 28 = .ok (.iadd, 1) := by decide +kernel
theorem dX1_add_29 : decode cX1_add 29 = .ok (.putfield 15, 3) := by decide +kernel
theorem dX1_add_32 : decode cX1_add 32 = .ok (.return_, 1) := by decide +kernel
theorem dX1_removeAll_0 : decode cX1_removeAll 0 = .ok (.aload_n 0, 1) := by decide +kernel
theorem dX1_removeAll_1 : decode cX1_removeAll 1 = .ok (.iconst 0, 1) := by decide +kernel
theorem dX1_removeAll_2 : decode cX1_removeAll 2 = .ok (.putfield 15, 3) := by decide +kernel
theorem dX1_removeAll_5 : decode cX1_removeAll 5 = .ok (.return_, 1) := by decide +kernel
theorem dX1_ringOn_0 : decode cX1_ringOn 0 = .ok (.aload_n 0, 1) := by decide +kernel
theorem dX1_ringOn_1 : decode cX1_ringOn 1 = .ok (.getfield 15, 3) := by decide +kernel
theorem dX1_ringOn_4 : decode cX1_ringOn 4 = .ok (.ifCond .le 17, 3) := by decide +kernel
theorem dX1_ringOn_7 : decode cX1_ringOn 7 = .ok (.aload_n 1, 1) := by decide +kernel
theorem dX1_ringOn_8 : decode cX1_ringOn 8 = .ok (.aload_n 0, 1) := by decide +kernel
theorem dX1_ringOn_9 : decode cX1_ringOn 9 = .ok (.iload_n 2, 1) := by decide +kernel
theorem dX1_ringOn_10 : decode cX1_ringOn 10 = .ok (.aload_n 0, 1) := by decide +kernel
theorem dX1_ringOn_11 : decode cX1_ringOn 11 = .ok (.getfield 15, 3) := by decide +kernel
theorem dX1_ringOn_14 : decode cX1_ringOn 14 = .ok (.irem, 1) := by decide +kernel
theorem dX1_ringOn_15 : decode cX1_ringOn 15 = .ok (.invokevirtual 23, 3) := by decide +kernel
theorem dX1_ringOn_18 : decode cX1_ringOn 18 = .ok (.invokevirtual 27, 3) := by decide +kernel
theorem dX1_ringOn_21 : decode cX1_ringOn 21 = .ok (.return_, 1) := by decide +kernel
theorem dX2_init_0 : decode cX2_init 0 = .ok (.aload_n 0, 1) := by decide +kernel
theorem dX2_init_1 : decode cX2_init 1 = .ok (.invokespecial 3, 3) := by decide +kernel
theorem dX2_init_4 : decode cX2_init 4 = .ok (.aload_n 0, 1) := by decide +kernel
theorem dX2_init_5 : decode cX2_init 5 = .ok (.sipush 201, 3) := by decide +kernel
theorem dX2_init_8 : decode cX2_init 8 = .ok (.newarray .int, 2) := by decide +kernel
theorem dX2_init_10 : decode cX2_init 10 = .ok (.putfield 9, 3) := by decide +kernel
theorem dX2_init_13 : decode cX2_init 13 = .ok (.aload_n 0, 1) := by decide +kernel
theorem dX2_init_14 : decode cX2_init 14 = .ok (.iconst 0, 1) := by decide +kernel
theorem dX2_init_15 : decode cX2_init 15 = .ok (.putfield 15, 3) := by decide +kernel
theorem dX2_init_18 : decode cX2_init 18 = .ok (.return_, 1) := by decide +kernel
theorem dX2_size_0 : decode cX2_size 0 = .ok (.aload_n 0, 1) := by decide +kernel
theorem dX2_size_1 : decode cX2_size 1 = .ok (.getfield 15, 3) := by decide +kernel
theorem dX2_size_4 : decode cX2_size 4 = .ok (.ireturn, 1) := by decide +kernel
theorem dX2_removeAll_0 : decode cX2_removeAll 0 = .ok (.aload_n 0, 1) := by decide +kernel
theorem dX2_removeAll_1 : decode cX2_removeAll 1 = .ok (.iconst 0, 1) := by decide +kernel
theorem dX2_removeAll_2 : decode cX2_removeAll 2 = .ok (.putfield 15, 3) := by decide +kernel
theorem dX2_removeAll_5 : decode cX2_removeAll 5 = .ok (.return_, 1) := by decide +kernel
theorem dX2_add_0 : decode cX2_add 0 = .ok (.iconst 0, 1) := by decide +kernel
theorem dX2_add_1 : decode cX2_add 1 = .ok (.istore_n 2, 1) := by decide +kernel
theorem dX2_add_2 : decode cX2_add 2 = .ok (.iload_n 2, 1) := by decide +kernel
theorem dX2_add_3 : decode cX2_add 3 = .ok (.aload_n 0, 1) := by decide +kernel
theorem dX2_add_4 : decode cX2_add 4 = .ok (.getfield 15, 3) := by decide +kernel
theorem dX2_add_7 : decode cX2_add 7 = .ok (.if_icmp .ge 20, 3) := by decide +kernel
theorem dX2_add_10 : decode cX2_add 10 = .ok (.aload_n 0, 1) := by decide +kernel
theorem dX2_add_11 : decode cX2_add 11 = .ok (.getfield 9, 3) := by decide +kernel
theorem dX2_add_14 : decode cX2_add 14 = .ok (.iload_n 2, 1) := by decide +kernel
theorem dX2_add_15 : decode cX2_add 15 = .ok (.iaload, 1) := by decide +kernel
theorem dX2_add_16 : decode cX2_add 16 = .ok (.iload_n 1, 1) := by decide +kernel
theorem dX2_add_17 : decode cX2_add 17 = .ok (.if_icmp .ne 4, 3) := by decide +kernel
theorem dX2_add_20 : decode cX2_add 20 = .ok (.return_, 1) := by decide +kernel
theorem dX2_add_21 : decode cX2_add 21 = .ok (.iinc 2 1, 3) := by decide +kernel
theorem dX2_add_24 : decode cX2_add 24 = .ok (.goto (-22), 3) := by decide +kernel
theorem dX2_add_27 : decode cX2_add 27 = .ok (.aload_n 0, 1) := by decide +kernel
theorem dX2_add_28 : decode cX2_add 28 = .ok (.getfield 15, 3) := by decide +kernel
theorem dX2_add_31 : decode cX2_add 31 = .ok (.aload_n 0, 1) := by decide +kernel
theorem dX2_add_32 : decode cX2_add 32 = .ok (.getfield 9, 3) := by decide +kernel
theorem dX2_add_35 : decode cX2_add 35 = .ok (.arraylength, 1) := by decide +kernel
theorem dX2_add_36 : decode cX2_add 36 = .ok (.if_icmp .ge 23, 3) := by decide +kernel
theorem dX2_add_39 : decode cX2_add 39 = .ok (.aload_n 0, 1) := by decide +kernel
theorem dX2_add_40 : decode cX2_add 40 = .ok (.getfield 9, 3) := by decide +kernel
theorem dX2_add_43 : decode cX2_add 43 = .ok (.aload_n 0, 1) := by decide +kernel
theorem dX2_add_44 : decode cX2_add 44 = .ok (.getfield 15, 3) := by decide +kernel
theorem dX2_add_47 : decode cX2_add 47 = .ok (.iload_n 1, 1) := by decide +kernel
theorem dX2_add_48 : decode cX2_add 48 = .ok (.iastore, 1) := by decide +kernel
theorem dX2_add_49 : decode cX2_add 49 = .ok (.aload_n 0, 1) := by decide +kernel
theorem dX2_add_50 : decode cX2_add 50 = .ok (.dup, 1) := by decide +kernel
theorem dX2_add_51 : decode cX2_add 51 = .ok (.getfield 15, 3) := by decide +kernel
theorem dX2_add_54 : decode cX2_add 54 = .ok (.iconst 1, 1) := by decide +kernel
theorem dX2_add_55 : decode cX2_add 55 = .ok (.iadd, 1) := by decide +kernel
theorem dX2_add_56 : decode cX2_add 56 = .ok (.putfield 15, 3) := by decide +kernel
theorem dX2_add_59 : decode cX2_add 59 = .ok (.return_, 1) := by decide +kernel
end
section
set_option maxRecDepth 20000 in
theorem ggX0_placeOf_X0_bellAt : GoodIn wsX0_placeOf wsX0_bellAt := goodIn_r _ [6, 7, 8, 9] (by decide +kernel) (by decide +kernel)
set_option maxRecDepth 20000 in
theorem gX0_placeOf_X0_bellAt : GoodIn wsX0_placeOf (wsV RX0 19 RX0 yX0_bellAt wsX0_bellAt) := goodIn_app (goodIn_of _ (by decide +kernel)) ggX0_placeOf_X0_bellAt
set_option maxRecDepth 20000 in
theorem ggX0_isSame_X0_bellAt : GoodIn wsX0_isSame wsX0_bellAt := goodIn_r _ [6, 7, 8, 9] (by decide +kernel) (by decide +kernel)
set_option maxRecDepth 20000 in
theorem gX0_isSame_X0_bellAt : GoodIn wsX0_isSame (wsV RX0 19 RX0 yX0_bellAt wsX0_bellAt) := goodIn_app (goodIn_of _ (by decide +kernel)) ggX0_isSame_X0_bellAt
set_option maxRecDepth 20000 in
theorem ggX0_rank_X0_lesserBehind : GoodIn wsX0_rank wsX0_lesserBehind := goodIn_r _ [6, 1, 7, 8, 9, 5, 10, 11, 12, 13] (by decide +kernel) (by decide +kernel)
set_option maxRecDepth 20000 in
theorem gX0_rank_X0_lesserBehind : GoodIn wsX0_rank (wsV RX0 23 RX0 yX0_lesserBehind wsX0_lesserBehind) := goodIn_app (goodIn_of _ (by decide +kernel)) ggX0_rank_X0_lesserBehind
set_option maxRecDepth 20000 in
theorem ggX0_inversions_X0_lesserBehind : GoodIn wsX0_inversions wsX0_lesserBehind := goodIn_r _ [6, 1, 7, 8, 9, 5, 10, 11, 12, 13] (by decide +kernel) (by decide +kernel)
set_option maxRecDepth 20000 in
theorem gX0_inversions_X0_lesserBehind : GoodIn wsX0_inversions (wsV RX0 23 RX0 yX0_lesserBehind wsX0_lesserBehind) := goodIn_app (goodIn_of _ (by decide +kernel)) ggX0_inversions_X0_lesserBehind
set_option maxRecDepth 20000 in
theorem ggX0_lesserBehind_X0_bellAt : GoodIn wsX0_lesserBehind wsX0_bellAt := goodIn_r _ [6, 7, 8, 9] (by decide +kernel) (by decide +kernel)
set_option maxRecDepth 20000 in
theorem gX0_lesserBehind_X0_bellAt : GoodIn wsX0_lesserBehind (wsV RX0 19 RX0 yX0_bellAt wsX0_bellAt) := goodIn_app (goodIn_of _ (by decide +kernel)) ggX0_lesserBehind_X0_bellAt
set_option maxRecDepth 20000 in
theorem ggX0_setRank_X0_insertAhead : GoodIn wsX0_setRank wsX0_insertAhead := goodIn_r _ [6, 1, 7, 8, 9, 5, 10, 11, 12, 13, 14, 15, 16, 17] (by decide +kernel) (by decide +kernel)
set_option maxRecDepth 20000 in
theorem gX0_setRank_X0_insertAhead : GoodIn wsX0_setRank (wsV RX0 26 RX0 yX0_insertAhead wsX0_insertAhead) := goodIn_app (goodIn_of _ (by decide +kernel)) ggX0_setRank_X0_insertAhead
set_option maxRecDepth 20000 in
theorem ggX0_insertAhead_X0_put : GoodIn wsX0_insertAhead wsX0_put := goodIn_r _ [6, 7, 12, 13] (by decide +kernel) (by decide +kernel)
set_option maxRecDepth 20000 in
theorem gX0_insertAhead_X0_put : GoodIn wsX0_insertAhead (wsV RX0 30 RX0 yX0_put wsX0_put) := goodIn_app (goodIn_of _ (by decide +kernel)) ggX0_insertAhead_X0_put
set_option maxRecDepth 20000 in
theorem ggX0_insertAhead_X0_bellAt : GoodIn wsX0_insertAhead wsX0_bellAt := goodIn_r _ [11, 7, 12, 13] (by decide +kernel) (by decide +kernel)
set_option maxRecDepth 20000 in
theorem gX0_insertAhead_X0_bellAt : GoodIn wsX0_insertAhead (wsV RX0 19 RX0 yX0_bellAt wsX0_bellAt) := goodIn_app (goodIn_of _ (by decide +kernel)) ggX0_insertAhead_X0_bellAt
set_option maxRecDepth 20000 in
theorem ggX0_setCopy_X0_bellAt : GoodIn wsX0_setCopy wsX0_bellAt := goodIn_r _ [6, 7, 12, 13] (by decide +kernel) (by decide +kernel)
set_option maxRecDepth 20000 in
theorem gX0_setCopy_X0_bellAt : GoodIn wsX0_setCopy (wsV RX0 19 RX0 yX0_bellAt wsX0_bellAt) := goodIn_app (goodIn_of _ (by decide +kernel)) ggX0_setCopy_X0_bellAt
set_option maxRecDepth 20000 in
theorem ggX0_setCopy_X0_put : GoodIn wsX0_setCopy wsX0_put := goodIn_r _ [11, 7, 12, 13] (by decide +kernel) (by decide +kernel)
set_option maxRecDepth 20000 in
theorem gX0_setCopy_X0_put : GoodIn wsX0_setCopy (wsV RX0 30 RX0 yX0_put wsX0_put) := goodIn_app (goodIn_of _ (by decide +kernel)) ggX0_setCopy_X0_put
set_option maxRecDepth 20000 in
theorem ggX0_setBehind_X0_bellAt : GoodIn wsX0_setBehind wsX0_bellAt := goodIn_r _ [6, 7, 12, 13] (by decide +kernel) (by decide +kernel)
set_option maxRecDepth 20000 in
theorem gX0_setBehind_X0_bellAt : GoodIn wsX0_setBehind (wsV RX0 19 RX0 yX0_bellAt wsX0_bellAt) := goodIn_app (goodIn_of _ (by decide +kernel)) ggX0_setBehind_X0_bellAt
set_option maxRecDepth 20000 in
theorem ggX0_setBehind_X0_put : GoodIn wsX0_setBehind wsX0_put := goodIn_r _ [11, 7, 12, 13] (by decide +kernel) (by decide +kernel)
set_option maxRecDepth 20000 in
theorem gX0_setBehind_X0_put : GoodIn wsX0_setBehind (wsV RX0 30 RX0 yX0_put wsX0_put) := goodIn_app (goodIn_of _ (by decide +kernel)) ggX0_setBehind_X0_put
set_option maxRecDepth 20000 in
theorem ggX0_setBack_X0_bellAt : GoodIn wsX0_setBack wsX0_bellAt := goodIn_r _ [6, 7, 12, 13] (by decide +kernel) (by decide +kernel)
set_option maxRecDepth 20000 in
theorem gX0_setBack_X0_bellAt : GoodIn wsX0_setBack (wsV RX0 19 RX0 yX0_bellAt wsX0_bellAt) := goodIn_app (goodIn_of _ (by decide +kernel)) ggX0_setBack_X0_bellAt
set_option maxRecDepth 20000 in
theorem ggX0_setBack_X0_put : GoodIn wsX0_setBack wsX0_put := goodIn_r _ [11, 7, 12, 13] (by decide +kernel) (by decide +kernel)
set_option maxRecDepth 20000 in
theorem gX0_setBack_X0_put : GoodIn wsX0_setBack (wsV RX0 30 RX0 yX0_put wsX0_put) := goodIn_app (goodIn_of _ (by decide +kernel)) ggX0_setBack_X0_put
set_option maxRecDepth 20000 in
theorem ggX0_exchange_X0_bellAt : GoodIn wsX0_exchange wsX0_bellAt := goodIn_r _ [5, 6, 11, 12] (by decide +kernel) (by decide +kernel)
set_option maxRecDepth 20000 in
theorem gX0_exchange_X0_bellAt : GoodIn wsX0_exchange (wsV RX0 19 RX0 yX0_bellAt wsX0_bellAt) := goodIn_app (goodIn_of _ (by decide +kernel)) ggX0_exchange_X0_bellAt
set_option maxRecDepth 20000 in
theorem ggX0_exchange_X0_put : GoodIn wsX0_exchange wsX0_put := goodIn_r _ [10, 6, 11, 12] (by decide +kernel) (by decide +kernel)
set_option maxRecDepth 20000 in
theorem gX0_exchange_X0_put : GoodIn wsX0_exchange (wsV RX0 30 RX0 yX0_put wsX0_put) := goodIn_app (goodIn_of _ (by decide +kernel)) ggX0_exchange_X0_put
set_option maxRecDepth 20000 in
theorem ggX0_ringStep_X1_keeps : GoodIn wsX0_ringStep wsX1_keeps := goodIn_r _ [5] (by decide +kernel) (by decide +kernel)
set_option maxRecDepth 20000 in
theorem gX0_ringStep_X1_keeps : GoodIn wsX0_ringStep (va_wsS RX0 40 yX1_keeps wsX1_keeps) := goodIn_app (goodIn_of _ (by decide +kernel)) ggX0_ringStep_X1_keeps
set_option maxRecDepth 20000 in
theorem ggX0_ringStep_X0_exchange : GoodIn wsX0_ringStep wsX0_exchange := goodIn_r _ [10, 11, 12, 13, 9, 14, 15, 16, 17, 18, 19, 20, 21] (by decide +kernel) (by decide +kernel)
set_option maxRecDepth 20000 in
theorem gX0_ringStep_X0_exchange : GoodIn wsX0_ringStep (wsV RX0 46 RX0 yX0_exchange wsX0_exchange) := goodIn_app (goodIn_of _ (by decide +kernel)) ggX0_ringStep_X0_exchange
set_option maxRecDepth 20000 in
theorem ggX0_ringLength_X0_bellAt : GoodIn wsX0_ringLength wsX0_bellAt := goodIn_r _ [6, 7, 8, 9] (by decide +kernel) (by decide +kernel)
set_option maxRecDepth 20000 in
theorem gX0_ringLength_X0_bellAt : GoodIn wsX0_ringLength (wsV RX0 19 RX0 yX0_bellAt wsX0_bellAt) := goodIn_app (goodIn_of _ (by decide +kernel)) ggX0_ringLength_X0_bellAt
set_option maxRecDepth 20000 in
theorem ggX0_isLeastOfRing_X0_bellAt : GoodIn wsX0_isLeastOfRing wsX0_bellAt := goodIn_r _ [6, 7, 8, 9] (by decide +kernel) (by decide +kernel)
set_option maxRecDepth 20000 in
theorem gX0_isLeastOfRing_X0_bellAt : GoodIn wsX0_isLeastOfRing (wsV RX0 19 RX0 yX0_bellAt wsX0_bellAt) := goodIn_app (goodIn_of _ (by decide +kernel)) ggX0_isLeastOfRing_X0_bellAt
set_option maxRecDepth 20000 in
theorem ggX0_ringCount_X0_isLeastOfRing : GoodIn wsX0_ringCount wsX0_isLeastOfRing := goodIn_r _ [6, 1, 7, 8, 9, 5, 10, 11, 12, 13] (by decide +kernel) (by decide +kernel)
set_option maxRecDepth 20000 in
theorem gX0_ringCount_X0_isLeastOfRing : GoodIn wsX0_ringCount (wsV RX0 50 RX0 yX0_isLeastOfRing wsX0_isLeastOfRing) := goodIn_app (goodIn_of _ (by decide +kernel)) ggX0_ringCount_X0_isLeastOfRing
set_option maxRecDepth 20000 in
theorem ggX0_longestRing_X0_ringLength : GoodIn wsX0_longestRing wsX0_ringLength := goodIn_r _ [10, 1, 11, 12, 13, 9, 14, 15, 16, 17] (by decide +kernel) (by decide +kernel)
set_option maxRecDepth 20000 in
theorem gX0_longestRing_X0_ringLength : GoodIn wsX0_longestRing (wsV RX0 33 RX0 yX0_ringLength wsX0_ringLength) := goodIn_app (goodIn_of _ (by decide +kernel)) ggX0_longestRing_X0_ringLength
set_option maxRecDepth 20000 in
theorem ggX0_order_X0_ringLength : GoodIn wsX0_order wsX0_ringLength := goodIn_r _ [6, 1, 7, 8, 9, 5, 10, 11, 15, 16] (by decide +kernel) (by decide +kernel)
set_option maxRecDepth 20000 in
theorem gX0_order_X0_ringLength : GoodIn wsX0_order (wsV RX0 33 RX0 yX0_ringLength wsX0_ringLength) := goodIn_app (goodIn_of _ (by decide +kernel)) ggX0_order_X0_ringLength
set_option maxRecDepth 20000 in
theorem ggX0_order_X0_leastMultiple : GoodIn wsX0_order wsX0_leastMultiple := goodIn_r _ [14] (by decide +kernel) (by decide +kernel)
set_option maxRecDepth 20000 in
theorem gX0_order_X0_leastMultiple : GoodIn wsX0_order (va_wsS RX0 59 yX0_leastMultiple wsX0_leastMultiple) := goodIn_app (goodIn_of _ (by decide +kernel)) ggX0_order_X0_leastMultiple
set_option maxRecDepth 20000 in
theorem ggX0_ownPlaces_X0_bellAt : GoodIn wsX0_ownPlaces wsX0_bellAt := goodIn_r _ [6, 7, 8, 9] (by decide +kernel) (by decide +kernel)
set_option maxRecDepth 20000 in
theorem gX0_ownPlaces_X0_bellAt : GoodIn wsX0_ownPlaces (wsV RX0 19 RX0 yX0_bellAt wsX0_bellAt) := goodIn_app (goodIn_of _ (by decide +kernel)) ggX0_ownPlaces_X0_bellAt
set_option maxRecDepth 20000 in
theorem ggX1_isStep_X1_keeps : GoodIn wsX1_isStep wsX1_keeps := goodIn_r _ [4] (by decide +kernel) (by decide +kernel)
set_option maxRecDepth 20000 in
theorem gX1_isStep_X1_keeps : GoodIn wsX1_isStep (va_wsS RX1 19 yX1_keeps wsX1_keeps) := goodIn_app (goodIn_of _ (by decide +kernel)) ggX1_isStep_X1_keeps
set_option maxRecDepth 20000 in
theorem ggX1_ringOn_X1_keptAt : GoodIn wsX1_ringOn wsX1_keptAt := goodIn_r _ [6, 7, 30, 31] (by decide +kernel) (by decide +kernel)
set_option maxRecDepth 20000 in
theorem gX1_ringOn_X1_keptAt : GoodIn wsX1_ringOn (wsV RX1 23 RX1 yX1_keptAt wsX1_keptAt) := goodIn_app (goodIn_of _ (by decide +kernel)) ggX1_ringOn_X1_keptAt
set_option maxRecDepth 20000 in
theorem ggX1_ringOn_X0_ringStep : GoodIn wsX1_ringOn wsX0_ringStep := goodIn_r _ [12, 13, 14, 15, 5, 16, 17, 18, 19, 11, 20, 21, 22, 23, 24, 25, 26, 27, 28, 29, 32, 33] (by decide +kernel) (by decide +kernel)
set_option maxRecDepth 20000 in
theorem gX1_ringOn_X0_ringStep : GoodIn wsX1_ringOn (wsV RX1 27 RX0 yX0_ringStep wsX0_ringStep) := goodIn_app (goodIn_of _ (by decide +kernel)) ggX1_ringOn_X0_ringStep
end
section
/-! THE LAYER: rows over natural numbers, calls of methods that only read, calls that write, loops -/
abbrev xA (f : Nat → Nat) : Nat → Int32 := fun j => nI (f j)
theorem x1 {D : va_G} {cl : List vw_C} {q : Nat × va_E} {H : Heap} (h : va_at D cl q H) : va_P D cl [q] H := by
  intro k q' hk
  cases k with
  | zero => simp at hk; subst hk; exact h
  | succ k => simp at hk
/-- the tables of the classes and of the two kinds of arrays -/
abbrev xTy (cI cC : ClassId) : List (ClassId × FieldType) := [(cI, .int), (cC, .object RX0)]
abbrev xK (D : va_G) (cI cC : ClassId) (U : State) : Prop := va_K D vwCl (xTy cI cC) U
/-- what holds at a method's start: something of the heap, and the tables -/
def xB (D : va_G) (cI cC : ClassId) (P : Heap → Prop) : State → Prop := fun U => P U.heap ∧ xK D cI cC U
theorem xB_blind {D : va_G} {cI cC : ClassId} {P : Heap → Prop} {av : List Value} : FrameBlind (va_Pc av (xB D cI cC P)) := fun a U g mk q => by
  obtain ⟨q0, qP, qK⟩ := q
  exact ⟨q0, qP, va_K.moved (u := U) (U := U.calling g mk a) (Vm.Alike.refl U.vm) qK⟩
theorem xPV {D : va_G} {cI cC : ClassId} {P : Heap → Prop} {As : List Value} {s : State} {H : Heap} {C : String} {b : Addr} (hK : xK D cI cC s) (hP : P H) (hr : ∃ cellB : Cell, H[b]? = some cellB ∧ cellB.vm.isStatics = false ∧ s.vm.findClass C = some cellB.cls) : PreV s H C b (va_Pc (.ref b :: As) (xB D cI cC P)) As :=
  ⟨xB_blind, hr, fun U hU hW => ⟨rfl, by rw [hU]; exact hP, va_K.moved hW.alike hK⟩⟩
theorem xPS {D : va_G} {cI cC : ClassId} {P : Heap → Prop} {As : List Value} {s : State} {H : Heap} (hK : xK D cI cC s) (hP : P H) : PreS s H (va_Pc As (xB D cI cC P)) As :=
  ⟨xB_blind, fun U hU hW => ⟨rfl, by rw [hU]; exact hP, va_K.moved hW.alike hK⟩⟩
theorem xRecv {D : va_G} {cI cC : ClassId} {s : State} {H : Heap} {a ci : Nat} {q : vw_C} {fs : List Value} (hK : xK D cI cC s) (hc : vwCl[ci]? = some q) (h : va_at D vwCl (a, .inr (ci, fs)) H) : ∃ cell : Cell, H[a]? = some cell ∧ cell.vm.isStatics = false ∧ s.vm.findClass q.1 = some cell.cls :=
  va_recv hK (x1 h) (q0 := 0) hc rfl
/-- a method's end with a world told of the heap alone -/
def xV {S : Type} (post : S → Prop) (F : S → Heap → Prop) (A : Nat → Prop) := va_Qv post (fun u t => F u t.heap) A
def xI {S : Type} (post : Int32 → S → Prop) (F : S → Heap → Prop) (A : Nat → Prop) := va_Qi post (fun u t => F u t.heap) A
def xL {S : Type} (post : Int64 → S → Prop) (F : S → Heap → Prop) (A : Nat → Prop) := va_Ql post (fun u t => F u t.heap) A
def xR {S : Type} (post : S → Prop) (F : S → Nat → Heap → Prop) (A : Nat → Prop) := va_Qr post (fun u a t => F u a t.heap) A
section XL
variable {p : Program} {l : Launch} {e : Env} {R : Room} {s : State} {m : MethodId} {args : Array Value} {below : List Frame} {meth : Method} {c : Code} {H : Heap} {locs : List Loc} {cells slots : Nat} {Q : State → Prop}
variable {cc : ByteArray} {pc : Nat} {ls : Array Slot} {rest : List Value}
theorem xz {st st' : List Value} (h : st = st') (k : W p l e R s m args below meth c H locs cells slots Q (F0 m pc ls st')) : W p l e R s m args below meth c H locs cells slots Q (F0 m pc ls st) := h ▸ k
theorem xz_i {x y : Int32} (h : x = y) (k : W p l e R s m args below meth c H locs cells slots Q (F0 m pc ls (.int y :: rest))) : W p l e R s m args below meth c H locs cells slots Q (F0 m pc ls (.int x :: rest)) := h ▸ k
theorem xz_l {x y : Int64} (h : x = y) (k : W p l e R s m args below meth c H locs cells slots Q (F0 m pc ls (.long y :: rest))) : W p l e R s m args below meth c H locs cells slots Q (F0 m pc ls (.long x :: rest)) := h ▸ k
theorem xn_iadd (hx : p.tables.exec = Jvm.exec) (hb : c.code = cc) {a b : Nat} (hdg : decode cc pc = .ok (.iadd, 1)) (k : W p l e R s m args below meth c H locs cells slots Q (F0 m (pc + 1) ls (.int (nI (a + b)) :: rest))) : W p l e R s m args below meth c H locs cells slots Q (F0 m pc ls (.int (nI b) :: .int (nI a) :: rest)) :=
  lv_iadd hx hb hdg (xz_i (nI_add a b) k)
theorem xn_isub (hx : p.tables.exec = Jvm.exec) (hb : c.code = cc) {a b : Nat} (h : b ≤ a) (hdg : decode cc pc = .ok (.isub, 1)) (k : W p l e R s m args below meth c H locs cells slots Q (F0 m (pc + 1) ls (.int (nI (a - b)) :: rest))) : W p l e R s m args below meth c H locs cells slots Q (F0 m pc ls (.int (nI b) :: .int (nI a) :: rest)) :=
  lv_isub hx hb hdg (xz_i (pk_sub h) k)
theorem xn_imul (hx : p.tables.exec = Jvm.exec) (hb : c.code = cc) {a b : Nat} (hdg : decode cc pc = .ok (.imul, 1)) (k : W p l e R s m args below meth c H locs cells slots Q (F0 m (pc + 1) ls (.int (nI (a * b)) :: rest))) : W p l e R s m args below meth c H locs cells slots Q (F0 m pc ls (.int (nI b) :: .int (nI a) :: rest)) :=
  lv_imul hx hb hdg (xz_i (pk_mul a b) k)
theorem xn_iconst (hx : p.tables.exec = Jvm.exec) (hb : c.code = cc) {n : Int} (v : Nat) (hdg : decode cc pc = .ok (.iconst n, 1)) (hv : Int32.ofInt n = nI v) (k : W p l e R s m args below meth c H locs cells slots Q (F0 m (pc + 1) ls (.int (nI v) :: rest))) : W p l e R s m args below meth c H locs cells slots Q (F0 m pc ls rest) :=
  lv_iconst hx hb hdg hv k
theorem xn_bipush (hx : p.tables.exec = Jvm.exec) (hb : c.code = cc) {n : Int} (v : Nat) (hdg : decode cc pc = .ok (.bipush n, 2)) (hv : (Int8.ofInt n).toInt32 = nI v) (k : W p l e R s m args below meth c H locs cells slots Q (F0 m (pc + 2) ls (.int (nI v) :: rest))) : W p l e R s m args below meth c H locs cells slots Q (F0 m pc ls rest) :=
  lv_bipush hx hb hdg hv k
theorem xn_sipush (hx : p.tables.exec = Jvm.exec) (hb : c.code = cc) {n : Int} (v : Nat) (hdg : decode cc pc = .ok (.sipush n, 3)) (hv : (Int16.ofInt n).toInt32 = nI v) (k : W p l e R s m args below meth c H locs cells slots Q (F0 m (pc + 3) ls (.int (nI v) :: rest))) : W p l e R s m args below meth c H locs cells slots Q (F0 m pc ls rest) :=
  lv_sipush hx hb hdg hv k
theorem xn_iinc (hx : p.tables.exec = Jvm.exec) (hb : c.code = cc) {i nL k v : Nat} {n : Int} {x : Nat} {lv lv' : List (Nat × Value)} (hdg : decode cc pc = .ok (.iinc i n, 3)) (h : lv_has ls nL lv) (hk : lv[k]? = some (i, .int (nI x))) (hv : nI x + Int32.ofInt n = nI v) (hn : i < nL) (hl : (i, Value.int (nI v)) :: lv.filter (fun q => !(q.1 == i) && !(q.1 + 1 == i && q.2.category == 2)) = lv')
    (kk : ∀ ls' : Array Slot, lv_has ls' nL lv' → W p l e R s m args below meth c H locs cells slots Q (F0 m (pc + 3) ls' rest)) : W p l e R s m args below meth c H locs cells slots Q (F0 m pc ls rest) :=
  lv_iinc hx hb hdg h hk hv hn hl kk
section
variable {x y : Nat} {off : Int} {tgt : Nat}
theorem xn_icmp_lt (hx : p.tables.exec = Jvm.exec) (hb : c.code = cc) (hdg : decode cc pc = .ok (.if_icmp .lt off, 3)) (ht : (pc : Int) + off = (tgt : Int)) (bx : x < 2 ^ 31) (bY : y < 2 ^ 31)
    (kt : x < y → W p l e R s m args below meth c H locs cells slots Q (F0 m tgt ls rest)) (kf : y ≤ x → W p l e R s m args below meth c H locs cells slots Q (F0 m (pc + 3) ls rest)) : W p l e R s m args below meth c H locs cells slots Q (F0 m pc ls (.int (nI y) :: .int (nI x) :: rest)) :=
  lv_icmp_lt hx hb hdg ht (fun h => kt ((nI_ltI bx bY).mp h)) (fun h => kf (Nat.le_of_not_lt fun q => h ((nI_ltI bx bY).mpr q)))
theorem xn_icmp_ge (hx : p.tables.exec = Jvm.exec) (hb : c.code = cc) (hdg : decode cc pc = .ok (.if_icmp .ge off, 3)) (ht : (pc : Int) + off = (tgt : Int)) (bx : x < 2 ^ 31) (bY : y < 2 ^ 31)
    (kt : y ≤ x → W p l e R s m args below meth c H locs cells slots Q (F0 m tgt ls rest)) (kf : x < y → W p l e R s m args below meth c H locs cells slots Q (F0 m (pc + 3) ls rest)) : W p l e R s m args below meth c H locs cells slots Q (F0 m pc ls (.int (nI y) :: .int (nI x) :: rest)) :=
  lv_icmp_ge hx hb hdg ht (fun h => kt ((nI_leI bY bx).mp h)) (fun h => kf (Nat.lt_of_not_le fun q => h ((nI_leI bY bx).mpr q)))
theorem xn_icmp_gt (hx : p.tables.exec = Jvm.exec) (hb : c.code = cc) (hdg : decode cc pc = .ok (.if_icmp .gt off, 3)) (ht : (pc : Int) + off = (tgt : Int)) (bx : x < 2 ^ 31) (bY : y < 2 ^ 31)
    (kt : y < x → W p l e R s m args below meth c H locs cells slots Q (F0 m tgt ls rest)) (kf : x ≤ y → W p l e R s m args below meth c H locs cells slots Q (F0 m (pc + 3) ls rest)) : W p l e R s m args below meth c H locs cells slots Q (F0 m pc ls (.int (nI y) :: .int (nI x) :: rest)) :=
  lv_icmp_gt hx hb hdg ht (fun h => kt ((nI_ltI bY bx).mp h)) (fun h => kf (Nat.le_of_not_lt fun q => h ((nI_ltI bY bx).mpr q)))
theorem xn_icmp_le (hx : p.tables.exec = Jvm.exec) (hb : c.code = cc) (hdg : decode cc pc = .ok (.if_icmp .le off, 3)) (ht : (pc : Int) + off = (tgt : Int)) (bx : x < 2 ^ 31) (bY : y < 2 ^ 31)
    (kt : x ≤ y → W p l e R s m args below meth c H locs cells slots Q (F0 m tgt ls rest)) (kf : y < x → W p l e R s m args below meth c H locs cells slots Q (F0 m (pc + 3) ls rest)) : W p l e R s m args below meth c H locs cells slots Q (F0 m pc ls (.int (nI y) :: .int (nI x) :: rest)) :=
  lv_icmp_le hx hb hdg ht (fun h => kt ((nI_leI bx bY).mp h)) (fun h => kf (Nat.lt_of_not_le fun q => h ((nI_leI bx bY).mpr q)))
theorem xn_icmp_eq (hx : p.tables.exec = Jvm.exec) (hb : c.code = cc) (hdg : decode cc pc = .ok (.if_icmp .eq off, 3)) (ht : (pc : Int) + off = (tgt : Int)) (bx : x < 2 ^ 31) (bY : y < 2 ^ 31)
    (kt : x = y → W p l e R s m args below meth c H locs cells slots Q (F0 m tgt ls rest)) (kf : x ≠ y → W p l e R s m args below meth c H locs cells slots Q (F0 m (pc + 3) ls rest)) : W p l e R s m args below meth c H locs cells slots Q (F0 m pc ls (.int (nI y) :: .int (nI x) :: rest)) :=
  lv_icmp_eq hx hb hdg ht (fun h => kt ((nI_eq bx bY).mp h)) (fun h => kf fun q => h ((nI_eq bx bY).mpr q))
theorem xn_icmp_ne (hx : p.tables.exec = Jvm.exec) (hb : c.code = cc) (hdg : decode cc pc = .ok (.if_icmp .ne off, 3)) (ht : (pc : Int) + off = (tgt : Int)) (bx : x < 2 ^ 31) (bY : y < 2 ^ 31)
    (kt : x ≠ y → W p l e R s m args below meth c H locs cells slots Q (F0 m tgt ls rest)) (kf : x = y → W p l e R s m args below meth c H locs cells slots Q (F0 m (pc + 3) ls rest)) : W p l e R s m args below meth c H locs cells slots Q (F0 m pc ls (.int (nI y) :: .int (nI x) :: rest)) :=
  lv_icmp_ne hx hb hdg ht (fun h => kt fun q => h ((nI_eq bx bY).mpr q)) (fun h => kf ((nI_eq bx bY).mp h))
theorem xn_if_eq (hx : p.tables.exec = Jvm.exec) (hb : c.code = cc) (hdg : decode cc pc = .ok (.ifCond .eq off, 3)) (ht : (pc : Int) + off = (tgt : Int)) (bx : x < 2 ^ 31)
    (kt : x = 0 → W p l e R s m args below meth c H locs cells slots Q (F0 m tgt ls rest)) (kf : 0 < x → W p l e R s m args below meth c H locs cells slots Q (F0 m (pc + 3) ls rest)) : W p l e R s m args below meth c H locs cells slots Q (F0 m pc ls (.int (nI x) :: rest)) :=
  lv_if_eq hx hb hdg ht (fun h => kt ((nI_eq (b := 0) bx (by decide)).mp h)) (fun h => kf (Nat.pos_of_ne_zero fun q => h ((nI_eq (b := 0) bx (by decide)).mpr q)))
theorem xn_if_ne (hx : p.tables.exec = Jvm.exec) (hb : c.code = cc) (hdg : decode cc pc = .ok (.ifCond .ne off, 3)) (ht : (pc : Int) + off = (tgt : Int)) (bx : x < 2 ^ 31)
    (kt : 0 < x → W p l e R s m args below meth c H locs cells slots Q (F0 m tgt ls rest)) (kf : x = 0 → W p l e R s m args below meth c H locs cells slots Q (F0 m (pc + 3) ls rest)) : W p l e R s m args below meth c H locs cells slots Q (F0 m pc ls (.int (nI x) :: rest)) :=
  lv_if_ne hx hb hdg ht (fun h => kt (Nat.pos_of_ne_zero fun q => h ((nI_eq (b := 0) bx (by decide)).mpr q))) (fun h => kf ((nI_eq (b := 0) bx (by decide)).mp h))
theorem xn_if_le (hx : p.tables.exec = Jvm.exec) (hb : c.code = cc) (hdg : decode cc pc = .ok (.ifCond .le off, 3)) (ht : (pc : Int) + off = (tgt : Int)) (bx : x < 2 ^ 31)
    (kt : x = 0 → W p l e R s m args below meth c H locs cells slots Q (F0 m tgt ls rest)) (kf : 0 < x → W p l e R s m args below meth c H locs cells slots Q (F0 m (pc + 3) ls rest)) : W p l e R s m args below meth c H locs cells slots Q (F0 m pc ls (.int (nI x) :: rest)) :=
  lv_if_le hx hb hdg ht (fun h => kt (Nat.le_zero.mp ((nI_leI (b := 0) bx (by decide)).mp h))) (fun h => kf (Nat.pos_of_ne_zero fun q => h ((nI_leI (b := 0) bx (by decide)).mpr (Nat.le_of_eq q))))
theorem xn_if_gt (hx : p.tables.exec = Jvm.exec) (hb : c.code = cc) (hdg : decode cc pc = .ok (.ifCond .gt off, 3)) (ht : (pc : Int) + off = (tgt : Int)) (bx : x < 2 ^ 31)
    (kt : 0 < x → W p l e R s m args below meth c H locs cells slots Q (F0 m tgt ls rest)) (kf : x = 0 → W p l e R s m args below meth c H locs cells slots Q (F0 m (pc + 3) ls rest)) : W p l e R s m args below meth c H locs cells slots Q (F0 m pc ls (.int (nI x) :: rest)) :=
  lv_if_gt hx hb hdg ht (fun h => kt ((nI_ltI (a := 0) (by decide) bx).mp h)) (fun h => kf (Nat.eq_zero_of_not_pos fun q => h ((nI_ltI (a := 0) (by decide) bx).mpr q)))
theorem xn_if_lt (hx : p.tables.exec = Jvm.exec) (hb : c.code = cc) (hdg : decode cc pc = .ok (.ifCond .lt off, 3)) (ht : (pc : Int) + off = (tgt : Int)) (bx : x < 2 ^ 31)
    (kf : W p l e R s m args below meth c H locs cells slots Q (F0 m (pc + 3) ls rest)) : W p l e R s m args below meth c H locs cells slots Q (F0 m pc ls (.int (nI x) :: rest)) :=
  lv_if_lt hx hb hdg ht (fun h => absurd h (nI_pos bx)) (fun _ => kf)
theorem xn_if_ge (hx : p.tables.exec = Jvm.exec) (hb : c.code = cc) (hdg : decode cc pc = .ok (.ifCond .ge off, 3)) (ht : (pc : Int) + off = (tgt : Int)) (bx : x < 2 ^ 31)
    (kt : W p l e R s m args below meth c H locs cells slots Q (F0 m tgt ls rest)) : W p l e R s m args below meth c H locs cells slots Q (F0 m pc ls (.int (nI x) :: rest)) :=
  lv_if_ge hx hb hdg ht (fun _ => kt) (fun h => absurd (nI_pos' bx) h)
end
section
variable {D : va_G} {cI cC cA : ClassId} {a n : Nat}
/-- reading a field of an object -/
theorem x_get (hx : p.tables.exec = Jvm.exec) (hb : c.code = cc) {own ref C : String} {T : u_T} {N ci index : Nat} {Ts : List Cond} (hts : ∀ w ∈ Ts, w.before args s = true) (hin : ∀ w ∈ u_ws C T N, w ∈ Ts) (hown : s.vm.findClass own = some m.cls) (hK : xK D cI cC s) {fs : List Value} (hat : va_at D vwCl (a, .inr (ci, fs)) H) (hc : vwCl[ci]? = some (C, T, N)) (k : Nat) (hk : k < N) (hlink : (Cond.fieldLink own index ref (T k).2.1 (T k).2.2.1).before args s = true) (hsame : ∀ x, s.fieldFound? (T k).1 (T k).2.1 (T k).2.2.1 = some x → s.fieldFound? ref (T k).2.1 (T k).2.2.1 = some x) {v : Value} (hv : fs[k]? = some v) (hdg : decode cc pc = .ok (.getfield index, 3))
    (kk : W p l e R s m args below meth c H locs cells slots Q (F0 m (pc + 3) ls (v :: rest))) : W p l e R s m args below meth c H locs cells slots Q (F0 m pc ls (.ref a :: rest)) :=
  va_get hx hb hts hin hown hK (x1 hat) 0 rfl hc k hk hlink hsame hv hdg kk
theorem x_iald (hx : p.tables.exec = Jvm.exec) (hb : c.code = cc) (hK : xK D cI cC s) {f : Nat → Nat} (hat : va_at D vwCl (a, .inl (cI, n, .inl (xA f))) H) {i : Nat} (hi : i < n) (hn : n < 2 ^ 31) (hdg : decode cc pc = .ok (.iaload, 1))
    (kk : W p l e R s m args below meth c H locs cells slots Q (F0 m (pc + 1) ls (.int (nI (f i)) :: rest))) : W p l e R s m args below meth c H locs cells slots Q (F0 m pc ls (.int (nI i) :: .ref a :: rest)) :=
  va_iald hx hb hK (x1 hat) 0 0 rfl rfl (vp_in_nI hi hn) hdg (by rw [nI_clamp (Nat.lt_trans hi hn)]; exact kk)
theorem x_alen (hx : p.tables.exec = Jvm.exec) (hb : c.code = cc) (hK : xK D cI cC s) {f : Nat → Int32} (hat : va_at D vwCl (a, .inl (cI, n, .inl f)) H) (hdg : decode cc pc = .ok (.arraylength, 1))
    (kk : W p l e R s m args below meth c H locs cells slots Q (F0 m (pc + 1) ls (.int (nI n) :: rest))) : W p l e R s m args below meth c H locs cells slots Q (F0 m pc ls (.ref a :: rest)) :=
  va_alen hx hb hK (x1 hat) 0 0 rfl (ty := .int) rfl rfl hdg kk
theorem x_alenC (hx : p.tables.exec = Jvm.exec) (hb : c.code = cc) (hK : xK D cI cC s) {f : Nat → Option Nat} (hat : va_at D vwCl (a, .inl (cC, n, .inr (.inr (.inr (.inr f))))) H) (hdg : decode cc pc = .ok (.arraylength, 1))
    (kk : W p l e R s m args below meth c H locs cells slots Q (F0 m (pc + 1) ls (.int (nI n) :: rest))) : W p l e R s m args below meth c H locs cells slots Q (F0 m pc ls (.ref a :: rest)) :=
  va_alen hx hb hK (x1 hat) 0 1 rfl (ty := .object RX0) rfl rfl hdg kk
theorem x_aald (hx : p.tables.exec = Jvm.exec) (hb : c.code = cc) (hK : xK D cI cC s) {f : Nat → Nat} (hat : va_at D vwCl (a, .inl (cC, n, .inr (.inr (.inr (.inr (fun k => some (f k))))))) H) {i : Nat} (hi : i < n) (hn : n < 2 ^ 31) (hdg : decode cc pc = .ok (.aaload, 1))
    (kk : W p l e R s m args below meth c H locs cells slots Q (F0 m (pc + 1) ls (.ref (f i) :: rest))) : W p l e R s m args below meth c H locs cells slots Q (F0 m pc ls (.int (nI i) :: .ref a :: rest)) :=
  va_aldq hx hb hK (x1 hat) 0 1 rfl rfl (vp_in_nI hi hn) hdg (by rw [nI_clamp (Nat.lt_trans hi hn)]; exact kk)
theorem xA_up (f : Nat → Nat) (i v : Nat) : upd (xA f) i (nI v) = xA (va_up f i v) := by
  funext j
  by_cases h : j = i <;> simp [upd, xA, va_up, h]
/-- writing a place of an int array -/
theorem x_iast (hx : p.tables.exec = Jvm.exec) (hb : c.code = cc) (hK : xK D cI cC s) {f : Nat → Nat} (hat : va_at D vwCl (a, .inl (cI, n, .inl (xA f))) H) {A : Nat → Prop} {H0 : Heap} (hS : va_S A H0 H locs) (hA : A a) {i v : Nat} (hi : i < n) (hn : n < 2 ^ 31) (hdg : decode cc pc = .ok (.iastore, 1))
    (kk : ∀ (H1 : Heap) (locs1 : List Loc), va_at D vwCl (a, .inl (cI, n, .inl (xA (va_up f i v)))) H1 → H1.size = H.size → (∀ q : Nat, q ≠ a → H1[q]? = H[q]?) → va_S A H0 H1 locs1 → W p l e R s m args below meth c H1 locs1 cells slots Q (F0 m (pc + 1) ls rest)) : W p l e R s m args below meth c H locs cells slots Q (F0 m pc ls (.int (nI v) :: .int (nI i) :: .ref a :: rest)) := by
  have hin : vp_in (nI i) n := vp_in_nI hi hn
  refine W.iast hx hb (x1 hat 0 _ rfl) ((hK.2 0 _ rfl).1 n (fun j => .int (xA f j))) (fun q => by cases q) (by show ¬ (nI i < 0 ∨ (arrV _ _ _).slots.size ≤ _); rw [arrV_size]; exact hin) rfl rfl hdg fun H1 e z oq => ?_
  refine kk H1 _ ?_ z oq (hS.put z oq hA)
  show H1[a]? = some (vp_cell _ _)
  rw [e, vp_cell_i, vp_cell_i, arrV_store, nI_clamp (Nat.lt_trans hi hn), ← xA_up]
  congr 2
  funext q
  by_cases hq : q = i
  · subst hq
    simp [updV, upd]
  · simp [updV, upd, hq]
/-- writing a field -/
theorem x_put (hx : p.tables.exec = Jvm.exec) (hb : c.code = cc) {own ref C : String} {T : u_T} {N ci index : Nat} {Ts : List Cond} (hts : ∀ w ∈ Ts, w.before args s = true) (hin : ∀ w ∈ u_ws C T N, w ∈ Ts) (ty0 : Nat → FieldType) (hty : ∀ k, k < N → parseFieldDescriptor (T k).2.2.1 = some (ty0 k)) (hnm : ∀ a, a < N → ∀ b, b < N → a ≠ b → (T a).2.1 ≠ (T b).2.1) (hown : s.vm.findClass own = some m.cls) (hK : xK D cI cC s) {fs : List Value} (hat : va_at D vwCl (a, .inr (ci, fs)) H) {A : Nat → Prop} {H0 : Heap} (hS0 : va_S A H0 H locs) (hA : A a) (hc : vwCl[ci]? = some (C, T, N)) (k : Nat) (hk : k < N) (hlink : (Cond.fieldLink own index ref (T k).2.1 (T k).2.2.1).before args s = true) (hsame : ∀ x, s.fieldFound? (T k).1 (T k).2.1 (T k).2.2.1 = some x → s.fieldFound? ref (T k).2.1 (T k).2.2.1 = some x) (hfin : (T k).2.2.2 = false) {ty : FieldType} {v : Value} (hd : parseFieldDescriptor (T k).2.2.1 = some ty) (hn : narrow ty v = v) (hfit : fits ty v = true) (hl : k < fs.length)
    (hdg : decode cc pc = .ok (.putfield index, 3)) (kk : ∀ (H1 : Heap) (locs1 : List Loc), va_at D vwCl (a, .inr (ci, fs.set k v)) H1 → H1.size = H.size → (∀ q : Nat, q ≠ a → H1[q]? = H[q]?) → va_S A H0 H1 locs1 → W p l e R s m args below meth c H1 locs1 cells slots Q (F0 m (pc + 3) ls rest)) : W p l e R s m args below meth c H locs cells slots Q (F0 m pc ls (v :: .ref a :: rest)) := by
  have hap := va_apart (own := own) hts hin ty0 hty hnm hK hc
  obtain ⟨r, h1, cell, q1, q2, q3, q4⟩ := x1 hat 0 _ rfl
  have hr : r = (C, T, N) := Option.some.inj (h1.symm.trans hc)
  subst hr
  obtain ⟨hS, hfc, kC, hkC, hkind⟩ := hK.1 ci _ hc
  obtain ⟨cf, kf, fi, f, hi, hsl⟩ := hS k hk
  have hlay := hts _ (hin _ (u_in_lay hk))
  unfold u_lay at hlay
  rw [if_neg (by rw [hfin]; decide)] at hlay
  have hst := (u_facts hfc hkC (u_lays hts hin hk) hi).1
  have h6 := u_store hfc hkC hkind hlay hi hd hn hfit
  refine W.putK hx hb (f := f) ⟨hown, hlink, ⟨_, _, _, hsame _ hi⟩, hst⟩ (by rw [q2]; exact h6) q1 q3 (by rw [hsl]; exact k2_hasslot (q4 k hk)) rfl rfl hdg fun H' e1 e2 e3 => ?_
  rw [hsl] at e1 ⊢
  exact kk H' _ ⟨_, hc, t_OB.to (V := updV (vp_V fs) k v) ⟨_, e1, q2, q3, t_set q4 hap hk v⟩ (fun j _ => vp_updV_set hl v j)⟩ e2 e3 (hS0.put e2 e3 hA)
end
section
variable {D : va_G} {cI cC : ClassId} {P : Heap → Prop} {y : MethodName} {bytes : ByteArray} {maxL nL mc ms n index : Nat} {ret : Option FieldType} {ws : List Cond} {rm : Room} {free : Addr → Prop} {Ts : List Cond} {own C : String} {b : Addr} {As st0 : List Value} {A0 : Nat → Prop} {H0 : Heap}
/-- a call of a method that only reads and answers an int -/
theorem xcV {post : Int32 → Prop} (S : CallFix p m c cc nL s args Ts own) (hM : Met l y ws rm (va_Pc (.ref b :: As) (xB D cI cC P)) (vp_Si post) 0 0 (fun _ => False)) (cw : CallW R s args own C index y bytes maxL ret ws rm 0 0 n) (hK : xK D cI cC s) (hP : P H) (hr : ∃ cellB : Cell, H[b]? = some cellB ∧ cellB.vm.isStatics = false ∧ s.vm.findClass C = some cellB.cls)
    (hn : As.length = n) (hl : ls.size = nL) (hst : st0 = As.reverse ++ .ref b :: rest) (hcat : (rest.map fun v => v.category).sum ≤ 8) (hdg : decode cc pc = .ok (.invokevirtual index, 3)) (hf : cells ≤ R.cells ∧ slots ≤ R.slots)
    (kk : ∀ r : Int32, post r → W p l e R s m args below meth c H locs cells slots Q (F0 m (pc + 3) ls (.int r :: rest))) : W p l e R s m args below meth c H locs cells slots Q (F0 m pc ls st0) :=
  vp_callSi (W.runV S hM cw (xPV hK hP hr) rfl hn hl hst (lv_room hcat) hdg hf) kk
theorem xcS {post : Int32 → Prop} (S : CallFix p m c cc nL s args Ts own) (hM : Met l y ws rm (va_Pc As (xB D cI cC P)) (vp_Si post) 0 0 (fun _ => False)) (cw : CallB R s args own index y bytes maxL ret ws rm 0 0 n ∧ (Cond.static y).before args s = true) (hK : xK D cI cC s) (hP : P H)
    (hn : As.length = n) (hl : ls.size = nL) (hst : st0 = As.reverse ++ rest) (hcat : (rest.map fun v => v.category).sum ≤ 8) (hdg : decode cc pc = .ok (.invokestatic index, 3)) (hf : cells ≤ R.cells ∧ slots ≤ R.slots)
    (kk : ∀ r : Int32, post r → W p l e R s m args below meth c H locs cells slots Q (F0 m (pc + 3) ls (.int r :: rest))) : W p l e R s m args below meth c H locs cells slots Q (F0 m pc ls st0) :=
  vp_callSi (W.runS S hM cw (xPS hK hP) rfl hn hl hst (lv_room hcat) hdg hf) kk
/-- a call of a method that writes, void -/
theorem xmV {S0 : Type} {post : S0 → Prop} {F : S0 → Heap → Prop} {A1 : Nat → Prop} (S : CallFix p m c cc nL s args Ts own) (hM : Met l y ws rm (va_Pc (.ref b :: As) (xB D cI cC P)) (xV post F A1) mc ms free) (cw : CallW R s args own C index y bytes maxL ret ws rm mc ms n) (hK : xK D cI cC s) (hP : P H) (hr : ∃ cellB : Cell, H[b]? = some cellB ∧ cellB.vm.isStatics = false ∧ s.vm.findClass C = some cellB.cls)
    (hn : As.length = n) (hl : ls.size = nL) (hst : st0 = As.reverse ++ .ref b :: rest) (hcat : (rest.map fun v => v.category).sum ≤ 8) (hdg : decode cc pc = .ok (.invokevirtual index, 3)) (hf : cells + mc ≤ R.cells ∧ slots + ms ≤ R.slots)
    (hS : va_S A0 H0 H locs) (hA : ∀ q, A1 q → A0 q) (hfr : ∀ q, free q → A0 q)
    (kk : ∀ (u : S0) (H1 : Heap) (locs1 : List Loc), post u → F u H1 → H.size ≤ H1.size → (∀ q : Nat, q < H.size → ¬ A1 q → H1[q]? = H[q]?) → va_S A0 H0 H1 locs1 → W p l e R s m args below meth c H1 locs1 (cells + mc) (slots + ms) Q (F0 m (pc + 3) ls rest)) : W p l e R s m args below meth c H locs cells slots Q (F0 m pc ls st0) :=
  va_callv (va_runV S hM cw (xPV hK hP hr) rfl hn hl hst (lv_room hcat) hdg hf) hS (fun q _ h => hA q h) hfr (fun u t H1 locs1 ht _ hp hF hz hk hS1 => kk u H1 locs1 hp (ht ▸ hF) hz hk hS1)
/-- a call of a method that writes and answers an int -/
theorem xmI {S0 : Type} {post : Int32 → S0 → Prop} {F : S0 → Heap → Prop} {A1 : Nat → Prop} (S : CallFix p m c cc nL s args Ts own) (hM : Met l y ws rm (va_Pc (.ref b :: As) (xB D cI cC P)) (xI post F A1) mc ms free) (cw : CallW R s args own C index y bytes maxL ret ws rm mc ms n) (hK : xK D cI cC s) (hP : P H) (hr : ∃ cellB : Cell, H[b]? = some cellB ∧ cellB.vm.isStatics = false ∧ s.vm.findClass C = some cellB.cls)
    (hn : As.length = n) (hl : ls.size = nL) (hst : st0 = As.reverse ++ .ref b :: rest) (hcat : (rest.map fun v => v.category).sum ≤ 8) (hdg : decode cc pc = .ok (.invokevirtual index, 3)) (hf : cells + mc ≤ R.cells ∧ slots + ms ≤ R.slots)
    (hS : va_S A0 H0 H locs) (hA : ∀ q, A1 q → A0 q) (hfr : ∀ q, free q → A0 q)
    (kk : ∀ (r : Int32) (u : S0) (H1 : Heap) (locs1 : List Loc), post r u → F u H1 → H.size ≤ H1.size → (∀ q : Nat, q < H.size → ¬ A1 q → H1[q]? = H[q]?) → va_S A0 H0 H1 locs1 → W p l e R s m args below meth c H1 locs1 (cells + mc) (slots + ms) Q (F0 m (pc + 3) ls (.int r :: rest))) : W p l e R s m args below meth c H locs cells slots Q (F0 m pc ls st0) :=
  va_calli (va_runV S hM cw (xPV hK hP hr) rfl hn hl hst (lv_room hcat) hdg hf) hS (fun q _ h => hA q h) hfr (fun r u t H1 locs1 ht _ hp hF hz hk hS1 => kk r u H1 locs1 hp (ht ▸ hF) hz hk hS1)
theorem xmL {S0 : Type} {post : Int64 → S0 → Prop} {F : S0 → Heap → Prop} {A1 : Nat → Prop} (S : CallFix p m c cc nL s args Ts own) (hM : Met l y ws rm (va_Pc (.ref b :: As) (xB D cI cC P)) (xL post F A1) mc ms free) (cw : CallW R s args own C index y bytes maxL ret ws rm mc ms n) (hK : xK D cI cC s) (hP : P H) (hr : ∃ cellB : Cell, H[b]? = some cellB ∧ cellB.vm.isStatics = false ∧ s.vm.findClass C = some cellB.cls)
    (hn : As.length = n) (hl : ls.size = nL) (hst : st0 = As.reverse ++ .ref b :: rest) (hcat : (rest.map fun v => v.category).sum ≤ 8) (hdg : decode cc pc = .ok (.invokevirtual index, 3)) (hf : cells + mc ≤ R.cells ∧ slots + ms ≤ R.slots)
    (hS : va_S A0 H0 H locs) (hA : ∀ q, A1 q → A0 q) (hfr : ∀ q, free q → A0 q)
    (kk : ∀ (r : Int64) (u : S0) (H1 : Heap) (locs1 : List Loc), post r u → F u H1 → H.size ≤ H1.size → (∀ q : Nat, q < H.size → ¬ A1 q → H1[q]? = H[q]?) → va_S A0 H0 H1 locs1 → W p l e R s m args below meth c H1 locs1 (cells + mc) (slots + ms) Q (F0 m (pc + 3) ls (.long r :: rest))) : W p l e R s m args below meth c H locs cells slots Q (F0 m pc ls st0) :=
  va_calll (va_runV S hM cw (xPV hK hP hr) rfl hn hl hst (lv_room hcat) hdg hf) hS (fun q _ h => hA q h) hfr (fun r u t H1 locs1 ht _ hp hF hz hk hS1 => kk r u H1 locs1 hp (ht ▸ hF) hz hk hS1)
/-- .. and answers a cell -/
theorem xmR {S0 : Type} {post : S0 → Prop} {F : S0 → Nat → Heap → Prop} {A1 : Nat → Prop} (S : CallFix p m c cc nL s args Ts own) (hM : Met l y ws rm (va_Pc (.ref b :: As) (xB D cI cC P)) (xR post F A1) mc ms free) (cw : CallW R s args own C index y bytes maxL ret ws rm mc ms n) (hK : xK D cI cC s) (hP : P H) (hr : ∃ cellB : Cell, H[b]? = some cellB ∧ cellB.vm.isStatics = false ∧ s.vm.findClass C = some cellB.cls)
    (hn : As.length = n) (hl : ls.size = nL) (hst : st0 = As.reverse ++ .ref b :: rest) (hcat : (rest.map fun v => v.category).sum ≤ 8) (hdg : decode cc pc = .ok (.invokevirtual index, 3)) (hf : cells + mc ≤ R.cells ∧ slots + ms ≤ R.slots)
    (hS : va_S A0 H0 H locs) (hA : ∀ q, A1 q → A0 q) (hfr : ∀ q, free q → A0 q)
    (kk : ∀ (u : S0) (ra : Nat) (H1 : Heap) (locs1 : List Loc), post u → F u ra H1 → H.size ≤ H1.size → (∀ q : Nat, q < H.size → ¬ A1 q → H1[q]? = H[q]?) → va_S A0 H0 H1 locs1 → W p l e R s m args below meth c H1 locs1 (cells + mc) (slots + ms) Q (F0 m (pc + 3) ls (.ref ra :: rest))) : W p l e R s m args below meth c H locs cells slots Q (F0 m pc ls st0) :=
  va_callr (va_runV S hM cw (xPV hK hP hr) rfl hn hl hst (lv_room hcat) hdg hf) hS (fun q _ h => hA q h) hfr (fun u ra t H1 locs1 ht _ hp hF hz hk hS1 => kk u ra H1 locs1 hp (ht ▸ hF) hz hk hS1)
end
/-- a loop that writes nothing -/
theorem x_loop {σ : Type} (μ : σ → Nat) (I : σ → Array Slot → Prop)
    (hs : ∀ (a : σ) (ls : Array Slot), I a ls → (∀ (b : σ) (ls' : Array Slot), I b ls' → μ b < μ a → W p l e R s m args below meth c H locs cells slots Q (F0 m pc ls' rest)) → W p l e R s m args below meth c H locs cells slots Q (F0 m pc ls rest)) :
    ∀ (a : σ) (ls : Array Slot), I a ls → W p l e R s m args below meth c H locs cells slots Q (F0 m pc ls rest) := by
  have key : ∀ (n : Nat) (a : σ), μ a < n → ∀ ls : Array Slot, I a ls → W p l e R s m args below meth c H locs cells slots Q (F0 m pc ls rest) := by
    intro n
    induction n with
    | zero => intro a h; exact absurd h (Nat.not_lt_zero _)
    | succ n ih =>
      intro a h ls hI
      exact hs a ls hI (fun b ls' hb hm => ih b (Nat.lt_of_lt_of_le hm (Nat.le_of_lt_succ h)) ls' hb)
  exact fun a ls hI => key (μ a + 1) a (Nat.lt_succ_self _) ls hI
/-- a loop that writes and makes -/
theorem x_loopH {σ : Type} (μ : σ → Nat) (I : σ → Heap → List Loc → Nat → Nat → Array Slot → Prop)
    (hs : ∀ (a : σ) (H : Heap) (locs : List Loc) (cells slots : Nat) (ls : Array Slot), I a H locs cells slots ls → (∀ (b : σ) (H' : Heap) (locs' : List Loc) (cells' slots' : Nat) (ls' : Array Slot), I b H' locs' cells' slots' ls' → μ b < μ a → W p l e R s m args below meth c H' locs' cells' slots' Q (F0 m pc ls' rest)) → W p l e R s m args below meth c H locs cells slots Q (F0 m pc ls rest)) :
    ∀ (a : σ) (H : Heap) (locs : List Loc) (cells slots : Nat) (ls : Array Slot), I a H locs cells slots ls → W p l e R s m args below meth c H locs cells slots Q (F0 m pc ls rest) := by
  have key : ∀ (n : Nat) (a : σ), μ a < n → ∀ (H : Heap) (locs : List Loc) (cells slots : Nat) (ls : Array Slot), I a H locs cells slots ls → W p l e R s m args below meth c H locs cells slots Q (F0 m pc ls rest) := by
    intro n
    induction n with
    | zero => intro a h; exact absurd h (Nat.not_lt_zero _)
    | succ n ih =>
      intro a h H locs cells slots ls hI
      exact hs a H locs cells slots ls hI (fun b H' locs' cells' slots' ls' hb hm => ih b (Nat.lt_of_lt_of_le hm (Nat.le_of_lt_succ h)) H' locs' cells' slots' ls' hb)
  exact fun a H locs cells slots ls hI => key (μ a + 1) a (Nat.lt_succ_self _) H locs cells slots ls hI
/-- the end of a method that only reads -/
theorem x_iret {post : Int32 → Prop} {v : Int32} {free : Addr → Prop} (hx : p.tables.exec = Jvm.exec) (hb : c.code = cc) (hr : meth.sig.returnType = some .int) (hlocks : meth.locks = false) (hH : H = s.heap) (hp : post v) (hdg : decode cc pc = .ok (.ireturn, 1)) : W p l e R s m args below meth c H [] cells slots (MQ below (vp_Si post) args s cells slots free) (F0 m pc ls [.int v]) :=
  W.iret hx hb hr (fun t ht _ => ⟨v, rfl, hp, ht.trans hH⟩) (fun _ h => by cases h) hdg hlocks
theorem x_zret {post : Int32 → Prop} {v : Int32} {free : Addr → Prop} (hx : p.tables.exec = Jvm.exec) (hb : c.code = cc) (hr : meth.sig.returnType = some .boolean) (hlocks : meth.locks = false) (hH : H = s.heap) (hn : narrow .boolean (.int v) = .int v) (hp : post v) (hdg : decode cc pc = .ok (.ireturn, 1)) : W p l e R s m args below meth c H [] cells slots (MQ below (vp_Si post) args s cells slots free) (F0 m pc ls [.int v]) :=
  W.zret hx hb hr hn (fun t ht _ => ⟨v, rfl, hp, ht.trans hH⟩) (fun _ h => by cases h) hdg hlocks
theorem x_vret {S0 : Type} {post : S0 → Prop} {F : S0 → Heap → Prop} {A free : Addr → Prop} (hx : p.tables.exec = Jvm.exec) (hb : c.code = cc) (hr : meth.sig.returnType = none) (hlocks : meth.locks = false) (u : S0) (hp : post u) (hF : F u H) (hS : va_S A s.heap H locs) (hf : ∀ q, A q → free q) (hdg : decode cc pc = .ok (.return_, 1)) : W p l e R s m args below meth c H locs cells slots (MQ below (xV post F A) args s cells slots free) (F0 m pc ls []) :=
  W.vret hx hb hr (fun t ht _ => ⟨⟨u, rfl, hp, by show F u t.heap; rw [ht]; exact hF⟩, hS.F ht⟩) (fun q h => hf _ (hS.2.2 q h)) hdg hlocks
theorem x_miret {S0 : Type} {post : Int32 → S0 → Prop} {F : S0 → Heap → Prop} {A free : Addr → Prop} {v : Int32} (hx : p.tables.exec = Jvm.exec) (hb : c.code = cc) (hr : meth.sig.returnType = some .int) (hlocks : meth.locks = false) (u : S0) (hp : post v u) (hF : F u H) (hS : va_S A s.heap H locs) (hf : ∀ q, A q → free q) (hdg : decode cc pc = .ok (.ireturn, 1)) : W p l e R s m args below meth c H locs cells slots (MQ below (xI post F A) args s cells slots free) (F0 m pc ls [.int v]) :=
  W.iret hx hb hr (fun t ht _ => ⟨⟨v, u, rfl, hp, by show F u t.heap; rw [ht]; exact hF⟩, hS.F ht⟩) (fun q h => hf _ (hS.2.2 q h)) hdg hlocks
theorem x_mlret {S0 : Type} {post : Int64 → S0 → Prop} {F : S0 → Heap → Prop} {A free : Addr → Prop} {v : Int64} (hx : p.tables.exec = Jvm.exec) (hb : c.code = cc) (hr : meth.sig.returnType = some .long) (hlocks : meth.locks = false) (u : S0) (hp : post v u) (hF : F u H) (hS : va_S A s.heap H locs) (hf : ∀ q, A q → free q) (hdg : decode cc pc = .ok (.lreturn, 1)) : W p l e R s m args below meth c H locs cells slots (MQ below (xL post F A) args s cells slots free) (F0 m pc ls [.long v]) :=
  W.lret hx hb hr (fun t ht _ => ⟨⟨v, u, rfl, hp, by show F u t.heap; rw [ht]; exact hF⟩, hS.F ht⟩) (fun q h => hf _ (hS.2.2 q h)) hdg hlocks
theorem x_maret {S0 : Type} {post : S0 → Prop} {F : S0 → Nat → Heap → Prop} {A free : Addr → Prop} {v : Nat} {rt : FieldType} (hx : p.tables.exec = Jvm.exec) (hb : c.code = cc) (hr : meth.sig.returnType = some rt) (hrt : (∃ n, rt = .object n) ∨ ∃ t, rt = .array t) (hlocks : meth.locks = false) (u : S0) (hp : post u) (hF : F u v H) (hS : va_S A s.heap H locs) (hf : ∀ q, A q → free q) (hdg : decode cc pc = .ok (.areturn, 1)) : W p l e R s m args below meth c H locs cells slots (MQ below (xR post F A) args s cells slots free) (F0 m pc ls [.ref v]) :=
  W.aret hx hb hr hrt (Or.inr ⟨v, rfl⟩) (fun t ht _ => ⟨⟨u, v, rfl, hp, by show F u v t.heap; rw [ht]; exact hF⟩, hS.F ht⟩) (fun q h => hf _ (hS.2.2 q h)) hdg hlocks
end XL
end
section
/-! WHAT THE METHODS COMPUTE, over natural numbers -/
theorem xinc1 (x : Nat) : nI x + Int32.ofInt 1 = nI (x + 1) := nI_1 x
theorem xinc2 (x : Nat) : nI x + Int32.ofInt 2 = nI (x + 2) := nI_add x 2
theorem xinc3 (x : Nat) : nI x + Int32.ofInt 3 = nI (x + 3) := nI_add x 3
def sm (g : Nat → Nat) : Nat → Nat
  | 0 => 0
  | k + 1 => sm g k + g k
theorem sm_succ (g : Nat → Nat) (k : Nat) : sm g (k + 1) = sm g k + g k := rfl
theorem sm_zero {g : Nat → Nat} : ∀ {k : Nat}, (∀ q, q < k → g q = 0) → sm g k = 0
  | 0, _ => rfl
  | k + 1, h => by rw [sm_succ, sm_zero (fun q hq => h q (Nat.lt_succ_of_lt hq)), h k (Nat.lt_succ_self k)]
theorem sm_congr {g g' : Nat → Nat} : ∀ {k : Nat}, (∀ q, q < k → g q = g' q) → sm g k = sm g' k
  | 0, _ => rfl
  | k + 1, h => by rw [sm_succ, sm_succ, sm_congr (fun q hq => h q (Nat.lt_succ_of_lt hq)), h k (Nat.lt_succ_self k)]
theorem sm_le {g : Nat → Nat} {b : Nat} : ∀ {k : Nat}, (∀ q, q < k → g q ≤ b) → sm g k ≤ k * b
  | 0, _ => by simp [sm]
  | k + 1, h => by
    have h1 := sm_le (k := k) (fun q hq => h q (Nat.lt_succ_of_lt hq))
    have h2 := h k (Nat.lt_succ_self k)
    rw [sm_succ, Nat.add_mul]
    omega
/-- the least number below n that has P, else n -/
def fnd (P : Nat → Bool) : Nat → Nat
  | 0 => 0
  | k + 1 => if fnd P k < k then fnd P k else if P k then k else k + 1
theorem fnd_spec (P : Nat → Bool) : ∀ n, fnd P n ≤ n ∧ (∀ i, i < fnd P n → P i = false) ∧ (fnd P n < n → P (fnd P n) = true)
  | 0 => ⟨Nat.le_refl _, fun i h => absurd h (Nat.not_lt_zero _), fun h => absurd h (Nat.lt_irrefl _)⟩
  | k + 1 => by
    obtain ⟨h1, h2, h3⟩ := fnd_spec P k
    unfold fnd
    by_cases h : fnd P k < k
    · rw [if_pos h]
      exact ⟨by omega, h2, fun _ => h3 h⟩
    · rw [if_neg h]
      have hk : fnd P k = k := by omega
      rw [hk] at h2
      by_cases hp : P k = true
      · rw [if_pos hp]
        exact ⟨by omega, h2, fun _ => hp⟩
      · rw [if_neg hp]
        refine ⟨by omega, fun i hi => ?_, fun h => absurd h (Nat.lt_irrefl _)⟩
        by_cases hik : i = k
        · subst hik
          simpa using hp
        · exact h2 i (by omega)
theorem fnd_eq {P : Nat → Bool} {n k : Nat} (h1 : k ≤ n) (h2 : ∀ i, i < k → P i = false) (h3 : k < n → P k = true) : fnd P n = k := by
  obtain ⟨g1, g2, g3⟩ := fnd_spec P n
  rcases Nat.lt_trichotomy (fnd P n) k with h | h | h
  · have a := g3 (by omega)
    rw [h2 _ h] at a
    cases a
  · exact h
  · have a := g2 k h
    rw [h3 (by omega)] at a
    cases a
def it (f : Nat → Nat) : Nat → Nat → Nat
  | 0, x => x
  | k + 1, x => f (it f k x)
theorem it_lt {f : Nat → Nat} (hf : ∀ i, f i < 8) {j : Nat} (hj : j < 8) : ∀ k, it f k j < 8
  | 0 => hj
  | _ + 1 => hf _
def lsf (f : Nat → Nat) (j q : Nat) : Nat := if j < q ∧ f q < f j then 1 else 0
def lss (f : Nat → Nat) (n j : Nat) : Nat := sm (lsf f j) n
def hrk (f : Nat → Nat) (n : Nat) : Nat → Nat
  | 0 => 0
  | k + 1 => hrk f n k * (n - k) + lss f n k
def ivs (f : Nat → Nat) (n : Nat) : Nat := sm (lss f n) n
theorem lsf0 {f : Nat → Nat} {j q : Nat} (h : f j ≤ f q) : lsf f j q = 0 := by
  unfold lsf; rw [if_neg (by omega)]
theorem lsf1 {f : Nat → Nat} {j q : Nat} (h0 : j < q) (h : f q < f j) : lsf f j q = 1 := by
  unfold lsf; rw [if_pos ⟨h0, h⟩]
theorem lsf_le {f : Nat → Nat} {j q : Nat} (h : q ≤ j) : lsf f j q = 0 := by
  unfold lsf; rw [if_neg (by omega)]
/-- a bell put ahead -/
def insA (f : Nat → Nat) (n j v : Nat) : Nat → Nat := fun i => if i = j then v else if j < i ∧ i < n ∧ v ≤ f i then f i + 1 else f i
theorem insA_0 (f : Nat → Nat) (j v : Nat) : va_up f j v = insA f (j + 1) j v := by
  funext i
  unfold insA va_up
  by_cases h : i = j
  · rw [if_pos h, if_pos h]
  · rw [if_neg h, if_neg h, if_neg (by omega)]
theorem insA_at {f : Nat → Nat} {i j v : Nat} (h : j < i) : insA f i j v i = f i := by
  unfold insA
  rw [if_neg (by omega), if_neg (by omega)]
theorem insA_hi {f : Nat → Nat} {i j v : Nat} (h : j < i) (h2 : v ≤ f i) : va_up (insA f i j v) i (f i + 1) = insA f (i + 1) j v := by
  funext q
  unfold insA va_up
  by_cases hq : q = i
  · subst hq
    rw [if_pos rfl, if_neg (by omega), if_pos ⟨h, by omega, h2⟩]
  · rw [if_neg hq]
    dsimp only
    by_cases hj : q = j
    · rw [if_pos hj, if_pos hj]
    · rw [if_neg hj, if_neg hj]
      by_cases h3 : j < q ∧ q < i ∧ v ≤ f q
      · rw [if_pos h3, if_pos ⟨h3.1, by omega, h3.2.2⟩]
      · rw [if_neg h3, if_neg (fun z => h3 ⟨z.1, by omega, z.2.2⟩)]
theorem insA_lo {f : Nat → Nat} {i j v : Nat} (h2 : f i < v) : insA f i j v = insA f (i + 1) j v := by
  funext q
  unfold insA
  by_cases hj : q = j
  · rw [if_pos hj, if_pos hj]
  · rw [if_neg hj, if_neg hj]
    by_cases h3 : j < q ∧ q < i ∧ v ≤ f q
    · rw [if_pos h3, if_pos ⟨h3.1, by omega, h3.2.2⟩]
    · rw [if_neg h3, if_neg (fun z => h3 ⟨z.1, by
        by_cases hq : q = i
        · subst hq; omega
        · omega, z.2.2⟩)]
theorem insA_bd {f : Nat → Nat} {n j v b : Nat} (hf : ∀ i, f i < b) (hv : v < b) (i : Nat) : insA f n j v i < b + 1 := by
  have := hf i
  unfold insA
  split
  · omega
  · split <;> omega
/-- the row of a rank, from its last place on -/
def srR (rk : Nat) : Nat → Nat
  | 0 => rk
  | t + 1 => srR rk t / (t + 1)
def srG (f : Nat → Nat) (n rk : Nat) : Nat → (Nat → Nat)
  | 0 => f
  | t + 1 => insA (srG f n rk t) n (n - (t + 1)) (srR rk t % (t + 1))
theorem srR_le (rk : Nat) : ∀ t, srR rk t ≤ rk
  | 0 => Nat.le_refl _
  | t + 1 => Nat.le_trans (Nat.div_le_self _ _) (srR_le rk t)
theorem srG_bd {f : Nat → Nat} {n rk b : Nat} (hf : ∀ i, f i < b) (hb : 8 ≤ b) : ∀ t, t ≤ 8 → ∀ i, srG f n rk t i < b + t
  | 0, _, i => hf i
  | t + 1, ht, i => by
    have h1 := srG_bd hf hb t (by omega) (n := n) (rk := rk)
    have h2 : srR rk t % (t + 1) < t + 1 := Nat.mod_lt _ (by omega)
    exact insA_bd (b := b + t) h1 (by omega) i
def cpy (f g : Nat → Nat) (t : Nat) : Nat → Nat := fun i => if i < t then g i else f i
theorem cpy_0 (f g : Nat → Nat) : cpy f g 0 = f := by
  funext i; unfold cpy; rw [if_neg (Nat.not_lt_zero _)]
theorem cpy_s (f g : Nat → Nat) (t : Nat) : va_up (cpy f g t) t (g t) = cpy f g (t + 1) := by
  funext i
  unfold cpy va_up
  by_cases h : i = t
  · subst h; rw [if_pos rfl, if_pos (Nat.lt_succ_self _)]
  · rw [if_neg h]
    dsimp only
    by_cases h2 : i < t
    · rw [if_pos h2, if_pos (by omega)]
    · rw [if_neg h2, if_neg (by omega)]
def bck (f g : Nat → Nat) : Nat → (Nat → Nat)
  | 0 => f
  | t + 1 => va_up (bck f g t) (g t) t
def xch (f : Nat → Nat) (j : Nat) : Nat → Nat := va_up (va_up f j (f (j + 1))) (j + 1) (f j)
def bitN (k i : Nat) : Nat := k / 2 ^ i % 2
/-- a step rung: by a bound on its rounds -/
def rst (k n : Nat) : Nat → Nat → (Nat → Nat) → (Nat → Nat)
  | 0, _, f => f
  | u + 1, i, f => if i + 1 < n then (if bitN k i = 1 then rst k n u (i + 1) f else rst k n u (i + 2) (xch f i)) else f
theorem rst_end {k n u i : Nat} {f : Nat → Nat} (h : n ≤ i + 1) : rst k n u i f = f := by
  cases u with
  | zero => rfl
  | succ u => show (if i + 1 < n then _ else f) = f; rw [if_neg (by omega)]
theorem rst_k {k n u i : Nat} {f : Nat → Nat} (h : i + 1 < n) (hb : bitN k i = 1) : rst k n (u + 1) i f = rst k n u (i + 1) f := by
  show (if i + 1 < n then (if bitN k i = 1 then _ else _) else f) = _
  rw [if_pos h, if_pos hb]
theorem rst_x {k n u i : Nat} {f : Nat → Nat} (h : i + 1 < n) (hb : bitN k i = 0) : rst k n (u + 1) i f = rst k n u (i + 2) (xch f i) := by
  show (if i + 1 < n then (if bitN k i = 1 then _ else _) else f) = _
  rw [if_pos h, if_neg (by omega)]
/-- how many places are in a place's ring -/
def per (f : Nat → Nat) (n j : Nat) : Nat := fnd (fun i => it f (i + 1) j == j) (n - 1) + 1
/-- 1, if a place is the least one of its ring -/
def lst (f : Nat → Nat) (n j : Nat) : Nat := if it f (fnd (fun i => decide (it f (i + 1) j ≤ j)) n + 1) j = j then 1 else 0
def mxr (f : Nat → Nat) (n : Nat) : Nat → Nat
  | 0 => 0
  | k + 1 => max (mxr f n k) (per f n k)
def lmu (a b : Nat) : Nat := a * (fnd (fun i => a * (i + 1) % b == 0) (b - 1) + 1)
def ord (f : Nat → Nat) (n : Nat) : Nat → Nat
  | 0 => 1
  | k + 1 => lmu (ord f n k) (per f n k)
def own (f : Nat → Nat) (j : Nat) : Nat := if f j = j then 1 else 0
def pos (f : Nat → Nat) (n v : Nat) : Nat := fnd (fun i => f i == v) n
/-- isStep(): by a bound on its rounds -/
def stp (k n : Nat) : Nat → Nat → Nat
  | 0, _ => 1
  | u + 1, i => if i < n then (if bitN k i = 1 then stp k n u (i + 1) else if i + 1 < n ∧ bitN k (i + 1) = 0 then stp k n u (i + 2) else 0) else 1
theorem bitN_lt (k i : Nat) : bitN k i < 2 := Nat.mod_lt _ (by decide)
/-- the cells of a change: the object and its row -/
def xCh (D : va_G) (cI : ClassId) (o r n : Nat) (f : Nat → Nat) (H : Heap) : Prop := va_at D vwCl (o, .inr (0, [.ref r, .int (nI n)])) H ∧ va_at D vwCl (r, .inl (cI, 8, .inl (xA f))) H
theorem xat_keep {D : va_G} {q : Nat × va_E} {H H1 : Heap} {A : Nat → Prop} (h : va_at D vwCl q H) (hk : ∀ x : Nat, x < H.size → ¬ A x → H1[x]? = H[x]?) (h1 : ¬ A q.1) : va_at D vwCl q H1 := h.kept (hk q.1 h.lt h1)
theorem xCh_keep {D : va_G} {cI : ClassId} {o r n : Nat} {f : Nat → Nat} {H H1 : Heap} {A : Nat → Prop} (h : xCh D cI o r n f H) (hk : ∀ x : Nat, x < H.size → ¬ A x → H1[x]? = H[x]?) (h1 : ¬ A o) (h2 : ¬ A r) : xCh D cI o r n f H1 := ⟨xat_keep h.1 hk h1, xat_keep h.2 hk h2⟩
abbrev xRm (k mc ms : Nat) : Room := { frames := k, cells := mc, slots := ms, locals := 40 * k }
end
section
/-! BellRanks$Change: the methods that only read -/
theorem lst_le (f : Nat → Nat) (n j : Nat) : lst f n j ≤ 1 := by
  unfold lst; split <;> decide
theorem per_1 (f : Nat → Nat) (n j : Nat) : 1 ≤ per f n j := Nat.succ_le_succ (Nat.zero_le _)
theorem per_le {f : Nat → Nat} {n j : Nat} (h : j < n) (i : Nat) : per f n i ≤ n := by
  have := (fnd_spec (fun k => it f (k + 1) i == i) (n - 1)).1
  unfold per
  omega
theorem mxr_le {f : Nat → Nat} {n : Nat} (hn : n ≤ 8) : ∀ i, i ≤ n → mxr f n i ≤ 8
  | 0, _ => Nat.zero_le _
  | i + 1, h => by
    have h1 := mxr_le (f := f) hn i (by omega)
    have h2 := per_le (f := f) (show i < n by omega) i
    show max (mxr f n i) (per f n i) ≤ 8
    omega
theorem xmaxN {a b : Nat} (ha : a < 2 ^ 31) (hb : b < 2 ^ 31) : (if nI a < nI b then nI b else nI a) = nI (max a b) := by
  by_cases h : a < b
  · rw [if_pos ((nI_ltI ha hb).mpr h), Nat.max_eq_right (by omega)]
  · rw [if_neg (fun z => h ((nI_ltI ha hb).mp z)), Nat.max_eq_left (by omega)]
theorem xn_irem {p : Program} {l : Launch} {e : Env} {R : Room} {s : State} {m : MethodId} {args : Array Value} {below : List Frame} {meth : Method} {c : Code} {H : Heap} {locs : List Loc} {cells slots : Nat} {Q : State → Prop} {cc : ByteArray} {pc : Nat} {ls : Array Slot} {rest : List Value} (hx : p.tables.exec = Jvm.exec) (hb : c.code = cc) {a b : Nat} (ha : a < 2 ^ 31) (h0 : 0 < b) (hb2 : b < 2 ^ 31) (hdg : decode cc pc = .ok (.irem, 1)) (k : W p l e R s m args below meth c H locs cells slots Q (F0 m (pc + 1) ls (.int (nI (a % b)) :: rest))) : W p l e R s m args below meth c H locs cells slots Q (F0 m pc ls (.int (nI b) :: .int (nI a) :: rest)) :=
  lv_irem hx hb hdg (nI_ne0 h0 hb2) (xz_i (pk_rem ha h0 hb2) k)
theorem xn_idiv {p : Program} {l : Launch} {e : Env} {R : Room} {s : State} {m : MethodId} {args : Array Value} {below : List Frame} {meth : Method} {c : Code} {H : Heap} {locs : List Loc} {cells slots : Nat} {Q : State → Prop} {cc : ByteArray} {pc : Nat} {ls : Array Slot} {rest : List Value} (hx : p.tables.exec = Jvm.exec) (hb : c.code = cc) {a b : Nat} (ha : a < 2 ^ 31) (h0 : 0 < b) (hb2 : b < 2 ^ 31) (hdg : decode cc pc = .ok (.idiv, 1)) (k : W p l e R s m args below meth c H locs cells slots Q (F0 m (pc + 1) ls (.int (nI (a / b)) :: rest))) : W p l e R s m args below meth c H locs cells slots Q (F0 m pc ls (.int (nI b) :: .int (nI a) :: rest)) :=
  lv_idiv hx hb hdg (nI_ne0 h0 hb2) (xz_i (pk_div ha h0 hb2) k)
set_option maxRecDepth 100000 in
set_option maxHeartbeats 4000000 in
theorem cX0_bellAt_ (l : Launch) (D : va_G) (cI cC : ClassId) (o r n : Nat) (f : Nat → Nat) (j : Nat) (hj : j < 8) : Met l yX0_bellAt wsX0_bellAt (xRm 0 0 0) (va_Pc [.ref o, .int (nI j)] (xB D cI cC (xCh D cI o r n f))) (vp_Si (fun x => x = nI (f j))) 0 0 (fun _ => False) := by
  refine Met.ofW (cc := cX0_bellAt) (maxL := 2) (ret := (some .int)) (by decide) rfl ?_
  intro p e s m args below meth c s₁ B hml hv
  obtain ⟨rfl, hP, hK⟩ := hv
  have hx := B.exec
  have hb := B.bytes
  have hr := B.returns
  have hts := atoms_spec (ws := wsX0_bellAt) B.pre
  have hown : s.vm.findClass RX0 = some m.cls := findClass_of_methodNamed B.named
  have hlocks := B.notSynchronized
  have hC := hP
  have hl := lv_entry ([.ref o, .int (nI j)]) (n := 2) (Nat.le_of_ble_eq_true rfl)
  rw [lg_entry_eq]
  generalize (lg_sl ([.ref o, .int (nI j)]) ++ List.replicate (2 - (lg_sl ([.ref o, .int (nI j)])).length) Slot.unset).toArray = ls at hl ⊢
  have hl : lv_has ls 2 [(0, .ref o), (1, .int (nI j))] := hl
  refine lv_iload_n hx hb dX0_bellAt_0 rfl (lv_at hl 1 rfl) ?_
  refine xn_if_lt (tgt := 22) hx hb dX0_bellAt_1 (by decide) (by omega) ?_
  refine lv_iload_n hx hb dX0_bellAt_4 rfl (lv_at hl 1 rfl) ?_
  refine lv_aload_n hx hb dX0_bellAt_5 rfl (lv_at hl 0 rfl) ?_
  refine x_get (v := .ref r) (C := RX0) (T := TX0) (N := 2) hx hb hts (by decide +kernel) hown hK hC.1 rfl 0 (by decide) (hts (.fieldLink RX0 9 "BellRanks$Change" "row" "[I") (by decide +kernel)) (fun _ h9 => h9) rfl dX0_bellAt_6 ?_
  refine x_alen hx hb hK hC.2 dX0_bellAt_9 ?_
  refine xn_icmp_ge (tgt := 22) hx hb dX0_bellAt_10 (by decide) (by omega) (by decide) (fun c10 => ?_) (fun c10 => ?_)
  · exact absurd c10 (by omega)
  · refine lv_aload_n hx hb dX0_bellAt_13 rfl (lv_at hl 0 rfl) ?_
    refine x_get (v := .ref r) (C := RX0) (T := TX0) (N := 2) hx hb hts (by decide +kernel) hown hK hC.1 rfl 0 (by decide) (hts (.fieldLink RX0 9 "BellRanks$Change" "row" "[I") (by decide +kernel)) (fun _ h9 => h9) rfl dX0_bellAt_14 ?_
    refine lv_iload_n hx hb dX0_bellAt_17 rfl (lv_at hl 1 rfl) ?_
    refine x_iald hx hb hK hC.2 (by omega) (by decide) dX0_bellAt_18 ?_
    refine lv_goto (tgt := 23) hx hb dX0_bellAt_19 (by decide) ?_
    exact x_iret hx hb hr hlocks rfl rfl dX0_bellAt_23

set_option maxRecDepth 100000 in
set_option maxHeartbeats 4000000 in
theorem cX0_lesserBehind_ (l : Launch) (D : va_G) (cI cC : ClassId) (o r n : Nat) (f : Nat → Nat) (hn : n ≤ 8) (hf : ∀ i, f i < 100) (j : Nat) (hj : j < n) : Met l yX0_lesserBehind wsX0_lesserBehind (xRm 1 0 0) (va_Pc [.ref o, .int (nI j)] (xB D cI cC (xCh D cI o r n f))) (vp_Si (fun x => x = nI (lss f n j))) 0 0 (fun _ => False) := by
  refine Met.ofW (cc := cX0_lesserBehind) (maxL := 4) (ret := (some .int)) (by decide) rfl ?_
  intro p e s m args below meth c s₁ B hml hv
  obtain ⟨rfl, hP, hK⟩ := hv
  have hx := B.exec
  have hb := B.bytes
  have hr := B.returns
  have hts := atoms_spec (ws := wsX0_lesserBehind) B.pre
  have hown : s.vm.findClass RX0 = some m.cls := findClass_of_methodNamed B.named
  have hlocks := B.notSynchronized
  have hC := hP
  have hl := lv_entry ([.ref o, .int (nI j)]) (n := 4) (Nat.le_of_ble_eq_true rfl)
  rw [lg_entry_eq]
  generalize (lg_sl ([.ref o, .int (nI j)]) ++ List.replicate (4 - (lg_sl ([.ref o, .int (nI j)])).length) Slot.unset).toArray = ls at hl ⊢
  have hl : lv_has ls 4 [(0, .ref o), (1, .int (nI j))] := hl
  refine xn_iconst (v := 0) hx hb dX0_lesserBehind_0 (by decide) ?_
  refine lv_istore_n (lv' := [(2, .int (nI 0)), (0, .ref o), (1, .int (nI j))]) hx hb dX0_lesserBehind_1 rfl hl (by decide) rfl (fun ls hl => ?_)
  refine lv_iload_n hx hb dX0_lesserBehind_2 rfl (lv_at hl 2 rfl) ?_
  refine xn_iconst (v := 1) hx hb dX0_lesserBehind_3 (by decide) ?_
  refine xn_iadd hx hb dX0_lesserBehind_4 ?_
  refine lv_istore_n (lv' := [(3, .int (nI (j + 1))), (2, .int (nI 0)), (0, .ref o), (1, .int (nI j))]) hx hb dX0_lesserBehind_5 rfl hl (by decide) rfl (fun ls hl => ?_)
  refine x_loop (σ := Nat × Nat) (fun a => n - a.2) (fun a ls => (j < a.2) ∧ (a.2 ≤ n) ∧ (a.1 = sm (lsf f j) a.2) ∧ lv_has ls 4 [(0, .ref o), (1, .int (nI j)), (2, .int (nI a.1)), (3, .int (nI a.2))]) ?_ (0, j + 1) ls ⟨(by dsimp only; omega), (by dsimp only; omega), (sm_zero fun q hq => lsf_le (by dsimp only at hq; omega)).symm, lv_sub hl [2, 3, 1, 0] rfl⟩
  rintro ⟨L, i⟩ ls ⟨h1, h2, h3, hl⟩ ih6
  dsimp only at h1 h2 h3 hl
  refine lv_iload_n hx hb dX0_lesserBehind_6 rfl (lv_at hl 3 rfl) ?_
  refine lv_aload_n hx hb dX0_lesserBehind_7 rfl (lv_at hl 0 rfl) ?_
  refine x_get (v := .int (nI n)) (C := RX0) (T := TX0) (N := 2) hx hb hts (by decide +kernel) hown hK hC.1 rfl 1 (by decide) (hts (.fieldLink RX0 15 "BellRanks$Change" "size" "I") (by decide +kernel)) (fun _ h9 => h9) rfl dX0_lesserBehind_8 ?_
  refine xn_icmp_ge (tgt := 36) hx hb dX0_lesserBehind_11 (by decide) (by omega) (by omega) (fun c11 => ?_) (fun c11 => ?_)
  · refine lv_iload_n hx hb dX0_lesserBehind_36 rfl (lv_at hl 2 rfl) ?_
    exact x_iret hx hb hr hlocks rfl (by rw [h3, show i = n by omega]; rfl) dX0_lesserBehind_37
  · refine lv_aload_n hx hb dX0_lesserBehind_14 rfl (lv_at hl 0 rfl) ?_
    refine lv_iload_n hx hb dX0_lesserBehind_15 rfl (lv_at hl 3 rfl) ?_
    refine xcV (As := [.int (nI i)]) (rest := []) ⟨hx, hb, hml, hown, hts⟩ (cX0_bellAt_ l D cI cC o r n f i (by omega)) (cwV 1 hts gX0_lesserBehind_X0_bellAt rfl rfl rfl (by decide +kernel) ⟨Nat.le_of_ble_eq_true rfl, Nat.le_of_ble_eq_true rfl⟩) hK hC (xRecv hK rfl hC.1) rfl hl.1 rfl (Nat.le_of_ble_eq_true rfl) dX0_lesserBehind_16 ⟨Nat.zero_le _, Nat.zero_le _⟩ (fun x16 e16 => ?_)
    subst e16
    refine lv_aload_n hx hb dX0_lesserBehind_19 rfl (lv_at hl 0 rfl) ?_
    refine lv_iload_n hx hb dX0_lesserBehind_20 rfl (lv_at hl 1 rfl) ?_
    refine xcV (As := [.int (nI j)]) (rest := [.int (nI (f i))]) ⟨hx, hb, hml, hown, hts⟩ (cX0_bellAt_ l D cI cC o r n f j (by omega)) (cwV 1 hts gX0_lesserBehind_X0_bellAt rfl rfl rfl (by decide +kernel) ⟨Nat.le_of_ble_eq_true rfl, Nat.le_of_ble_eq_true rfl⟩) hK hC (xRecv hK rfl hC.1) rfl hl.1 rfl (Nat.le_of_ble_eq_true rfl) dX0_lesserBehind_21 ⟨Nat.zero_le _, Nat.zero_le _⟩ (fun x21 e21 => ?_)
    subst e21
    refine xn_icmp_ge (tgt := 30) hx hb dX0_lesserBehind_24 (by decide) (Nat.lt_trans (hf i) (by decide)) (Nat.lt_trans (hf j) (by decide)) (fun c24 => ?_) (fun c24 => ?_)
    · refine xn_iinc (v := i + 1) (lv' := [(3, .int (nI (i + 1))), (0, .ref o), (1, .int (nI j)), (2, .int (nI L))]) hx hb dX0_lesserBehind_30 hl (k := 3) rfl (xinc1 _) (by decide) rfl (fun ls hl => ?_)
      refine lv_goto (tgt := 6) hx hb dX0_lesserBehind_33 (by decide) ?_
      exact ih6 (L, i + 1) ls ⟨(by dsimp only; omega), (by dsimp only; omega), (by dsimp only; rw [sm_succ, ← h3, lsf0 c24] <;> rfl), lv_sub hl [1, 2, 3, 0] rfl⟩ (by dsimp only; omega)
    · refine xn_iinc (v := L + 1) (lv' := [(2, .int (nI (L + 1))), (0, .ref o), (1, .int (nI j)), (3, .int (nI i))]) hx hb dX0_lesserBehind_27 hl (k := 2) rfl (xinc1 _) (by decide) rfl (fun ls hl => ?_)
      refine xn_iinc (v := i + 1) (lv' := [(3, .int (nI (i + 1))), (2, .int (nI (L + 1))), (0, .ref o), (1, .int (nI j))]) hx hb dX0_lesserBehind_30 hl (k := 3) rfl (xinc1 _) (by decide) rfl (fun ls hl => ?_)
      refine lv_goto (tgt := 6) hx hb dX0_lesserBehind_33 (by decide) ?_
      exact ih6 (L + 1, i + 1) ls ⟨(by dsimp only; omega), (by dsimp only; omega), (by dsimp only; rw [sm_succ, ← h3, lsf1 h1 c24] <;> rfl), lv_sub hl [2, 3, 1, 0] rfl⟩ (by dsimp only; omega)

set_option maxRecDepth 100000 in
set_option maxHeartbeats 4000000 in
theorem cX0_rank_ (l : Launch) (D : va_G) (cI cC : ClassId) (o r n : Nat) (f : Nat → Nat) (hn : n ≤ 8) (hf : ∀ i, f i < 100) : Met l yX0_rank wsX0_rank (xRm 2 0 0) (va_Pc [.ref o] (xB D cI cC (xCh D cI o r n f))) (vp_Si (fun x => x = nI (hrk f n n))) 0 0 (fun _ => False) := by
  refine Met.ofW (cc := cX0_rank) (maxL := 3) (ret := (some .int)) (by decide) rfl ?_
  intro p e s m args below meth c s₁ B hml hv
  obtain ⟨rfl, hP, hK⟩ := hv
  have hx := B.exec
  have hb := B.bytes
  have hr := B.returns
  have hts := atoms_spec (ws := wsX0_rank) B.pre
  have hown : s.vm.findClass RX0 = some m.cls := findClass_of_methodNamed B.named
  have hlocks := B.notSynchronized
  have hC := hP
  have hl := lv_entry ([.ref o]) (n := 3) (Nat.le_of_ble_eq_true rfl)
  rw [lg_entry_eq]
  generalize (lg_sl ([.ref o]) ++ List.replicate (3 - (lg_sl ([.ref o])).length) Slot.unset).toArray = ls at hl ⊢
  have hl : lv_has ls 3 [(0, .ref o)] := hl
  refine xn_iconst (v := 0) hx hb dX0_rank_0 (by decide) ?_
  refine lv_istore_n (lv' := [(1, .int (nI 0)), (0, .ref o)]) hx hb dX0_rank_1 rfl hl (by decide) rfl (fun ls hl => ?_)
  refine xn_iconst (v := 0) hx hb dX0_rank_2 (by decide) ?_
  refine lv_istore_n (lv' := [(2, .int (nI 0)), (1, .int (nI 0)), (0, .ref o)]) hx hb dX0_rank_3 rfl hl (by decide) rfl (fun ls hl => ?_)
  refine x_loop (σ := Nat × Nat) (fun a => n - a.2) (fun a ls => (a.2 ≤ n) ∧ (a.1 = hrk f n a.2) ∧ lv_has ls 3 [(0, .ref o), (1, .int (nI a.1)), (2, .int (nI a.2))]) ?_ (0, 0) ls ⟨(Nat.zero_le _), rfl, lv_sub hl [2, 1, 0] rfl⟩
  rintro ⟨L, i⟩ ls ⟨h2, h3, hl⟩ ih4
  dsimp only at h2 h3 hl
  refine lv_iload_n hx hb dX0_rank_4 rfl (lv_at hl 2 rfl) ?_
  refine lv_aload_n hx hb dX0_rank_5 rfl (lv_at hl 0 rfl) ?_
  refine x_get (v := .int (nI n)) (C := RX0) (T := TX0) (N := 2) hx hb hts (by decide +kernel) hown hK hC.1 rfl 1 (by decide) (hts (.fieldLink RX0 15 "BellRanks$Change" "size" "I") (by decide +kernel)) (fun _ h9 => h9) rfl dX0_rank_6 ?_
  refine xn_icmp_ge (tgt := 33) hx hb dX0_rank_9 (by decide) (by omega) (by omega) (fun c9 => ?_) (fun c9 => ?_)
  · refine lv_iload_n hx hb dX0_rank_33 rfl (lv_at hl 1 rfl) ?_
    exact x_iret hx hb hr hlocks rfl (by rw [h3, show i = n by omega]) dX0_rank_34
  · refine lv_iload_n hx hb dX0_rank_12 rfl (lv_at hl 1 rfl) ?_
    refine lv_aload_n hx hb dX0_rank_13 rfl (lv_at hl 0 rfl) ?_
    refine x_get (v := .int (nI n)) (C := RX0) (T := TX0) (N := 2) hx hb hts (by decide +kernel) hown hK hC.1 rfl 1 (by decide) (hts (.fieldLink RX0 15 "BellRanks$Change" "size" "I") (by decide +kernel)) (fun _ h9 => h9) rfl dX0_rank_14 ?_
    refine lv_iload_n hx hb dX0_rank_17 rfl (lv_at hl 2 rfl) ?_
    refine xn_isub hx hb (by omega) dX0_rank_18 ?_
    refine xn_imul hx hb dX0_rank_19 ?_
    refine lv_aload_n hx hb dX0_rank_20 rfl (lv_at hl 0 rfl) ?_
    refine lv_iload_n hx hb dX0_rank_21 rfl (lv_at hl 2 rfl) ?_
    refine xcV (As := [.int (nI i)]) (rest := [.int (nI (L * (n - i)))]) ⟨hx, hb, hml, hown, hts⟩ (cX0_lesserBehind_ l D cI cC o r n f hn hf i (by omega)) (cwV 1 hts gX0_rank_X0_lesserBehind rfl rfl rfl (by decide +kernel) ⟨Nat.le_of_ble_eq_true rfl, Nat.le_of_ble_eq_true rfl⟩) hK hC (xRecv hK rfl hC.1) rfl hl.1 rfl (Nat.le_of_ble_eq_true rfl) dX0_rank_22 ⟨Nat.zero_le _, Nat.zero_le _⟩ (fun x22 e22 => ?_)
    subst e22
    refine xn_iadd hx hb dX0_rank_25 ?_
    refine lv_istore_n (lv' := [(1, .int (nI ((L * (n - i)) + (lss f n i)))), (0, .ref o), (2, .int (nI i))]) hx hb dX0_rank_26 rfl hl (by decide) rfl (fun ls hl => ?_)
    refine xn_iinc (v := i + 1) (lv' := [(2, .int (nI (i + 1))), (1, .int (nI ((L * (n - i)) + (lss f n i)))), (0, .ref o)]) hx hb dX0_rank_27 hl (k := 2) rfl (xinc1 _) (by decide) rfl (fun ls hl => ?_)
    refine lv_goto (tgt := 4) hx hb dX0_rank_30 (by decide) ?_
    exact ih4 ((L * (n - i)) + (lss f n i), i + 1) ls ⟨(by dsimp only; omega), (by dsimp only; rw [h3]; rfl), lv_sub hl [2, 1, 0] rfl⟩ (by dsimp only; omega)

set_option maxRecDepth 100000 in
set_option maxHeartbeats 4000000 in
theorem cX0_inversions_ (l : Launch) (D : va_G) (cI cC : ClassId) (o r n : Nat) (f : Nat → Nat) (hn : n ≤ 8) (hf : ∀ i, f i < 100) : Met l yX0_inversions wsX0_inversions (xRm 2 0 0) (va_Pc [.ref o] (xB D cI cC (xCh D cI o r n f))) (vp_Si (fun x => x = nI (ivs f n))) 0 0 (fun _ => False) := by
  refine Met.ofW (cc := cX0_inversions) (maxL := 3) (ret := (some .int)) (by decide) rfl ?_
  intro p e s m args below meth c s₁ B hml hv
  obtain ⟨rfl, hP, hK⟩ := hv
  have hx := B.exec
  have hb := B.bytes
  have hr := B.returns
  have hts := atoms_spec (ws := wsX0_inversions) B.pre
  have hown : s.vm.findClass RX0 = some m.cls := findClass_of_methodNamed B.named
  have hlocks := B.notSynchronized
  have hC := hP
  have hl := lv_entry ([.ref o]) (n := 3) (Nat.le_of_ble_eq_true rfl)
  rw [lg_entry_eq]
  generalize (lg_sl ([.ref o]) ++ List.replicate (3 - (lg_sl ([.ref o])).length) Slot.unset).toArray = ls at hl ⊢
  have hl : lv_has ls 3 [(0, .ref o)] := hl
  refine xn_iconst (v := 0) hx hb dX0_inversions_0 (by decide) ?_
  refine lv_istore_n (lv' := [(1, .int (nI 0)), (0, .ref o)]) hx hb dX0_inversions_1 rfl hl (by decide) rfl (fun ls hl => ?_)
  refine xn_iconst (v := 0) hx hb dX0_inversions_2 (by decide) ?_
  refine lv_istore_n (lv' := [(2, .int (nI 0)), (1, .int (nI 0)), (0, .ref o)]) hx hb dX0_inversions_3 rfl hl (by decide) rfl (fun ls hl => ?_)
  refine x_loop (σ := Nat × Nat) (fun a => n - a.2) (fun a ls => (a.2 ≤ n) ∧ (a.1 = sm (lss f n) a.2) ∧ lv_has ls 3 [(0, .ref o), (1, .int (nI a.1)), (2, .int (nI a.2))]) ?_ (0, 0) ls ⟨(Nat.zero_le _), rfl, lv_sub hl [2, 1, 0] rfl⟩
  rintro ⟨L, i⟩ ls ⟨h2, h3, hl⟩ ih4
  dsimp only at h2 h3 hl
  refine lv_iload_n hx hb dX0_inversions_4 rfl (lv_at hl 2 rfl) ?_
  refine lv_aload_n hx hb dX0_inversions_5 rfl (lv_at hl 0 rfl) ?_
  refine x_get (v := .int (nI n)) (C := RX0) (T := TX0) (N := 2) hx hb hts (by decide +kernel) hown hK hC.1 rfl 1 (by decide) (hts (.fieldLink RX0 15 "BellRanks$Change" "size" "I") (by decide +kernel)) (fun _ h9 => h9) rfl dX0_inversions_6 ?_
  refine xn_icmp_ge (tgt := 26) hx hb dX0_inversions_9 (by decide) (by omega) (by omega) (fun c9 => ?_) (fun c9 => ?_)
  · refine lv_iload_n hx hb dX0_inversions_26 rfl (lv_at hl 1 rfl) ?_
    exact x_iret hx hb hr hlocks rfl (by rw [h3, show i = n by omega]; rfl) dX0_inversions_27
  · refine lv_iload_n hx hb dX0_inversions_12 rfl (lv_at hl 1 rfl) ?_
    refine lv_aload_n hx hb dX0_inversions_13 rfl (lv_at hl 0 rfl) ?_
    refine lv_iload_n hx hb dX0_inversions_14 rfl (lv_at hl 2 rfl) ?_
    refine xcV (As := [.int (nI i)]) (rest := [.int (nI L)]) ⟨hx, hb, hml, hown, hts⟩ (cX0_lesserBehind_ l D cI cC o r n f hn hf i (by omega)) (cwV 1 hts gX0_inversions_X0_lesserBehind rfl rfl rfl (by decide +kernel) ⟨Nat.le_of_ble_eq_true rfl, Nat.le_of_ble_eq_true rfl⟩) hK hC (xRecv hK rfl hC.1) rfl hl.1 rfl (Nat.le_of_ble_eq_true rfl) dX0_inversions_15 ⟨Nat.zero_le _, Nat.zero_le _⟩ (fun x15 e15 => ?_)
    subst e15
    refine xn_iadd hx hb dX0_inversions_18 ?_
    refine lv_istore_n (lv' := [(1, .int (nI (L + (lss f n i)))), (0, .ref o), (2, .int (nI i))]) hx hb dX0_inversions_19 rfl hl (by decide) rfl (fun ls hl => ?_)
    refine xn_iinc (v := i + 1) (lv' := [(2, .int (nI (i + 1))), (1, .int (nI (L + (lss f n i)))), (0, .ref o)]) hx hb dX0_inversions_20 hl (k := 2) rfl (xinc1 _) (by decide) rfl (fun ls hl => ?_)
    refine lv_goto (tgt := 4) hx hb dX0_inversions_23 (by decide) ?_
    exact ih4 (L + (lss f n i), i + 1) ls ⟨(by dsimp only; omega), (by dsimp only; rw [h3]; rfl), lv_sub hl [2, 1, 0] rfl⟩ (by dsimp only; omega)

set_option maxRecDepth 100000 in
set_option maxHeartbeats 4000000 in
theorem cX0_placeOf_ (l : Launch) (D : va_G) (cI cC : ClassId) (o r n : Nat) (f : Nat → Nat) (hn : n ≤ 8) (hf : ∀ i, f i < 100) (v : Nat) (hv : v < 100) : Met l yX0_placeOf wsX0_placeOf (xRm 1 0 0) (va_Pc [.ref o, .int (nI v)] (xB D cI cC (xCh D cI o r n f))) (vp_Si (fun x => x = nI (pos f n v))) 0 0 (fun _ => False) := by
  refine Met.ofW (cc := cX0_placeOf) (maxL := 3) (ret := (some .int)) (by decide) rfl ?_
  intro p e s m args below meth c s₁ B hml hv
  obtain ⟨rfl, hP, hK⟩ := hv
  have hx := B.exec
  have hb := B.bytes
  have hr := B.returns
  have hts := atoms_spec (ws := wsX0_placeOf) B.pre
  have hown : s.vm.findClass RX0 = some m.cls := findClass_of_methodNamed B.named
  have hlocks := B.notSynchronized
  have hC := hP
  have hl := lv_entry ([.ref o, .int (nI v)]) (n := 3) (Nat.le_of_ble_eq_true rfl)
  rw [lg_entry_eq]
  generalize (lg_sl ([.ref o, .int (nI v)]) ++ List.replicate (3 - (lg_sl ([.ref o, .int (nI v)])).length) Slot.unset).toArray = ls at hl ⊢
  have hl : lv_has ls 3 [(0, .ref o), (1, .int (nI v))] := hl
  refine xn_iconst (v := 0) hx hb dX0_placeOf_0 (by decide) ?_
  refine lv_istore_n (lv' := [(2, .int (nI 0)), (0, .ref o), (1, .int (nI v))]) hx hb dX0_placeOf_1 rfl hl (by decide) rfl (fun ls hl => ?_)
  refine x_loop (σ := Nat) (fun a => n - a) (fun a ls => (a ≤ n) ∧ (∀ q, q < a → (f q == v) = false) ∧ lv_has ls 3 [(0, .ref o), (1, .int (nI v)), (2, .int (nI a))]) ?_ 0 ls ⟨(Nat.zero_le _), (fun q h => absurd h (Nat.not_lt_zero _)), lv_sub hl [1, 2, 0] rfl⟩
  rintro i ls ⟨h2, h3, hl⟩ ih2
  
  refine lv_iload_n hx hb dX0_placeOf_2 rfl (lv_at hl 2 rfl) ?_
  refine lv_aload_n hx hb dX0_placeOf_3 rfl (lv_at hl 0 rfl) ?_
  refine x_get (v := .int (nI n)) (C := RX0) (T := TX0) (N := 2) hx hb hts (by decide +kernel) hown hK hC.1 rfl 1 (by decide) (hts (.fieldLink RX0 15 "BellRanks$Change" "size" "I") (by decide +kernel)) (fun _ h9 => h9) rfl dX0_placeOf_4 ?_
  refine xn_icmp_ge (tgt := 25) hx hb dX0_placeOf_7 (by decide) (by omega) (by omega) (fun c7 => ?_) (fun c7 => ?_)
  · refine lv_iload_n hx hb dX0_placeOf_25 rfl (lv_at hl 2 rfl) ?_
    exact x_iret hx hb hr hlocks rfl (congrArg nI (fnd_eq h2 h3 (fun z => absurd z (by omega))).symm) dX0_placeOf_26
  · refine lv_aload_n hx hb dX0_placeOf_10 rfl (lv_at hl 0 rfl) ?_
    refine lv_iload_n hx hb dX0_placeOf_11 rfl (lv_at hl 2 rfl) ?_
    refine xcV (As := [.int (nI i)]) (rest := []) ⟨hx, hb, hml, hown, hts⟩ (cX0_bellAt_ l D cI cC o r n f i (by omega)) (cwV 1 hts gX0_placeOf_X0_bellAt rfl rfl rfl (by decide +kernel) ⟨Nat.le_of_ble_eq_true rfl, Nat.le_of_ble_eq_true rfl⟩) hK hC (xRecv hK rfl hC.1) rfl hl.1 rfl (Nat.le_of_ble_eq_true rfl) dX0_placeOf_12 ⟨Nat.zero_le _, Nat.zero_le _⟩ (fun x12 e12 => ?_)
    subst e12
    refine lv_iload_n hx hb dX0_placeOf_15 rfl (lv_at hl 1 rfl) ?_
    refine xn_icmp_eq (tgt := 25) hx hb dX0_placeOf_16 (by decide) (Nat.lt_trans (hf i) (by decide)) (by omega) (fun c16 => ?_) (fun c16 => ?_)
    · refine lv_iload_n hx hb dX0_placeOf_25 rfl (lv_at hl 2 rfl) ?_
      exact x_iret hx hb hr hlocks rfl (congrArg nI (fnd_eq h2 h3 (fun _ => by simpa using c16)).symm) dX0_placeOf_26
    · refine xn_iinc (v := i + 1) (lv' := [(2, .int (nI (i + 1))), (0, .ref o), (1, .int (nI v))]) hx hb dX0_placeOf_19 hl (k := 2) rfl (xinc1 _) (by decide) rfl (fun ls hl => ?_)
      refine lv_goto (tgt := 2) hx hb dX0_placeOf_22 (by decide) ?_
      exact ih2 (i + 1) ls ⟨(by omega), (fun q hq => by
            by_cases h9 : q = i
            · subst h9; simpa using c16
            · exact h3 q (by omega)), lv_sub hl [1, 2, 0] rfl⟩ (by omega)

set_option maxRecDepth 100000 in
set_option maxHeartbeats 4000000 in
theorem cX0_isSame_ (l : Launch) (D : va_G) (cI cC : ClassId) (o r n : Nat) (f : Nat → Nat) (o2 r2 n2 : Nat) (f2 : Nat → Nat) (hn : n ≤ 8) (hf : ∀ i, f i < 100) (hf2 : ∀ i, f2 i < 100) : Met l yX0_isSame wsX0_isSame (xRm 1 0 0) (va_Pc [.ref o, .ref o2] (xB D cI cC (fun H => xCh D cI o r n f H ∧ xCh D cI o2 r2 n2 f2 H))) (vp_Si (fun x => (x = nI 1 ∧ ∀ q, q < n → f q = f2 q) ∨ (x = nI 0 ∧ ∃ q, q < n ∧ f q ≠ f2 q))) 0 0 (fun _ => False) := by
  refine Met.ofW (cc := cX0_isSame) (maxL := 3) (ret := (some .boolean)) (by decide) rfl ?_
  intro p e s m args below meth c s₁ B hml hv
  obtain ⟨rfl, hP, hK⟩ := hv
  have hx := B.exec
  have hb := B.bytes
  have hr := B.returns
  have hts := atoms_spec (ws := wsX0_isSame) B.pre
  have hown : s.vm.findClass RX0 = some m.cls := findClass_of_methodNamed B.named
  have hlocks := B.notSynchronized
  obtain ⟨hC, hC2⟩ := hP
  have hl := lv_entry ([.ref o, .ref o2]) (n := 3) (Nat.le_of_ble_eq_true rfl)
  rw [lg_entry_eq]
  generalize (lg_sl ([.ref o, .ref o2]) ++ List.replicate (3 - (lg_sl ([.ref o, .ref o2])).length) Slot.unset).toArray = ls at hl ⊢
  have hl : lv_has ls 3 [(0, .ref o), (1, .ref o2)] := hl
  refine xn_iconst (v := 0) hx hb dX0_isSame_0 (by decide) ?_
  refine lv_istore_n (lv' := [(2, .int (nI 0)), (0, .ref o), (1, .ref o2)]) hx hb dX0_isSame_1 rfl hl (by decide) rfl (fun ls hl => ?_)
  refine x_loop (σ := Nat) (fun a => n - a) (fun a ls => (a ≤ n) ∧ (∀ q, q < a → f q = f2 q) ∧ lv_has ls 3 [(0, .ref o), (1, .ref o2), (2, .int (nI a))]) ?_ 0 ls ⟨(Nat.zero_le _), (fun q h => absurd h (Nat.not_lt_zero _)), lv_sub hl [1, 2, 0] rfl⟩
  rintro i ls ⟨h2, h3, hl⟩ ih2
  
  refine lv_iload_n hx hb dX0_isSame_2 rfl (lv_at hl 2 rfl) ?_
  refine lv_aload_n hx hb dX0_isSame_3 rfl (lv_at hl 0 rfl) ?_
  refine x_get (v := .int (nI n)) (C := RX0) (T := TX0) (N := 2) hx hb hts (by decide +kernel) hown hK hC.1 rfl 1 (by decide) (hts (.fieldLink RX0 15 "BellRanks$Change" "size" "I") (by decide +kernel)) (fun _ h9 => h9) rfl dX0_isSame_4 ?_
  refine xn_icmp_ge (tgt := 31) hx hb dX0_isSame_7 (by decide) (by omega) (by omega) (fun c7 => ?_) (fun c7 => ?_)
  · refine xn_iconst (v := 1) hx hb dX0_isSame_31 (by decide) ?_
    exact x_zret hx hb hr hlocks rfl (by decide) (Or.inl ⟨rfl, fun q hq => h3 q (by omega)⟩) dX0_isSame_32
  · refine lv_aload_n hx hb dX0_isSame_10 rfl (lv_at hl 0 rfl) ?_
    refine lv_iload_n hx hb dX0_isSame_11 rfl (lv_at hl 2 rfl) ?_
    refine xcV (As := [.int (nI i)]) (rest := []) ⟨hx, hb, hml, hown, hts⟩ (cX0_bellAt_ l D cI cC o r n f i (by omega)) (cwV 1 hts gX0_isSame_X0_bellAt rfl rfl rfl (by decide +kernel) ⟨Nat.le_of_ble_eq_true rfl, Nat.le_of_ble_eq_true rfl⟩) hK hC (xRecv hK rfl hC.1) rfl hl.1 rfl (Nat.le_of_ble_eq_true rfl) dX0_isSame_12 ⟨Nat.zero_le _, Nat.zero_le _⟩ (fun x12 e12 => ?_)
    subst e12
    refine lv_aload_n hx hb dX0_isSame_15 rfl (lv_at hl 1 rfl) ?_
    refine lv_iload_n hx hb dX0_isSame_16 rfl (lv_at hl 2 rfl) ?_
    refine xcV (As := [.int (nI i)]) (rest := [.int (nI (f i))]) ⟨hx, hb, hml, hown, hts⟩ (cX0_bellAt_ l D cI cC o2 r2 n2 f2 i (by omega)) (cwV 1 hts gX0_isSame_X0_bellAt rfl rfl rfl (by decide +kernel) ⟨Nat.le_of_ble_eq_true rfl, Nat.le_of_ble_eq_true rfl⟩) hK hC2 (xRecv hK rfl hC2.1) rfl hl.1 rfl (Nat.le_of_ble_eq_true rfl) dX0_isSame_17 ⟨Nat.zero_le _, Nat.zero_le _⟩ (fun x17 e17 => ?_)
    subst e17
    refine xn_icmp_eq (tgt := 25) hx hb dX0_isSame_20 (by decide) (Nat.lt_trans (hf i) (by decide)) (Nat.lt_trans (hf2 i) (by decide)) (fun c20 => ?_) (fun c20 => ?_)
    · refine xn_iinc (v := i + 1) (lv' := [(2, .int (nI (i + 1))), (0, .ref o), (1, .ref o2)]) hx hb dX0_isSame_25 hl (k := 2) rfl (xinc1 _) (by decide) rfl (fun ls hl => ?_)
      refine lv_goto (tgt := 2) hx hb dX0_isSame_28 (by decide) ?_
      exact ih2 (i + 1) ls ⟨(by omega), (fun q hq => by
            by_cases h9 : q = i
            · subst h9; exact c20
            · exact h3 q (by omega)), lv_sub hl [1, 2, 0] rfl⟩ (by omega)
    · refine xn_iconst (v := 0) hx hb dX0_isSame_23 (by decide) ?_
      exact x_zret hx hb hr hlocks rfl (by decide) (Or.inr ⟨rfl, i, by omega, c20⟩) dX0_isSame_24

set_option maxRecDepth 100000 in
set_option maxHeartbeats 4000000 in
theorem cX0_ringLength_ (l : Launch) (D : va_G) (cI cC : ClassId) (o r n : Nat) (f : Nat → Nat) (hn : n ≤ 8) (hf : ∀ i, f i < 8) (j : Nat) (hj : j < n) : Met l yX0_ringLength wsX0_ringLength (xRm 1 0 0) (va_Pc [.ref o, .int (nI j)] (xB D cI cC (xCh D cI o r n f))) (vp_Si (fun x => x = nI (per f n j))) 0 0 (fun _ => False) := by
  refine Met.ofW (cc := cX0_ringLength) (maxL := 4) (ret := (some .int)) (by decide) rfl ?_
  intro p e s m args below meth c s₁ B hml hv
  obtain ⟨rfl, hP, hK⟩ := hv
  have hx := B.exec
  have hb := B.bytes
  have hr := B.returns
  have hts := atoms_spec (ws := wsX0_ringLength) B.pre
  have hown : s.vm.findClass RX0 = some m.cls := findClass_of_methodNamed B.named
  have hlocks := B.notSynchronized
  have hC := hP
  have hl := lv_entry ([.ref o, .int (nI j)]) (n := 4) (Nat.le_of_ble_eq_true rfl)
  rw [lg_entry_eq]
  generalize (lg_sl ([.ref o, .int (nI j)]) ++ List.replicate (4 - (lg_sl ([.ref o, .int (nI j)])).length) Slot.unset).toArray = ls at hl ⊢
  have hl : lv_has ls 4 [(0, .ref o), (1, .int (nI j))] := hl
  refine xn_iconst (v := 1) hx hb dX0_ringLength_0 (by decide) ?_
  refine lv_istore_n (lv' := [(2, .int (nI 1)), (0, .ref o), (1, .int (nI j))]) hx hb dX0_ringLength_1 rfl hl (by decide) rfl (fun ls hl => ?_)
  refine lv_aload_n hx hb dX0_ringLength_2 rfl (lv_at hl 1 rfl) ?_
  refine lv_iload_n hx hb dX0_ringLength_3 rfl (lv_at hl 2 rfl) ?_
  refine xcV (As := [.int (nI j)]) (rest := []) ⟨hx, hb, hml, hown, hts⟩ (cX0_bellAt_ l D cI cC o r n f j (by omega)) (cwV 1 hts gX0_ringLength_X0_bellAt rfl rfl rfl (by decide +kernel) ⟨Nat.le_of_ble_eq_true rfl, Nat.le_of_ble_eq_true rfl⟩) hK hC (xRecv hK rfl hC.1) rfl hl.1 rfl (Nat.le_of_ble_eq_true rfl) dX0_ringLength_4 ⟨Nat.zero_le _, Nat.zero_le _⟩ (fun x4 e4 => ?_)
  subst e4
  refine lv_istore_n (lv' := [(3, .int (nI (f j))), (2, .int (nI 1)), (0, .ref o), (1, .int (nI j))]) hx hb dX0_ringLength_7 rfl hl (by decide) rfl (fun ls hl => ?_)
  refine x_loop (σ := Nat × Nat) (fun a => n - a.1) (fun a ls => (1 ≤ a.1) ∧ (a.1 ≤ n) ∧ (a.2 = it f a.1 j) ∧ (∀ q9, q9 < a.1 - 1 → (it f (q9 + 1) j == j) = false) ∧ lv_has ls 4 [(0, .ref o), (1, .int (nI j)), (2, .int (nI a.1)), (3, .int (nI a.2))]) ?_ (1, f j) ls ⟨(Nat.le_refl _), (by dsimp only; omega), rfl, (fun q h => absurd h (by omega)), lv_sub hl [2, 3, 1, 0] rfl⟩
  rintro ⟨k, q⟩ ls ⟨h1, h2, h3, h4, hl⟩ ih8
  dsimp only at h1 h2 h3 h4 hl
  subst h3
  refine lv_iload_n hx hb dX0_ringLength_8 rfl (lv_at hl 3 rfl) ?_
  refine lv_iload_n hx hb dX0_ringLength_9 rfl (lv_at hl 1 rfl) ?_
  refine xn_icmp_eq (tgt := 33) hx hb dX0_ringLength_10 (by decide) (Nat.lt_trans (it_lt hf (by omega) _) (by decide)) (by omega) (fun c10 => ?_) (fun c10 => ?_)
  · refine lv_iload_n hx hb dX0_ringLength_33 rfl (lv_at hl 2 rfl) ?_
    exact x_iret hx hb hr hlocks rfl (congrArg nI (by unfold per; rw [fnd_eq (k := k - 1) (by omega) h4 (fun _ => by rw [Nat.sub_add_cancel h1]; simpa using c10)]; omega)) dX0_ringLength_34
  · refine lv_iload_n hx hb dX0_ringLength_13 rfl (lv_at hl 2 rfl) ?_
    refine lv_aload_n hx hb dX0_ringLength_14 rfl (lv_at hl 0 rfl) ?_
    refine x_get (v := .int (nI n)) (C := RX0) (T := TX0) (N := 2) hx hb hts (by decide +kernel) hown hK hC.1 rfl 1 (by decide) (hts (.fieldLink RX0 15 "BellRanks$Change" "size" "I") (by decide +kernel)) (fun _ h9 => h9) rfl dX0_ringLength_15 ?_
    refine xn_icmp_ge (tgt := 33) hx hb dX0_ringLength_18 (by decide) (by omega) (by omega) (fun c18 => ?_) (fun c18 => ?_)
    · refine lv_iload_n hx hb dX0_ringLength_33 rfl (lv_at hl 2 rfl) ?_
      exact x_iret hx hb hr hlocks rfl (congrArg nI (by unfold per; rw [fnd_eq (k := k - 1) (by omega) h4 (fun z => absurd z (by omega))]; omega)) dX0_ringLength_34
    · refine lv_aload_n hx hb dX0_ringLength_21 rfl (lv_at hl 0 rfl) ?_
      refine lv_iload_n hx hb dX0_ringLength_22 rfl (lv_at hl 3 rfl) ?_
      refine xcV (As := [.int (nI (it f k j))]) (rest := []) ⟨hx, hb, hml, hown, hts⟩ (cX0_bellAt_ l D cI cC o r n f (it f k j) (it_lt hf (by omega) _)) (cwV 1 hts gX0_ringLength_X0_bellAt rfl rfl rfl (by decide +kernel) ⟨Nat.le_of_ble_eq_true rfl, Nat.le_of_ble_eq_true rfl⟩) hK hC (xRecv hK rfl hC.1) rfl hl.1 rfl (Nat.le_of_ble_eq_true rfl) dX0_ringLength_23 ⟨Nat.zero_le _, Nat.zero_le _⟩ (fun x23 e23 => ?_)
      subst e23
      refine lv_istore_n (lv' := [(3, .int (nI (f (it f k j)))), (0, .ref o), (1, .int (nI j)), (2, .int (nI k))]) hx hb dX0_ringLength_26 rfl hl (by decide) rfl (fun ls hl => ?_)
      refine xn_iinc (v := k + 1) (lv' := [(2, .int (nI (k + 1))), (3, .int (nI (f (it f k j)))), (0, .ref o), (1, .int (nI j))]) hx hb dX0_ringLength_27 hl (k := 3) rfl (xinc1 _) (by decide) rfl (fun ls hl => ?_)
      refine lv_goto (tgt := 8) hx hb dX0_ringLength_30 (by decide) ?_
      exact ih8 (k + 1, f (it f k j)) ls ⟨(by dsimp only; omega), (by dsimp only; omega), (by dsimp only; rfl), (fun q hq => by
            dsimp only at hq
            by_cases h9 : q + 1 = k
            · rw [h9]; simpa using c10
            · exact h4 q (by omega)), lv_sub hl [2, 3, 0, 1] rfl⟩ (by dsimp only; omega)

set_option maxRecDepth 100000 in
set_option maxHeartbeats 4000000 in
theorem cX0_isLeastOfRing_ (l : Launch) (D : va_G) (cI cC : ClassId) (o r n : Nat) (f : Nat → Nat) (hn : n ≤ 8) (hf : ∀ i, f i < 8) (j : Nat) (hj : j < n) : Met l yX0_isLeastOfRing wsX0_isLeastOfRing (xRm 1 0 0) (va_Pc [.ref o, .int (nI j)] (xB D cI cC (xCh D cI o r n f))) (vp_Si (fun x => x = nI (lst f n j))) 0 0 (fun _ => False) := by
  refine Met.ofW (cc := cX0_isLeastOfRing) (maxL := 4) (ret := (some .boolean)) (by decide) rfl ?_
  intro p e s m args below meth c s₁ B hml hv
  obtain ⟨rfl, hP, hK⟩ := hv
  have hx := B.exec
  have hb := B.bytes
  have hr := B.returns
  have hts := atoms_spec (ws := wsX0_isLeastOfRing) B.pre
  have hown : s.vm.findClass RX0 = some m.cls := findClass_of_methodNamed B.named
  have hlocks := B.notSynchronized
  have hC := hP
  have hl := lv_entry ([.ref o, .int (nI j)]) (n := 4) (Nat.le_of_ble_eq_true rfl)
  rw [lg_entry_eq]
  generalize (lg_sl ([.ref o, .int (nI j)]) ++ List.replicate (4 - (lg_sl ([.ref o, .int (nI j)])).length) Slot.unset).toArray = ls at hl ⊢
  have hl : lv_has ls 4 [(0, .ref o), (1, .int (nI j))] := hl
  refine lv_aload_n hx hb dX0_isLeastOfRing_0 rfl (lv_at hl 0 rfl) ?_
  refine lv_iload_n hx hb dX0_isLeastOfRing_1 rfl (lv_at hl 1 rfl) ?_
  refine xcV (As := [.int (nI j)]) (rest := []) ⟨hx, hb, hml, hown, hts⟩ (cX0_bellAt_ l D cI cC o r n f j (by omega)) (cwV 1 hts gX0_isLeastOfRing_X0_bellAt rfl rfl rfl (by decide +kernel) ⟨Nat.le_of_ble_eq_true rfl, Nat.le_of_ble_eq_true rfl⟩) hK hC (xRecv hK rfl hC.1) rfl hl.1 rfl (Nat.le_of_ble_eq_true rfl) dX0_isLeastOfRing_2 ⟨Nat.zero_le _, Nat.zero_le _⟩ (fun x2 e2 => ?_)
  subst e2
  refine lv_istore_n (lv' := [(2, .int (nI (f j))), (0, .ref o), (1, .int (nI j))]) hx hb dX0_isLeastOfRing_5 rfl hl (by decide) rfl (fun ls hl => ?_)
  refine xn_iconst (v := 0) hx hb dX0_isLeastOfRing_6 (by decide) ?_
  refine lv_istore_n (lv' := [(3, .int (nI 0)), (2, .int (nI (f j))), (0, .ref o), (1, .int (nI j))]) hx hb dX0_isLeastOfRing_7 rfl hl (by decide) rfl (fun ls hl => ?_)
  refine x_loop (σ := Nat × Nat) (fun a => n - a.2) (fun a ls => (a.2 ≤ n) ∧ (a.1 = it f (a.2 + 1) j) ∧ (∀ q9, q9 < a.2 → (decide (it f (q9 + 1) j ≤ j)) = false) ∧ lv_has ls 4 [(0, .ref o), (1, .int (nI j)), (2, .int (nI a.1)), (3, .int (nI a.2))]) ?_ (f j, 0) ls ⟨(Nat.zero_le _), rfl, (fun q h => absurd h (Nat.not_lt_zero _)), lv_sub hl [2, 3, 1, 0] rfl⟩
  rintro ⟨q, k⟩ ls ⟨h2, h3, h4, hl⟩ ih8
  dsimp only at h2 h3 h4 hl
  subst h3
  refine lv_iload_n hx hb dX0_isLeastOfRing_8 rfl (lv_at hl 3 rfl) ?_
  refine lv_aload_n hx hb dX0_isLeastOfRing_9 rfl (lv_at hl 0 rfl) ?_
  refine x_get (v := .int (nI n)) (C := RX0) (T := TX0) (N := 2) hx hb hts (by decide +kernel) hown hK hC.1 rfl 1 (by decide) (hts (.fieldLink RX0 15 "BellRanks$Change" "size" "I") (by decide +kernel)) (fun _ h9 => h9) rfl dX0_isLeastOfRing_10 ?_
  refine xn_icmp_ge (tgt := 33) hx hb dX0_isLeastOfRing_13 (by decide) (by omega) (by omega) (fun c13 => ?_) (fun c13 => ?_)
  · have h5 := fnd_eq (P := fun i => decide (it f (i + 1) j ≤ j)) (n := n) (k := k) h2 h4 (fun z => absurd z (by omega))
    refine lv_iload_n hx hb dX0_isLeastOfRing_33 rfl (lv_at hl 2 rfl) ?_
    refine lv_iload_n hx hb dX0_isLeastOfRing_34 rfl (lv_at hl 1 rfl) ?_
    refine xn_icmp_ne (tgt := 42) hx hb dX0_isLeastOfRing_35 (by decide) (Nat.lt_trans (it_lt hf (by omega) _) (by decide)) (by omega) (fun c35 => ?_) (fun c35 => ?_)
    · refine xn_iconst (v := 0) hx hb dX0_isLeastOfRing_42 (by decide) ?_
      exact x_zret hx hb hr hlocks rfl (by decide) (congrArg nI (by unfold lst; rw [h5, if_neg c35])) dX0_isLeastOfRing_43
    · refine xn_iconst (v := 1) hx hb dX0_isLeastOfRing_38 (by decide) ?_
      refine lv_goto (tgt := 43) hx hb dX0_isLeastOfRing_39 (by decide) ?_
      exact x_zret hx hb hr hlocks rfl (by decide) (congrArg nI (by unfold lst; rw [h5, if_pos c35])) dX0_isLeastOfRing_43
  · refine lv_iload_n hx hb dX0_isLeastOfRing_16 rfl (lv_at hl 2 rfl) ?_
    refine lv_iload_n hx hb dX0_isLeastOfRing_17 rfl (lv_at hl 1 rfl) ?_
    refine xn_icmp_le (tgt := 33) hx hb dX0_isLeastOfRing_18 (by decide) (Nat.lt_trans (it_lt hf (by omega) _) (by decide)) (by omega) (fun c18 => ?_) (fun c18 => ?_)
    · have h5 := fnd_eq (P := fun i => decide (it f (i + 1) j ≤ j)) (n := n) (k := k) h2 h4 (fun _ => by simpa using c18)
      refine lv_iload_n hx hb dX0_isLeastOfRing_33 rfl (lv_at hl 2 rfl) ?_
      refine lv_iload_n hx hb dX0_isLeastOfRing_34 rfl (lv_at hl 1 rfl) ?_
      refine xn_icmp_ne (tgt := 42) hx hb dX0_isLeastOfRing_35 (by decide) (Nat.lt_trans (it_lt hf (by omega) _) (by decide)) (by omega) (fun c35 => ?_) (fun c35 => ?_)
      · refine xn_iconst (v := 0) hx hb dX0_isLeastOfRing_42 (by decide) ?_
        exact x_zret hx hb hr hlocks rfl (by decide) (congrArg nI (by unfold lst; rw [h5, if_neg c35])) dX0_isLeastOfRing_43
      · refine xn_iconst (v := 1) hx hb dX0_isLeastOfRing_38 (by decide) ?_
        refine lv_goto (tgt := 43) hx hb dX0_isLeastOfRing_39 (by decide) ?_
        exact x_zret hx hb hr hlocks rfl (by decide) (congrArg nI (by unfold lst; rw [h5, if_pos c35])) dX0_isLeastOfRing_43
    · refine lv_aload_n hx hb dX0_isLeastOfRing_21 rfl (lv_at hl 0 rfl) ?_
      refine lv_iload_n hx hb dX0_isLeastOfRing_22 rfl (lv_at hl 2 rfl) ?_
      refine xcV (As := [.int (nI (it f (k + 1) j))]) (rest := []) ⟨hx, hb, hml, hown, hts⟩ (cX0_bellAt_ l D cI cC o r n f (it f (k + 1) j) (it_lt hf (by omega) _)) (cwV 1 hts gX0_isLeastOfRing_X0_bellAt rfl rfl rfl (by decide +kernel) ⟨Nat.le_of_ble_eq_true rfl, Nat.le_of_ble_eq_true rfl⟩) hK hC (xRecv hK rfl hC.1) rfl hl.1 rfl (Nat.le_of_ble_eq_true rfl) dX0_isLeastOfRing_23 ⟨Nat.zero_le _, Nat.zero_le _⟩ (fun x23 e23 => ?_)
      subst e23
      refine lv_istore_n (lv' := [(2, .int (nI (f (it f (k + 1) j)))), (0, .ref o), (1, .int (nI j)), (3, .int (nI k))]) hx hb dX0_isLeastOfRing_26 rfl hl (by decide) rfl (fun ls hl => ?_)
      refine xn_iinc (v := k + 1) (lv' := [(3, .int (nI (k + 1))), (2, .int (nI (f (it f (k + 1) j)))), (0, .ref o), (1, .int (nI j))]) hx hb dX0_isLeastOfRing_27 hl (k := 3) rfl (xinc1 _) (by decide) rfl (fun ls hl => ?_)
      refine lv_goto (tgt := 8) hx hb dX0_isLeastOfRing_30 (by decide) ?_
      exact ih8 (f (it f (k + 1) j), k + 1) ls ⟨(by dsimp only; omega), (by dsimp only; rfl), (fun q hq => by
            dsimp only at hq
            by_cases h9 : q = k
            · rw [h9]; simpa using c18
            · exact h4 q (by omega)), lv_sub hl [2, 3, 1, 0] rfl⟩ (by dsimp only; omega)

set_option maxRecDepth 100000 in
set_option maxHeartbeats 4000000 in
theorem cX0_ringCount_ (l : Launch) (D : va_G) (cI cC : ClassId) (o r n : Nat) (f : Nat → Nat) (hn : n ≤ 8) (hf : ∀ i, f i < 8) : Met l yX0_ringCount wsX0_ringCount (xRm 2 0 0) (va_Pc [.ref o] (xB D cI cC (xCh D cI o r n f))) (vp_Si (fun x => x = nI (sm (lst f n) n))) 0 0 (fun _ => False) := by
  refine Met.ofW (cc := cX0_ringCount) (maxL := 3) (ret := (some .int)) (by decide) rfl ?_
  intro p e s m args below meth c s₁ B hml hv
  obtain ⟨rfl, hP, hK⟩ := hv
  have hx := B.exec
  have hb := B.bytes
  have hr := B.returns
  have hts := atoms_spec (ws := wsX0_ringCount) B.pre
  have hown : s.vm.findClass RX0 = some m.cls := findClass_of_methodNamed B.named
  have hlocks := B.notSynchronized
  have hC := hP
  have hl := lv_entry ([.ref o]) (n := 3) (Nat.le_of_ble_eq_true rfl)
  rw [lg_entry_eq]
  generalize (lg_sl ([.ref o]) ++ List.replicate (3 - (lg_sl ([.ref o])).length) Slot.unset).toArray = ls at hl ⊢
  have hl : lv_has ls 3 [(0, .ref o)] := hl
  refine xn_iconst (v := 0) hx hb dX0_ringCount_0 (by decide) ?_
  refine lv_istore_n (lv' := [(1, .int (nI 0)), (0, .ref o)]) hx hb dX0_ringCount_1 rfl hl (by decide) rfl (fun ls hl => ?_)
  refine xn_iconst (v := 0) hx hb dX0_ringCount_2 (by decide) ?_
  refine lv_istore_n (lv' := [(2, .int (nI 0)), (1, .int (nI 0)), (0, .ref o)]) hx hb dX0_ringCount_3 rfl hl (by decide) rfl (fun ls hl => ?_)
  refine x_loop (σ := Nat × Nat) (fun a => n - a.2) (fun a ls => (a.2 ≤ n) ∧ (a.1 = sm (lst f n) a.2) ∧ lv_has ls 3 [(0, .ref o), (1, .int (nI a.1)), (2, .int (nI a.2))]) ?_ (0, 0) ls ⟨(Nat.zero_le _), rfl, lv_sub hl [2, 1, 0] rfl⟩
  rintro ⟨L, i⟩ ls ⟨h2, h3, hl⟩ ih4
  dsimp only at h2 h3 hl
  refine lv_iload_n hx hb dX0_ringCount_4 rfl (lv_at hl 2 rfl) ?_
  refine lv_aload_n hx hb dX0_ringCount_5 rfl (lv_at hl 0 rfl) ?_
  refine x_get (v := .int (nI n)) (C := RX0) (T := TX0) (N := 2) hx hb hts (by decide +kernel) hown hK hC.1 rfl 1 (by decide) (hts (.fieldLink RX0 15 "BellRanks$Change" "size" "I") (by decide +kernel)) (fun _ h9 => h9) rfl dX0_ringCount_6 ?_
  refine xn_icmp_ge (tgt := 29) hx hb dX0_ringCount_9 (by decide) (by omega) (by omega) (fun c9 => ?_) (fun c9 => ?_)
  · refine lv_iload_n hx hb dX0_ringCount_29 rfl (lv_at hl 1 rfl) ?_
    exact x_iret hx hb hr hlocks rfl (by rw [h3, show i = n by omega]) dX0_ringCount_30
  · refine lv_aload_n hx hb dX0_ringCount_12 rfl (lv_at hl 0 rfl) ?_
    refine lv_iload_n hx hb dX0_ringCount_13 rfl (lv_at hl 2 rfl) ?_
    refine xcV (As := [.int (nI i)]) (rest := []) ⟨hx, hb, hml, hown, hts⟩ (cX0_isLeastOfRing_ l D cI cC o r n f hn hf i (by omega)) (cwV 1 hts gX0_ringCount_X0_isLeastOfRing rfl rfl rfl (by decide +kernel) ⟨Nat.le_of_ble_eq_true rfl, Nat.le_of_ble_eq_true rfl⟩) hK hC (xRecv hK rfl hC.1) rfl hl.1 rfl (Nat.le_of_ble_eq_true rfl) dX0_ringCount_14 ⟨Nat.zero_le _, Nat.zero_le _⟩ (fun x14 e14 => ?_)
    subst e14
    refine xn_if_eq (tgt := 23) hx hb dX0_ringCount_17 (by decide) (by have := lst_le f n i; omega) (fun c17 => ?_) (fun c17 => ?_)
    · refine xn_iinc (v := i + 1) (lv' := [(2, .int (nI (i + 1))), (0, .ref o), (1, .int (nI L))]) hx hb dX0_ringCount_23 hl (k := 2) rfl (xinc1 _) (by decide) rfl (fun ls hl => ?_)
      refine lv_goto (tgt := 4) hx hb dX0_ringCount_26 (by decide) ?_
      exact ih4 (L, i + 1) ls ⟨(by dsimp only; omega), (by dsimp only; rw [sm_succ, h3, c17] <;> rfl), lv_sub hl [1, 2, 0] rfl⟩ (by dsimp only; omega)
    · have c17 : lst f n i = 1 := by have := lst_le f n i; omega
      refine xn_iinc (v := L + 1) (lv' := [(1, .int (nI (L + 1))), (0, .ref o), (2, .int (nI i))]) hx hb dX0_ringCount_20 hl (k := 1) rfl (xinc1 _) (by decide) rfl (fun ls hl => ?_)
      refine xn_iinc (v := i + 1) (lv' := [(2, .int (nI (i + 1))), (1, .int (nI (L + 1))), (0, .ref o)]) hx hb dX0_ringCount_23 hl (k := 2) rfl (xinc1 _) (by decide) rfl (fun ls hl => ?_)
      refine lv_goto (tgt := 4) hx hb dX0_ringCount_26 (by decide) ?_
      exact ih4 (L + 1, i + 1) ls ⟨(by dsimp only; omega), (by dsimp only; rw [sm_succ, h3, c17] <;> rfl), lv_sub hl [2, 1, 0] rfl⟩ (by dsimp only; omega)

set_option maxRecDepth 100000 in
set_option maxHeartbeats 4000000 in
theorem cX0_ownPlaces_ (l : Launch) (D : va_G) (cI cC : ClassId) (o r n : Nat) (f : Nat → Nat) (hn : n ≤ 8) (hf : ∀ i, f i < 100) : Met l yX0_ownPlaces wsX0_ownPlaces (xRm 1 0 0) (va_Pc [.ref o] (xB D cI cC (xCh D cI o r n f))) (vp_Si (fun x => x = nI (sm (own f) n))) 0 0 (fun _ => False) := by
  refine Met.ofW (cc := cX0_ownPlaces) (maxL := 3) (ret := (some .int)) (by decide) rfl ?_
  intro p e s m args below meth c s₁ B hml hv
  obtain ⟨rfl, hP, hK⟩ := hv
  have hx := B.exec
  have hb := B.bytes
  have hr := B.returns
  have hts := atoms_spec (ws := wsX0_ownPlaces) B.pre
  have hown : s.vm.findClass RX0 = some m.cls := findClass_of_methodNamed B.named
  have hlocks := B.notSynchronized
  have hC := hP
  have hl := lv_entry ([.ref o]) (n := 3) (Nat.le_of_ble_eq_true rfl)
  rw [lg_entry_eq]
  generalize (lg_sl ([.ref o]) ++ List.replicate (3 - (lg_sl ([.ref o])).length) Slot.unset).toArray = ls at hl ⊢
  have hl : lv_has ls 3 [(0, .ref o)] := hl
  refine xn_iconst (v := 0) hx hb dX0_ownPlaces_0 (by decide) ?_
  refine lv_istore_n (lv' := [(1, .int (nI 0)), (0, .ref o)]) hx hb dX0_ownPlaces_1 rfl hl (by decide) rfl (fun ls hl => ?_)
  refine xn_iconst (v := 0) hx hb dX0_ownPlaces_2 (by decide) ?_
  refine lv_istore_n (lv' := [(2, .int (nI 0)), (1, .int (nI 0)), (0, .ref o)]) hx hb dX0_ownPlaces_3 rfl hl (by decide) rfl (fun ls hl => ?_)
  refine x_loop (σ := Nat × Nat) (fun a => n - a.2) (fun a ls => (a.2 ≤ n) ∧ (a.1 = sm (own f) a.2) ∧ lv_has ls 3 [(0, .ref o), (1, .int (nI a.1)), (2, .int (nI a.2))]) ?_ (0, 0) ls ⟨(Nat.zero_le _), rfl, lv_sub hl [2, 1, 0] rfl⟩
  rintro ⟨L, i⟩ ls ⟨h2, h3, hl⟩ ih4
  dsimp only at h2 h3 hl
  refine lv_iload_n hx hb dX0_ownPlaces_4 rfl (lv_at hl 2 rfl) ?_
  refine lv_aload_n hx hb dX0_ownPlaces_5 rfl (lv_at hl 0 rfl) ?_
  refine x_get (v := .int (nI n)) (C := RX0) (T := TX0) (N := 2) hx hb hts (by decide +kernel) hown hK hC.1 rfl 1 (by decide) (hts (.fieldLink RX0 15 "BellRanks$Change" "size" "I") (by decide +kernel)) (fun _ h9 => h9) rfl dX0_ownPlaces_6 ?_
  refine xn_icmp_ge (tgt := 30) hx hb dX0_ownPlaces_9 (by decide) (by omega) (by omega) (fun c9 => ?_) (fun c9 => ?_)
  · refine lv_iload_n hx hb dX0_ownPlaces_30 rfl (lv_at hl 1 rfl) ?_
    exact x_iret hx hb hr hlocks rfl (by rw [h3, show i = n by omega]) dX0_ownPlaces_31
  · refine lv_aload_n hx hb dX0_ownPlaces_12 rfl (lv_at hl 0 rfl) ?_
    refine lv_iload_n hx hb dX0_ownPlaces_13 rfl (lv_at hl 2 rfl) ?_
    refine xcV (As := [.int (nI i)]) (rest := []) ⟨hx, hb, hml, hown, hts⟩ (cX0_bellAt_ l D cI cC o r n f i (by omega)) (cwV 1 hts gX0_ownPlaces_X0_bellAt rfl rfl rfl (by decide +kernel) ⟨Nat.le_of_ble_eq_true rfl, Nat.le_of_ble_eq_true rfl⟩) hK hC (xRecv hK rfl hC.1) rfl hl.1 rfl (Nat.le_of_ble_eq_true rfl) dX0_ownPlaces_14 ⟨Nat.zero_le _, Nat.zero_le _⟩ (fun x14 e14 => ?_)
    subst e14
    refine lv_iload_n hx hb dX0_ownPlaces_17 rfl (lv_at hl 2 rfl) ?_
    refine xn_icmp_ne (tgt := 24) hx hb dX0_ownPlaces_18 (by decide) (Nat.lt_trans (hf i) (by decide)) (by omega) (fun c18 => ?_) (fun c18 => ?_)
    · refine xn_iinc (v := i + 1) (lv' := [(2, .int (nI (i + 1))), (0, .ref o), (1, .int (nI L))]) hx hb dX0_ownPlaces_24 hl (k := 2) rfl (xinc1 _) (by decide) rfl (fun ls hl => ?_)
      refine lv_goto (tgt := 4) hx hb dX0_ownPlaces_27 (by decide) ?_
      exact ih4 (L, i + 1) ls ⟨(by dsimp only; omega), (by dsimp only; rw [sm_succ, h3]; unfold own; rw [if_neg c18] <;> rfl), lv_sub hl [1, 2, 0] rfl⟩ (by dsimp only; omega)
    · refine xn_iinc (v := L + 1) (lv' := [(1, .int (nI (L + 1))), (0, .ref o), (2, .int (nI i))]) hx hb dX0_ownPlaces_21 hl (k := 1) rfl (xinc1 _) (by decide) rfl (fun ls hl => ?_)
      refine xn_iinc (v := i + 1) (lv' := [(2, .int (nI (i + 1))), (1, .int (nI (L + 1))), (0, .ref o)]) hx hb dX0_ownPlaces_24 hl (k := 2) rfl (xinc1 _) (by decide) rfl (fun ls hl => ?_)
      refine lv_goto (tgt := 4) hx hb dX0_ownPlaces_27 (by decide) ?_
      exact ih4 (L + 1, i + 1) ls ⟨(by dsimp only; omega), (by dsimp only; rw [sm_succ, h3]; unfold own; rw [if_pos c18] <;> rfl), lv_sub hl [2, 1, 0] rfl⟩ (by dsimp only; omega)

set_option maxRecDepth 100000 in
set_option maxHeartbeats 4000000 in
theorem cX0_leastMultiple_ (l : Launch) (D : va_G) (cI cC : ClassId) (u v : Nat) (hu : u < 10000) (hv : 1 ≤ v) (hv8 : v ≤ 8) : Met l yX0_leastMultiple wsX0_leastMultiple (xRm 0 0 0) (va_Pc [.int (nI u), .int (nI v)] (xB D cI cC (fun _ => True))) (vp_Si (fun x => x = nI (lmu u v))) 0 0 (fun _ => False) := by
  refine Met.ofW (cc := cX0_leastMultiple) (maxL := 4) (ret := (some .int)) (by decide) rfl ?_
  intro p e s m args below meth c s₁ B hml hv
  obtain ⟨rfl, hP, hK⟩ := hv
  have hx := B.exec
  have hb := B.bytes
  have hr := B.returns
  have hts := atoms_spec (ws := wsX0_leastMultiple) B.pre
  have hown : s.vm.findClass RX0 = some m.cls := findClass_of_methodNamed B.named
  have hlocks := B.notSynchronized
  have hl := lv_entry ([.int (nI u), .int (nI v)]) (n := 4) (Nat.le_of_ble_eq_true rfl)
  rw [lg_entry_eq]
  generalize (lg_sl ([.int (nI u), .int (nI v)]) ++ List.replicate (4 - (lg_sl ([.int (nI u), .int (nI v)])).length) Slot.unset).toArray = ls at hl ⊢
  have hl : lv_has ls 4 [(0, .int (nI u)), (1, .int (nI v))] := hl
  refine lv_iload_n hx hb dX0_leastMultiple_0 rfl (lv_at hl 0 rfl) ?_
  refine lv_istore_n (lv' := [(2, .int (nI u)), (0, .int (nI u)), (1, .int (nI v))]) hx hb dX0_leastMultiple_1 rfl hl (by decide) rfl (fun ls hl => ?_)
  refine xn_iconst (v := 1) hx hb dX0_leastMultiple_2 (by decide) ?_
  refine lv_istore_n (lv' := [(3, .int (nI 1)), (2, .int (nI u)), (0, .int (nI u)), (1, .int (nI v))]) hx hb dX0_leastMultiple_3 rfl hl (by decide) rfl (fun ls hl => ?_)
  refine x_loop (σ := Nat × Nat) (fun a => v - a.2) (fun a ls => (1 ≤ a.2) ∧ (a.2 ≤ v) ∧ (a.1 = u * a.2) ∧ (∀ q, q < a.2 - 1 → (u * (q + 1) % v == 0) = false) ∧ lv_has ls 4 [(0, .int (nI u)), (1, .int (nI v)), (2, .int (nI a.1)), (3, .int (nI a.2))]) ?_ (u, 1) ls ⟨(Nat.le_refl _), (by dsimp only; omega), (Nat.mul_one u).symm, (fun q h => absurd h (by omega)), lv_sub hl [2, 3, 1, 0] rfl⟩
  rintro ⟨w, k⟩ ls ⟨h1, h2, h3, h4, hl⟩ ih4
  dsimp only at h1 h2 h3 h4 hl
  have hw : w < 100000 := by rw [h3]; exact Nat.lt_of_le_of_lt (Nat.mul_le_mul (Nat.le_of_lt hu) (Nat.le_trans h2 hv8)) (by decide)
  refine lv_iload_n hx hb dX0_leastMultiple_4 rfl (lv_at hl 3 rfl) ?_
  refine lv_iload_n hx hb dX0_leastMultiple_5 rfl (lv_at hl 1 rfl) ?_
  refine xn_icmp_ge (tgt := 25) hx hb dX0_leastMultiple_6 (by decide) (by omega) (by omega) (fun c6 => ?_) (fun c6 => ?_)
  · refine lv_iload_n hx hb dX0_leastMultiple_25 rfl (lv_at hl 2 rfl) ?_
    exact x_iret hx hb hr hlocks rfl (congrArg nI (by unfold lmu; rw [fnd_eq (k := k - 1) (by omega) h4 (fun z => absurd z (by omega)), Nat.sub_add_cancel h1, h3])) dX0_leastMultiple_26
  · refine lv_iload_n hx hb dX0_leastMultiple_9 rfl (lv_at hl 2 rfl) ?_
    refine lv_iload_n hx hb dX0_leastMultiple_10 rfl (lv_at hl 1 rfl) ?_
    refine xn_irem hx hb (by omega) (by omega) (by omega) dX0_leastMultiple_11 ?_
    refine xn_if_eq (tgt := 25) hx hb dX0_leastMultiple_12 (by decide) (Nat.lt_trans (Nat.mod_lt _ (by omega)) (by omega)) (fun c12 => ?_) (fun c12 => ?_)
    · refine lv_iload_n hx hb dX0_leastMultiple_25 rfl (lv_at hl 2 rfl) ?_
      exact x_iret hx hb hr hlocks rfl (congrArg nI (by unfold lmu; rw [fnd_eq (k := k - 1) (by omega) h4 (fun _ => by rw [Nat.sub_add_cancel h1, ← h3]; simpa using c12), Nat.sub_add_cancel h1, h3])) dX0_leastMultiple_26
    · refine lv_iload_n hx hb dX0_leastMultiple_15 rfl (lv_at hl 2 rfl) ?_
      refine lv_iload_n hx hb dX0_leastMultiple_16 rfl (lv_at hl 0 rfl) ?_
      refine xn_iadd hx hb dX0_leastMultiple_17 ?_
      refine lv_istore_n (lv' := [(2, .int (nI (w + u))), (0, .int (nI u)), (1, .int (nI v)), (3, .int (nI k))]) hx hb dX0_leastMultiple_18 rfl hl (by decide) rfl (fun ls hl => ?_)
      refine xn_iinc (v := k + 1) (lv' := [(3, .int (nI (k + 1))), (2, .int (nI (w + u))), (0, .int (nI u)), (1, .int (nI v))]) hx hb dX0_leastMultiple_19 hl (k := 3) rfl (xinc1 _) (by decide) rfl (fun ls hl => ?_)
      refine lv_goto (tgt := 4) hx hb dX0_leastMultiple_22 (by decide) ?_
      exact ih4 (w + u, k + 1) ls ⟨(by dsimp only; omega), (by dsimp only; omega), (by dsimp only; rw [h3, Nat.mul_succ]), (fun q hq => by
            dsimp only at hq
            by_cases h9 : q + 1 = k
            · rw [h9, ← h3]; simpa using Nat.pos_iff_ne_zero.mp c12
            · exact h4 q (by omega)), lv_sub hl [2, 3, 1, 0] rfl⟩ (by dsimp only; omega)

set_option maxRecDepth 100000 in
set_option maxHeartbeats 4000000 in
theorem cX0_order_ (l : Launch) (D : va_G) (cI cC : ClassId) (o r n : Nat) (f : Nat → Nat) (hn : n ≤ 8) (hf : ∀ i, f i < 8) (hord : ∀ i, i ≤ n → ord f n i < 10000) : Met l yX0_order wsX0_order (xRm 2 0 0) (va_Pc [.ref o] (xB D cI cC (xCh D cI o r n f))) (vp_Si (fun x => x = nI (ord f n n))) 0 0 (fun _ => False) := by
  refine Met.ofW (cc := cX0_order) (maxL := 3) (ret := (some .int)) (by decide) rfl ?_
  intro p e s m args below meth c s₁ B hml hv
  obtain ⟨rfl, hP, hK⟩ := hv
  have hx := B.exec
  have hb := B.bytes
  have hr := B.returns
  have hts := atoms_spec (ws := wsX0_order) B.pre
  have hown : s.vm.findClass RX0 = some m.cls := findClass_of_methodNamed B.named
  have hlocks := B.notSynchronized
  have hC := hP
  have hl := lv_entry ([.ref o]) (n := 3) (Nat.le_of_ble_eq_true rfl)
  rw [lg_entry_eq]
  generalize (lg_sl ([.ref o]) ++ List.replicate (3 - (lg_sl ([.ref o])).length) Slot.unset).toArray = ls at hl ⊢
  have hl : lv_has ls 3 [(0, .ref o)] := hl
  refine xn_iconst (v := 1) hx hb dX0_order_0 (by decide) ?_
  refine lv_istore_n (lv' := [(1, .int (nI 1)), (0, .ref o)]) hx hb dX0_order_1 rfl hl (by decide) rfl (fun ls hl => ?_)
  refine xn_iconst (v := 0) hx hb dX0_order_2 (by decide) ?_
  refine lv_istore_n (lv' := [(2, .int (nI 0)), (1, .int (nI 1)), (0, .ref o)]) hx hb dX0_order_3 rfl hl (by decide) rfl (fun ls hl => ?_)
  refine x_loop (σ := Nat × Nat) (fun a => n - a.2) (fun a ls => (a.2 ≤ n) ∧ (a.1 = ord f n a.2) ∧ lv_has ls 3 [(0, .ref o), (1, .int (nI a.1)), (2, .int (nI a.2))]) ?_ (1, 0) ls ⟨(Nat.zero_le _), rfl, lv_sub hl [2, 1, 0] rfl⟩
  rintro ⟨L, i⟩ ls ⟨h2, h3, hl⟩ ih4
  dsimp only at h2 h3 hl
  have hL : L < 10000 := by rw [h3]; exact hord i h2
  refine lv_iload_n hx hb dX0_order_4 rfl (lv_at hl 2 rfl) ?_
  refine lv_aload_n hx hb dX0_order_5 rfl (lv_at hl 0 rfl) ?_
  refine x_get (v := .int (nI n)) (C := RX0) (T := TX0) (N := 2) hx hb hts (by decide +kernel) hown hK hC.1 rfl 1 (by decide) (hts (.fieldLink RX0 15 "BellRanks$Change" "size" "I") (by decide +kernel)) (fun _ h9 => h9) rfl dX0_order_6 ?_
  refine xn_icmp_ge (tgt := 28) hx hb dX0_order_9 (by decide) (by omega) (by omega) (fun c9 => ?_) (fun c9 => ?_)
  · refine lv_iload_n hx hb dX0_order_28 rfl (lv_at hl 1 rfl) ?_
    exact x_iret hx hb hr hlocks rfl (by rw [h3, show i = n by omega]) dX0_order_29
  · refine lv_iload_n hx hb dX0_order_12 rfl (lv_at hl 1 rfl) ?_
    refine lv_aload_n hx hb dX0_order_13 rfl (lv_at hl 0 rfl) ?_
    refine lv_iload_n hx hb dX0_order_14 rfl (lv_at hl 2 rfl) ?_
    refine xcV (As := [.int (nI i)]) (rest := [.int (nI L)]) ⟨hx, hb, hml, hown, hts⟩ (cX0_ringLength_ l D cI cC o r n f hn hf i (by omega)) (cwV 1 hts gX0_order_X0_ringLength rfl rfl rfl (by decide +kernel) ⟨Nat.le_of_ble_eq_true rfl, Nat.le_of_ble_eq_true rfl⟩) hK hC (xRecv hK rfl hC.1) rfl hl.1 rfl (Nat.le_of_ble_eq_true rfl) dX0_order_15 ⟨Nat.zero_le _, Nat.zero_le _⟩ (fun x15 e15 => ?_)
    subst e15
    refine xcS (As := [.int (nI L), .int (nI (per f n i))]) (rest := []) ⟨hx, hb, hml, hown, hts⟩ (cX0_leastMultiple_ l D cI cC L (per f n i) (by omega) (per_1 _ _ _) (Nat.le_trans (per_le (by omega) _) hn)) (va_cwS 2 hts gX0_order_X0_leastMultiple rfl rfl rfl (by decide +kernel) ⟨Nat.le_of_ble_eq_true rfl, Nat.le_of_ble_eq_true rfl⟩) hK trivial rfl hl.1 rfl (Nat.le_of_ble_eq_true rfl) dX0_order_18 ⟨Nat.zero_le _, Nat.zero_le _⟩ (fun x18 e18 => ?_)
    subst e18
    refine lv_istore_n (lv' := [(1, .int (nI (lmu L (per f n i)))), (0, .ref o), (2, .int (nI i))]) hx hb dX0_order_21 rfl hl (by decide) rfl (fun ls hl => ?_)
    refine xn_iinc (v := i + 1) (lv' := [(2, .int (nI (i + 1))), (1, .int (nI (lmu L (per f n i)))), (0, .ref o)]) hx hb dX0_order_22 hl (k := 2) rfl (xinc1 _) (by decide) rfl (fun ls hl => ?_)
    refine lv_goto (tgt := 4) hx hb dX0_order_25 (by decide) ?_
    exact ih4 (lmu L (per f n i), i + 1) ls ⟨(by dsimp only; omega), (by dsimp only; rw [h3]; rfl), lv_sub hl [2, 1, 0] rfl⟩ (by dsimp only; omega)

set_option maxRecDepth 100000 in
set_option maxHeartbeats 4000000 in
theorem cX0_longestRing_ (l : Launch) (D : va_G) (cI cC : ClassId) (o r n : Nat) (f : Nat → Nat) (hn : n ≤ 8) (hf : ∀ i, f i < 8) : Met l yX0_longestRing wsX0_longestRing (xRm 2 0 0) (va_Pc [.ref o] (xB D cI cC (xCh D cI o r n f))) (vp_Si (fun x => x = nI (mxr f n n))) 0 0 (fun _ => False) := by
  refine Met.ofW (cc := cX0_longestRing) (maxL := 3) (ret := (some .int)) (by decide) rfl ?_
  intro p e s m args below meth c s₁ B hml hv
  obtain ⟨rfl, hP, hK⟩ := hv
  have hx := B.exec
  have hb := B.bytes
  have hr := B.returns
  have hts := atoms_spec (ws := wsX0_longestRing) B.pre
  have hown : s.vm.findClass RX0 = some m.cls := findClass_of_methodNamed B.named
  have hlocks := B.notSynchronized
  have hC := hP
  have hl := lv_entry ([.ref o]) (n := 3) (Nat.le_of_ble_eq_true rfl)
  rw [lg_entry_eq]
  generalize (lg_sl ([.ref o]) ++ List.replicate (3 - (lg_sl ([.ref o])).length) Slot.unset).toArray = ls at hl ⊢
  have hl : lv_has ls 3 [(0, .ref o)] := hl
  refine xn_iconst (v := 0) hx hb dX0_longestRing_0 (by decide) ?_
  refine lv_istore_n (lv' := [(1, .int (nI 0)), (0, .ref o)]) hx hb dX0_longestRing_1 rfl hl (by decide) rfl (fun ls hl => ?_)
  refine xn_iconst (v := 0) hx hb dX0_longestRing_2 (by decide) ?_
  refine lv_istore_n (lv' := [(2, .int (nI 0)), (1, .int (nI 0)), (0, .ref o)]) hx hb dX0_longestRing_3 rfl hl (by decide) rfl (fun ls hl => ?_)
  refine x_loop (σ := Nat × Nat) (fun a => n - a.2) (fun a ls => (a.2 ≤ n) ∧ (a.1 = mxr f n a.2) ∧ lv_has ls 3 [(0, .ref o), (1, .int (nI a.1)), (2, .int (nI a.2))]) ?_ (0, 0) ls ⟨(Nat.zero_le _), rfl, lv_sub hl [2, 1, 0] rfl⟩
  rintro ⟨L, i⟩ ls ⟨h2, h3, hl⟩ ih4
  dsimp only at h2 h3 hl
  refine lv_iload_n hx hb dX0_longestRing_4 rfl (lv_at hl 2 rfl) ?_
  refine lv_aload_n hx hb dX0_longestRing_5 rfl (lv_at hl 0 rfl) ?_
  refine x_get (v := .int (nI n)) (C := RX0) (T := TX0) (N := 2) hx hb hts (by decide +kernel) hown hK hC.1 rfl 1 (by decide) (hts (.fieldLink RX0 15 "BellRanks$Change" "size" "I") (by decide +kernel)) (fun _ h9 => h9) rfl dX0_longestRing_6 ?_
  refine xn_icmp_ge (tgt := 28) hx hb dX0_longestRing_9 (by decide) (by omega) (by omega) (fun c9 => ?_) (fun c9 => ?_)
  · refine lv_iload_n hx hb dX0_longestRing_28 rfl (lv_at hl 1 rfl) ?_
    exact x_iret hx hb hr hlocks rfl (by rw [h3, show i = n by omega]) dX0_longestRing_29
  · refine lv_iload_n hx hb dX0_longestRing_12 rfl (lv_at hl 1 rfl) ?_
    refine lv_aload_n hx hb dX0_longestRing_13 rfl (lv_at hl 0 rfl) ?_
    refine lv_iload_n hx hb dX0_longestRing_14 rfl (lv_at hl 2 rfl) ?_
    refine xcV (As := [.int (nI i)]) (rest := [.int (nI L)]) ⟨hx, hb, hml, hown, hts⟩ (cX0_ringLength_ l D cI cC o r n f hn hf i (by omega)) (cwV 1 hts gX0_longestRing_X0_ringLength rfl rfl rfl (by decide +kernel) ⟨Nat.le_of_ble_eq_true rfl, Nat.le_of_ble_eq_true rfl⟩) hK hC (xRecv hK rfl hC.1) rfl hl.1 rfl (Nat.le_of_ble_eq_true rfl) dX0_longestRing_15 ⟨Nat.zero_le _, Nat.zero_le _⟩ (fun x15 e15 => ?_)
    subst e15
    refine va_mmax hx hb (hml.trans hl.1.symm) hown (hts (.methodLink RX0 54 Lib.Math.max.name) (by decide +kernel)) (hts (.static Lib.Math.max.name) (by decide +kernel)) (hts (.initialized "java/lang/Math") (by decide +kernel)) (hts (.code Lib.Math.max.name Lib.Math.max.code 2 (some .int)) (by decide +kernel)) (Nat.le_of_ble_eq_true rfl) (Nat.le_of_ble_eq_true rfl) (Nat.zero_le _) (Nat.zero_le _) dX0_longestRing_18 ?_
    refine xz_i (xmaxN (by have := mxr_le (f := f) hn i (by omega); omega) (by have := per_le (f := f) (show i < n by omega) i; omega)) ?_
    refine lv_istore_n (lv' := [(1, .int (nI (max L (per f n i)))), (0, .ref o), (2, .int (nI i))]) hx hb dX0_longestRing_21 rfl hl (by decide) rfl (fun ls hl => ?_)
    refine xn_iinc (v := i + 1) (lv' := [(2, .int (nI (i + 1))), (1, .int (nI (max L (per f n i)))), (0, .ref o)]) hx hb dX0_longestRing_22 hl (k := 2) rfl (xinc1 _) (by decide) rfl (fun ls hl => ?_)
    refine lv_goto (tgt := 4) hx hb dX0_longestRing_25 (by decide) ?_
    exact ih4 (max L (per f n i), i + 1) ls ⟨(by dsimp only; omega), (by dsimp only; rw [h3]; rfl), lv_sub hl [2, 1, 0] rfl⟩ (by dsimp only; omega)
end
section
/-! BellRanks$Change: the methods that write; Method.keeps -/
def rpF (g : Nat → Nat) (n t : Nat) : Nat → Nat := fun q => it g (t % per g n q) q
theorem xsh31 : ∀ i, i < 32 → ((nI i &&& 31).toBitVec.smod 32).toNat = i := by decide
theorem xshr {k i : Nat} (hk : k < 2 ^ 31) (hi : i < 32) : nI k >>> (nI i &&& 31) = nI (k / 2 ^ i) := pk_shrN hk _ i (xsh31 i hi)
theorem xshl {k i : Nat} (h : k * 2 ^ i < 2 ^ 32) (hi : i < 32) : nI k <<< (nI i &&& 31) = nI (k * 2 ^ i) := pk_shlN _ i (xsh31 i hi) h
theorem xand1 {k : Nat} (hk : k < 2 ^ 31) : nI k &&& nI 1 = nI (k % 2) := pk_andN (Nat.lt_trans hk (by decide)) 1 rfl
set_option maxRecDepth 100000 in
set_option maxHeartbeats 4000000 in
theorem cX0_put_ (l : Launch) (D : va_G) (cI cC : ClassId) (o r n : Nat) (f : Nat → Nat) (hor : o ≠ r) (j v : Nat) (hj : j < 8) : Met l yX0_put wsX0_put (xRm 0 0 0) (va_Pc [.ref o, .int (nI j), .int (nI v)] (xB D cI cC (xCh D cI o r n f))) (xV (fun _ : Unit => True) (fun _ => xCh D cI o r n (va_up f j v)) (fun q => q = r)) 0 0 (fun q => q = r) := by
  refine Met.ofW (cc := cX0_put) (maxL := 3) (ret := none) (by decide) rfl ?_
  intro p e s m args below meth c s₁ B hml hv
  obtain ⟨rfl, hP, hK⟩ := hv
  have hx := B.exec
  have hb := B.bytes
  have hr := B.returns
  have hts := atoms_spec (ws := wsX0_put) B.pre
  have hown : s.vm.findClass RX0 = some m.cls := findClass_of_methodNamed B.named
  have hlocks := B.notSynchronized
  have hC := hP
  have hl := lv_entry ([.ref o, .int (nI j), .int (nI v)]) (n := 3) (Nat.le_of_ble_eq_true rfl)
  rw [lg_entry_eq]
  generalize (lg_sl ([.ref o, .int (nI j), .int (nI v)]) ++ List.replicate (3 - (lg_sl ([.ref o, .int (nI j), .int (nI v)])).length) Slot.unset).toArray = ls at hl ⊢
  have hl : lv_has ls 3 [(0, .ref o), (1, .int (nI j)), (2, .int (nI v))] := hl
  have hS : va_S (fun q => q = r) s.heap s.heap [] := va_S.rf
  refine lv_iload_n hx hb dX0_put_0 rfl (lv_at hl 1 rfl) ?_
  refine xn_if_lt (tgt := 20) hx hb dX0_put_1 (by decide) (by omega) ?_
  refine lv_iload_n hx hb dX0_put_4 rfl (lv_at hl 1 rfl) ?_
  refine lv_aload_n hx hb dX0_put_5 rfl (lv_at hl 0 rfl) ?_
  refine x_get (v := .ref r) (C := RX0) (T := TX0) (N := 2) hx hb hts (by decide +kernel) hown hK hC.1 rfl 0 (by decide) (hts (.fieldLink RX0 9 "BellRanks$Change" "row" "[I") (by decide +kernel)) (fun _ h9 => h9) rfl dX0_put_6 ?_
  refine x_alen hx hb hK hC.2 dX0_put_9 ?_
  refine xn_icmp_ge (tgt := 20) hx hb dX0_put_10 (by decide) (by omega) (by decide) (fun c10 => ?_) (fun c10 => ?_)
  · exact absurd c10 (by omega)
  · refine lv_aload_n hx hb dX0_put_13 rfl (lv_at hl 0 rfl) ?_
    refine x_get (v := .ref r) (C := RX0) (T := TX0) (N := 2) hx hb hts (by decide +kernel) hown hK hC.1 rfl 0 (by decide) (hts (.fieldLink RX0 9 "BellRanks$Change" "row" "[I") (by decide +kernel)) (fun _ h9 => h9) rfl dX0_put_14 ?_
    refine lv_iload_n hx hb dX0_put_17 rfl (lv_at hl 1 rfl) ?_
    refine lv_iload_n hx hb dX0_put_18 rfl (lv_at hl 2 rfl) ?_
    refine x_iast hx hb hK hC.2 hS rfl (by omega) (by decide) dX0_put_19 (fun H1 locs1 hN hz oq hS => ?_)
    have hC : xCh D cI o r n (va_up f j v) H1 := ⟨hC.1.kept (oq _ hor), hN⟩
    exact x_vret hx hb hr hlocks () trivial hC hS (fun _ h => h) dX0_put_20

set_option maxRecDepth 100000 in
set_option maxHeartbeats 4000000 in
theorem cX0_insertAhead_ (l : Launch) (D : va_G) (cI cC : ClassId) (o r n : Nat) (f : Nat → Nat) (hor : o ≠ r) (hn : n ≤ 8) (hf : ∀ i, f i < 100) (j v : Nat) (hj : j < n) (hv : v < 100) : Met l yX0_insertAhead wsX0_insertAhead (xRm 1 0 0) (va_Pc [.ref o, .int (nI j), .int (nI v)] (xB D cI cC (xCh D cI o r n f))) (xV (fun _ : Unit => True) (fun _ => xCh D cI o r n (insA f n j v)) (fun q => q = r)) 0 0 (fun q => q = r) := by
  refine Met.ofW (cc := cX0_insertAhead) (maxL := 4) (ret := none) (by decide) rfl ?_
  intro p e s m args below meth c s₁ B hml hv
  obtain ⟨rfl, hP, hK⟩ := hv
  have hx := B.exec
  have hb := B.bytes
  have hr := B.returns
  have hts := atoms_spec (ws := wsX0_insertAhead) B.pre
  have hown : s.vm.findClass RX0 = some m.cls := findClass_of_methodNamed B.named
  have hlocks := B.notSynchronized
  have hC := hP
  have hl := lv_entry ([.ref o, .int (nI j), .int (nI v)]) (n := 4) (Nat.le_of_ble_eq_true rfl)
  rw [lg_entry_eq]
  generalize (lg_sl ([.ref o, .int (nI j), .int (nI v)]) ++ List.replicate (4 - (lg_sl ([.ref o, .int (nI j), .int (nI v)])).length) Slot.unset).toArray = ls at hl ⊢
  have hl : lv_has ls 4 [(0, .ref o), (1, .int (nI j)), (2, .int (nI v))] := hl
  have hS : va_S (fun q => q = r) s.heap s.heap [] := va_S.rf
  refine lv_aload_n hx hb dX0_insertAhead_0 rfl (lv_at hl 0 rfl) ?_
  refine lv_iload_n hx hb dX0_insertAhead_1 rfl (lv_at hl 1 rfl) ?_
  refine lv_iload_n hx hb dX0_insertAhead_2 rfl (lv_at hl 2 rfl) ?_
  refine xmV (As := [.int (nI j), .int (nI v)]) (rest := []) ⟨hx, hb, hml, hown, hts⟩ (cX0_put_ l D cI cC o r n f hor j v (by omega)) (cwV 2 hts gX0_insertAhead_X0_put rfl rfl rfl (by decide +kernel) ⟨Nat.le_of_ble_eq_true rfl, Nat.le_of_ble_eq_true rfl⟩) hK hC (xRecv hK rfl hC.1) rfl hl.1 rfl (Nat.le_of_ble_eq_true rfl) dX0_insertAhead_3 ⟨Nat.zero_le _, Nat.zero_le _⟩ hS (fun _ h => h) (fun _ h => h) (fun u3 H1 locs1 hp3 hF3 hz3 hk3 hS => ?_)
  have hC : xCh D cI o r n (va_up f j v) H1 := hF3
  refine lv_iload_n hx hb dX0_insertAhead_6 rfl (lv_at hl 1 rfl) ?_
  refine xn_iconst (v := 1) hx hb dX0_insertAhead_7 (by decide) ?_
  refine xn_iadd hx hb dX0_insertAhead_8 ?_
  refine lv_istore_n (lv' := [(3, .int (nI (j + 1))), (0, .ref o), (1, .int (nI j)), (2, .int (nI v))]) hx hb dX0_insertAhead_9 rfl hl (by decide) rfl (fun ls hl => ?_)
  refine x_loopH (σ := Nat) (fun a => n - a) (fun a H locs cells slots ls => (j < a) ∧ (a ≤ n) ∧ (xCh D cI o r n (insA f a j v) H) ∧ (va_S (fun q9 => q9 = r) s.heap H locs) ∧ (cells = 0) ∧ (slots = 0) ∧ lv_has ls 4 [(0, .ref o), (1, .int (nI j)), (2, .int (nI v)), (3, .int (nI a))]) ?_ (j + 1) _ _ _ _ ls ⟨(by omega), (by omega), (by rw [← insA_0]; exact hC), hS, rfl, rfl, lv_sub hl [1, 2, 3, 0] rfl⟩
  rintro i H locs cells slots ls ⟨h1, h2, hC, hS, rfl, rfl, hl⟩ ih10
  
  refine lv_iload_n hx hb dX0_insertAhead_10 rfl (lv_at hl 3 rfl) ?_
  refine lv_aload_n hx hb dX0_insertAhead_11 rfl (lv_at hl 0 rfl) ?_
  refine x_get (v := .int (nI n)) (C := RX0) (T := TX0) (N := 2) hx hb hts (by decide +kernel) hown hK hC.1 rfl 1 (by decide) (hts (.fieldLink RX0 15 "BellRanks$Change" "size" "I") (by decide +kernel)) (fun _ h9 => h9) rfl dX0_insertAhead_12 ?_
  refine xn_icmp_ge (tgt := 45) hx hb dX0_insertAhead_15 (by decide) (by omega) (by omega) (fun c15 => ?_) (fun c15 => ?_)
  · exact x_vret hx hb hr hlocks () trivial (by have e9 : i = n := (by omega); rw [← e9]; rw [← e9] at hC; exact hC) hS (fun _ h => h) dX0_insertAhead_45
  · refine lv_aload_n hx hb dX0_insertAhead_18 rfl (lv_at hl 0 rfl) ?_
    refine lv_iload_n hx hb dX0_insertAhead_19 rfl (lv_at hl 3 rfl) ?_
    refine xcV (As := [.int (nI i)]) (rest := []) ⟨hx, hb, hml, hown, hts⟩ (cX0_bellAt_ l D cI cC o r n (insA f i j v) i (by omega)) (cwV 1 hts gX0_insertAhead_X0_bellAt rfl rfl rfl (by decide +kernel) ⟨Nat.le_of_ble_eq_true rfl, Nat.le_of_ble_eq_true rfl⟩) hK hC (xRecv hK rfl hC.1) rfl hl.1 rfl (Nat.le_of_ble_eq_true rfl) dX0_insertAhead_20 ⟨Nat.zero_le _, Nat.zero_le _⟩ (fun x20 e20 => ?_)
    subst e20
    refine xz_i (congrArg nI (insA_at h1)) ?_
    refine lv_iload_n hx hb dX0_insertAhead_23 rfl (lv_at hl 2 rfl) ?_
    refine xn_icmp_lt (tgt := 39) hx hb dX0_insertAhead_24 (by decide) (Nat.lt_trans (hf i) (by decide)) (by omega) (fun c24 => ?_) (fun c24 => ?_)
    · refine xn_iinc (v := i + 1) (lv' := [(3, .int (nI (i + 1))), (0, .ref o), (1, .int (nI j)), (2, .int (nI v))]) hx hb dX0_insertAhead_39 hl (k := 3) rfl (xinc1 _) (by decide) rfl (fun ls hl => ?_)
      refine lv_goto (tgt := 10) hx hb dX0_insertAhead_42 (by decide) ?_
      exact ih10 (i + 1) _ _ _ _ ls ⟨(by omega), (by omega), (by rw [← insA_lo c24]; exact hC), hS, rfl, rfl, lv_sub hl [1, 2, 3, 0] rfl⟩ (by omega)
    · refine lv_aload_n hx hb dX0_insertAhead_27 rfl (lv_at hl 0 rfl) ?_
      refine lv_iload_n hx hb dX0_insertAhead_28 rfl (lv_at hl 3 rfl) ?_
      refine lv_aload_n hx hb dX0_insertAhead_29 rfl (lv_at hl 0 rfl) ?_
      refine lv_iload_n hx hb dX0_insertAhead_30 rfl (lv_at hl 3 rfl) ?_
      refine xcV (As := [.int (nI i)]) (rest := [.int (nI i), .ref o]) ⟨hx, hb, hml, hown, hts⟩ (cX0_bellAt_ l D cI cC o r n (insA f i j v) i (by omega)) (cwV 1 hts gX0_insertAhead_X0_bellAt rfl rfl rfl (by decide +kernel) ⟨Nat.le_of_ble_eq_true rfl, Nat.le_of_ble_eq_true rfl⟩) hK hC (xRecv hK rfl hC.1) rfl hl.1 rfl (Nat.le_of_ble_eq_true rfl) dX0_insertAhead_31 ⟨Nat.zero_le _, Nat.zero_le _⟩ (fun x31 e31 => ?_)
      subst e31
      refine xz_i (congrArg nI (insA_at h1)) ?_
      refine xn_iconst (v := 1) hx hb dX0_insertAhead_34 (by decide) ?_
      refine xn_iadd hx hb dX0_insertAhead_35 ?_
      refine xmV (As := [.int (nI i), .int (nI (f i + 1))]) (rest := []) ⟨hx, hb, hml, hown, hts⟩ (cX0_put_ l D cI cC o r n (insA f i j v) hor i (f i + 1) (by omega)) (cwV 2 hts gX0_insertAhead_X0_put rfl rfl rfl (by decide +kernel) ⟨Nat.le_of_ble_eq_true rfl, Nat.le_of_ble_eq_true rfl⟩) hK hC (xRecv hK rfl hC.1) rfl hl.1 rfl (Nat.le_of_ble_eq_true rfl) dX0_insertAhead_36 ⟨Nat.zero_le _, Nat.zero_le _⟩ hS (fun _ h => h) (fun _ h => h) (fun u36 H1 locs1 hp36 hF36 hz36 hk36 hS => ?_)
      have hC : xCh D cI o r n (va_up (insA f i j v) i (f i + 1)) H1 := hF36
      refine xn_iinc (v := i + 1) (lv' := [(3, .int (nI (i + 1))), (0, .ref o), (1, .int (nI j)), (2, .int (nI v))]) hx hb dX0_insertAhead_39 hl (k := 3) rfl (xinc1 _) (by decide) rfl (fun ls hl => ?_)
      refine lv_goto (tgt := 10) hx hb dX0_insertAhead_42 (by decide) ?_
      exact ih10 (i + 1) _ _ _ _ ls ⟨(by omega), (by omega), (by rw [← insA_hi h1 c24]; exact hC), hS, rfl, rfl, lv_sub hl [1, 2, 3, 0] rfl⟩ (by omega)

set_option maxRecDepth 100000 in
set_option maxHeartbeats 4000000 in
theorem cX0_setRank_ (l : Launch) (D : va_G) (cI cC : ClassId) (o r n0 : Nat) (f : Nat → Nat) (hor : o ≠ r) (hf : ∀ i, f i < 8) (n rk : Nat) (hn : n ≤ 8) (hrk : rk < 2 ^ 31) : Met l yX0_setRank wsX0_setRank (xRm 2 0 0) (va_Pc [.ref o, .int (nI n), .int (nI rk)] (xB D cI cC (xCh D cI o r n0 f))) (xV (fun _ : Unit => True) (fun _ => xCh D cI o r n (srG f n rk n)) (fun q => q = o ∨ q = r)) 0 0 (fun q => q = o ∨ q = r) := by
  refine Met.ofW (cc := cX0_setRank) (maxL := 5) (ret := none) (by decide) rfl ?_
  intro p e s m args below meth c s₁ B hml hv
  obtain ⟨rfl, hP, hK⟩ := hv
  have hx := B.exec
  have hb := B.bytes
  have hr := B.returns
  have hts := atoms_spec (ws := wsX0_setRank) B.pre
  have hown : s.vm.findClass RX0 = some m.cls := findClass_of_methodNamed B.named
  have hlocks := B.notSynchronized
  have hC := hP
  have hl := lv_entry ([.ref o, .int (nI n), .int (nI rk)]) (n := 5) (Nat.le_of_ble_eq_true rfl)
  rw [lg_entry_eq]
  generalize (lg_sl ([.ref o, .int (nI n), .int (nI rk)]) ++ List.replicate (5 - (lg_sl ([.ref o, .int (nI n), .int (nI rk)])).length) Slot.unset).toArray = ls at hl ⊢
  have hl : lv_has ls 5 [(0, .ref o), (1, .int (nI n)), (2, .int (nI rk))] := hl
  have hS : va_S (fun q => q = o ∨ q = r) s.heap s.heap [] := va_S.rf
  refine lv_aload_n hx hb dX0_setRank_0 rfl (lv_at hl 0 rfl) ?_
  refine lv_iload_n hx hb dX0_setRank_1 rfl (lv_at hl 1 rfl) ?_
  refine x_put (v := .int (nI n)) (ty := .int) (C := RX0) (T := TX0) (N := 2) hx hb hts (by decide +kernel) tyX0 tyX0_ok nmX0 hown hK hC.1 hS (Or.inl rfl) rfl 1 (by decide) (hts (.fieldLink RX0 15 "BellRanks$Change" "size" "I") (by decide +kernel)) (fun _ h9 => h9) rfl (by decide +kernel) rfl rfl (Nat.le_of_ble_eq_true rfl) dX0_setRank_2 (fun H1 locs1 hN hz oq hS => ?_)
  have hC : xCh D cI o r n f H1 := ⟨hN, hC.2.kept (oq _ (Ne.symm hor))⟩
  refine lv_iload_n hx hb dX0_setRank_5 rfl (lv_at hl 2 rfl) ?_
  refine lv_istore_n (lv' := [(3, .int (nI rk)), (0, .ref o), (1, .int (nI n)), (2, .int (nI rk))]) hx hb dX0_setRank_6 rfl hl (by decide) rfl (fun ls hl => ?_)
  refine xn_iconst (v := 1) hx hb dX0_setRank_7 (by decide) ?_
  refine lv_istore (lv' := [(4, .int (nI 1)), (3, .int (nI rk)), (0, .ref o), (1, .int (nI n)), (2, .int (nI rk))]) hx hb dX0_setRank_8 hl (by decide) rfl (fun ls hl => ?_)
  refine x_loopH (σ := Nat × Nat) (fun a => n + 1 - a.1) (fun a H locs cells slots ls => (1 ≤ a.1) ∧ (a.1 ≤ n + 1) ∧ (a.2 = srR rk (a.1 - 1)) ∧ (xCh D cI o r n (srG f n rk (a.1 - 1)) H) ∧ (va_S (fun q9 => q9 = o ∨ q9 = r) s.heap H locs) ∧ (cells = 0) ∧ (slots = 0) ∧ lv_has ls 5 [(0, .ref o), (1, .int (nI n)), (2, .int (nI rk)), (3, .int (nI a.2)), (4, .int (nI a.1))]) ?_ (1, rk) _ _ _ _ ls ⟨(Nat.le_refl _), (by dsimp only; omega), rfl, hC, hS, rfl, rfl, lv_sub hl [2, 3, 4, 1, 0] rfl⟩
  rintro ⟨w, q⟩ H locs cells slots ls ⟨h1, h2, hq, hC, hS, rfl, rfl, hl⟩ ih10
  dsimp only at h1 h2 hq hC hS hl
  obtain ⟨t, rfl⟩ : ∃ z, w = z + 1 := ⟨w - 1, by omega⟩
  rw [Nat.add_sub_cancel] at hC hq
  have hqb : q < 2 ^ 31 := by rw [hq]; exact Nat.lt_of_le_of_lt (srR_le rk t) hrk
  refine lv_iload hx hb dX0_setRank_10 (lv_at hl 4 rfl) ?_
  refine lv_iload_n hx hb dX0_setRank_12 rfl (lv_at hl 1 rfl) ?_
  refine xn_icmp_gt (tgt := 39) hx hb dX0_setRank_13 (by decide) (by omega) (by omega) (fun c13 => ?_) (fun c13 => ?_)
  · exact x_vret hx hb hr hlocks () trivial (by have e9 : t = n := (by omega); rw [← e9]; rw [← e9] at hC; exact hC) hS (fun _ h => h) dX0_setRank_39
  · refine lv_aload_n hx hb dX0_setRank_16 rfl (lv_at hl 0 rfl) ?_
    refine lv_iload_n hx hb dX0_setRank_17 rfl (lv_at hl 1 rfl) ?_
    refine lv_iload hx hb dX0_setRank_18 (lv_at hl 4 rfl) ?_
    refine xn_isub hx hb (by omega) dX0_setRank_20 ?_
    refine lv_iload_n hx hb dX0_setRank_21 rfl (lv_at hl 3 rfl) ?_
    refine lv_iload hx hb dX0_setRank_22 (lv_at hl 4 rfl) ?_
    refine xn_irem hx hb (by omega) (by omega) (by omega) dX0_setRank_24 ?_
    refine xmV (As := [.int (nI (n - (t + 1))), .int (nI (q % (t + 1)))]) (rest := []) ⟨hx, hb, hml, hown, hts⟩ (cX0_insertAhead_ l D cI cC o r n (srG f n rk t) hor hn (fun i => Nat.lt_trans (srG_bd hf (Nat.le_refl 8) t (by omega) i) (by omega)) (n - (t + 1)) (q % (t + 1)) (by omega) (Nat.lt_trans (Nat.mod_lt _ (by omega)) (by omega))) (cwV 2 hts gX0_setRank_X0_insertAhead rfl rfl rfl (by decide +kernel) ⟨Nat.le_of_ble_eq_true rfl, Nat.le_of_ble_eq_true rfl⟩) hK hC (xRecv hK rfl hC.1) rfl hl.1 rfl (Nat.le_of_ble_eq_true rfl) dX0_setRank_25 ⟨Nat.zero_le _, Nat.zero_le _⟩ hS (fun _ h => Or.inr h) (fun _ h => Or.inr h) (fun u25 H1 locs1 hp25 hF25 hz25 hk25 hS => ?_)
    have hC : xCh D cI o r n (insA (srG f n rk t) n (n - (t + 1)) (q % (t + 1))) H1 := hF25
    refine lv_iload_n hx hb dX0_setRank_28 rfl (lv_at hl 3 rfl) ?_
    refine lv_iload hx hb dX0_setRank_29 (lv_at hl 4 rfl) ?_
    refine xn_idiv hx hb (by omega) (by omega) (by omega) dX0_setRank_31 ?_
    refine lv_istore_n (lv' := [(3, .int (nI (q / (t + 1)))), (0, .ref o), (1, .int (nI n)), (2, .int (nI rk)), (4, .int (nI (t + 1)))]) hx hb dX0_setRank_32 rfl hl (by decide) rfl (fun ls hl => ?_)
    refine xn_iinc (v := t + 1 + 1) (lv' := [(4, .int (nI (t + 1 + 1))), (3, .int (nI (q / (t + 1)))), (0, .ref o), (1, .int (nI n)), (2, .int (nI rk))]) hx hb dX0_setRank_33 hl (k := 4) rfl (xinc1 _) (by decide) rfl (fun ls hl => ?_)
    refine lv_goto (tgt := 10) hx hb dX0_setRank_36 (by decide) ?_
    exact ih10 (t + 1 + 1, q / (t + 1)) _ _ _ _ ls ⟨(by dsimp only; omega), (by dsimp only; omega), (by dsimp only; rw [Nat.add_sub_cancel, hq]; rfl), (by dsimp only; rw [Nat.add_sub_cancel]; rw [hq] at hC; exact hC), hS, rfl, rfl, lv_sub hl [2, 3, 4, 1, 0] rfl⟩ (by dsimp only; omega)

set_option maxRecDepth 100000 in
set_option maxHeartbeats 4000000 in
theorem cX0_setCopy_ (l : Launch) (D : va_G) (cI cC : ClassId) (o r n0 : Nat) (f : Nat → Nat) (o2 r2 n : Nat) (f2 : Nat → Nat) (hor : o ≠ r) (h2o : o2 ≠ o) (h2r : o2 ≠ r) (g2o : r2 ≠ o) (g2r : r2 ≠ r) (hn : n ≤ 8) : Met l yX0_setCopy wsX0_setCopy (xRm 1 0 0) (va_Pc [.ref o, .ref o2] (xB D cI cC (fun H => xCh D cI o r n0 f H ∧ xCh D cI o2 r2 n f2 H))) (xV (fun _ : Unit => True) (fun _ => xCh D cI o r n (cpy f f2 n)) (fun q => q = o ∨ q = r)) 0 0 (fun q => q = o ∨ q = r) := by
  refine Met.ofW (cc := cX0_setCopy) (maxL := 3) (ret := none) (by decide) rfl ?_
  intro p e s m args below meth c s₁ B hml hv
  obtain ⟨rfl, hP, hK⟩ := hv
  have hx := B.exec
  have hb := B.bytes
  have hr := B.returns
  have hts := atoms_spec (ws := wsX0_setCopy) B.pre
  have hown : s.vm.findClass RX0 = some m.cls := findClass_of_methodNamed B.named
  have hlocks := B.notSynchronized
  obtain ⟨hC, hC2⟩ := hP
  have hl := lv_entry ([.ref o, .ref o2]) (n := 3) (Nat.le_of_ble_eq_true rfl)
  rw [lg_entry_eq]
  generalize (lg_sl ([.ref o, .ref o2]) ++ List.replicate (3 - (lg_sl ([.ref o, .ref o2])).length) Slot.unset).toArray = ls at hl ⊢
  have hl : lv_has ls 3 [(0, .ref o), (1, .ref o2)] := hl
  have hS : va_S (fun q => q = o ∨ q = r) s.heap s.heap [] := va_S.rf
  refine lv_aload_n hx hb dX0_setCopy_0 rfl (lv_at hl 0 rfl) ?_
  refine lv_aload_n hx hb dX0_setCopy_1 rfl (lv_at hl 1 rfl) ?_
  refine x_get (v := .int (nI n)) (C := RX0) (T := TX0) (N := 2) hx hb hts (by decide +kernel) hown hK hC2.1 rfl 1 (by decide) (hts (.fieldLink RX0 15 "BellRanks$Change" "size" "I") (by decide +kernel)) (fun _ h9 => h9) rfl dX0_setCopy_2 ?_
  refine x_put (v := .int (nI n)) (ty := .int) (C := RX0) (T := TX0) (N := 2) hx hb hts (by decide +kernel) tyX0 tyX0_ok nmX0 hown hK hC.1 hS (Or.inl rfl) rfl 1 (by decide) (hts (.fieldLink RX0 15 "BellRanks$Change" "size" "I") (by decide +kernel)) (fun _ h9 => h9) rfl (by decide +kernel) rfl rfl (Nat.le_of_ble_eq_true rfl) dX0_setCopy_5 (fun H1 locs1 hN hz oq hS => ?_)
  have hC : xCh D cI o r n f H1 := ⟨hN, hC.2.kept (oq _ (Ne.symm hor))⟩
  have hC2 : xCh D cI o2 r2 n f2 H1 := ⟨hC2.1.kept (oq _ h2o), hC2.2.kept (oq _ g2o)⟩
  refine xn_iconst (v := 0) hx hb dX0_setCopy_8 (by decide) ?_
  refine lv_istore_n (lv' := [(2, .int (nI 0)), (0, .ref o), (1, .ref o2)]) hx hb dX0_setCopy_9 rfl hl (by decide) rfl (fun ls hl => ?_)
  refine x_loopH (σ := Nat) (fun a => n - a) (fun a H locs cells slots ls => (a ≤ n) ∧ (xCh D cI o r n (cpy f f2 a) H) ∧ (xCh D cI o2 r2 n f2 H) ∧ (va_S (fun q9 => q9 = o ∨ q9 = r) s.heap H locs) ∧ (cells = 0) ∧ (slots = 0) ∧ lv_has ls 3 [(0, .ref o), (1, .ref o2), (2, .int (nI a))]) ?_ 0 _ _ _ _ ls ⟨(Nat.zero_le _), (by rw [cpy_0]; exact hC), hC2, hS, rfl, rfl, lv_sub hl [1, 2, 0] rfl⟩
  rintro i H locs cells slots ls ⟨h2, hC, hC2, hS, rfl, rfl, hl⟩ ih10
  
  refine lv_iload_n hx hb dX0_setCopy_10 rfl (lv_at hl 2 rfl) ?_
  refine lv_aload_n hx hb dX0_setCopy_11 rfl (lv_at hl 0 rfl) ?_
  refine x_get (v := .int (nI n)) (C := RX0) (T := TX0) (N := 2) hx hb hts (by decide +kernel) hown hK hC.1 rfl 1 (by decide) (hts (.fieldLink RX0 15 "BellRanks$Change" "size" "I") (by decide +kernel)) (fun _ h9 => h9) rfl dX0_setCopy_12 ?_
  refine xn_icmp_ge (tgt := 34) hx hb dX0_setCopy_15 (by decide) (by omega) (by omega) (fun c15 => ?_) (fun c15 => ?_)
  · exact x_vret hx hb hr hlocks () trivial (by have e9 : i = n := (by omega); rw [e9] at hC; exact hC) hS (fun _ h => h) dX0_setCopy_34
  · refine lv_aload_n hx hb dX0_setCopy_18 rfl (lv_at hl 0 rfl) ?_
    refine lv_iload_n hx hb dX0_setCopy_19 rfl (lv_at hl 2 rfl) ?_
    refine lv_aload_n hx hb dX0_setCopy_20 rfl (lv_at hl 1 rfl) ?_
    refine lv_iload_n hx hb dX0_setCopy_21 rfl (lv_at hl 2 rfl) ?_
    refine xcV (As := [.int (nI i)]) (rest := [.int (nI i), .ref o]) ⟨hx, hb, hml, hown, hts⟩ (cX0_bellAt_ l D cI cC o2 r2 n f2 i (by omega)) (cwV 1 hts gX0_setCopy_X0_bellAt rfl rfl rfl (by decide +kernel) ⟨Nat.le_of_ble_eq_true rfl, Nat.le_of_ble_eq_true rfl⟩) hK hC2 (xRecv hK rfl hC2.1) rfl hl.1 rfl (Nat.le_of_ble_eq_true rfl) dX0_setCopy_22 ⟨Nat.zero_le _, Nat.zero_le _⟩ (fun x22 e22 => ?_)
    subst e22
    refine xmV (As := [.int (nI i), .int (nI (f2 i))]) (rest := []) ⟨hx, hb, hml, hown, hts⟩ (cX0_put_ l D cI cC o r n (cpy f f2 i) hor i (f2 i) (by omega)) (cwV 2 hts gX0_setCopy_X0_put rfl rfl rfl (by decide +kernel) ⟨Nat.le_of_ble_eq_true rfl, Nat.le_of_ble_eq_true rfl⟩) hK hC (xRecv hK rfl hC.1) rfl hl.1 rfl (Nat.le_of_ble_eq_true rfl) dX0_setCopy_25 ⟨Nat.zero_le _, Nat.zero_le _⟩ hS (fun _ h => Or.inr h) (fun _ h => Or.inr h) (fun u25 H1 locs1 hp25 hF25 hz25 hk25 hS => ?_)
    have hC : xCh D cI o r n (va_up (cpy f f2 i) i (f2 i)) H1 := hF25
    have hC2 := xCh_keep hC2 hk25 h2r g2r
    refine xn_iinc (v := i + 1) (lv' := [(2, .int (nI (i + 1))), (0, .ref o), (1, .ref o2)]) hx hb dX0_setCopy_28 hl (k := 2) rfl (xinc1 _) (by decide) rfl (fun ls hl => ?_)
    refine lv_goto (tgt := 10) hx hb dX0_setCopy_31 (by decide) ?_
    exact ih10 (i + 1) _ _ _ _ ls ⟨(by omega), (by rw [← cpy_s]; exact hC), hC2, hS, rfl, rfl, lv_sub hl [1, 2, 0] rfl⟩ (by omega)

set_option maxRecDepth 100000 in
set_option maxHeartbeats 4000000 in
theorem cX0_setBack_ (l : Launch) (D : va_G) (cI cC : ClassId) (o r n0 : Nat) (f : Nat → Nat) (o2 r2 n : Nat) (f2 : Nat → Nat) (hor : o ≠ r) (h2o : o2 ≠ o) (h2r : o2 ≠ r) (g2o : r2 ≠ o) (g2r : r2 ≠ r) (hn : n ≤ 8) (hf2 : ∀ i, f2 i < 8) : Met l yX0_setBack wsX0_setBack (xRm 1 0 0) (va_Pc [.ref o, .ref o2] (xB D cI cC (fun H => xCh D cI o r n0 f H ∧ xCh D cI o2 r2 n f2 H))) (xV (fun _ : Unit => True) (fun _ => xCh D cI o r n (bck f f2 n)) (fun q => q = o ∨ q = r)) 0 0 (fun q => q = o ∨ q = r) := by
  refine Met.ofW (cc := cX0_setBack) (maxL := 3) (ret := none) (by decide) rfl ?_
  intro p e s m args below meth c s₁ B hml hv
  obtain ⟨rfl, hP, hK⟩ := hv
  have hx := B.exec
  have hb := B.bytes
  have hr := B.returns
  have hts := atoms_spec (ws := wsX0_setBack) B.pre
  have hown : s.vm.findClass RX0 = some m.cls := findClass_of_methodNamed B.named
  have hlocks := B.notSynchronized
  obtain ⟨hC, hC2⟩ := hP
  have hl := lv_entry ([.ref o, .ref o2]) (n := 3) (Nat.le_of_ble_eq_true rfl)
  rw [lg_entry_eq]
  generalize (lg_sl ([.ref o, .ref o2]) ++ List.replicate (3 - (lg_sl ([.ref o, .ref o2])).length) Slot.unset).toArray = ls at hl ⊢
  have hl : lv_has ls 3 [(0, .ref o), (1, .ref o2)] := hl
  have hS : va_S (fun q => q = o ∨ q = r) s.heap s.heap [] := va_S.rf
  refine lv_aload_n hx hb dX0_setBack_0 rfl (lv_at hl 0 rfl) ?_
  refine lv_aload_n hx hb dX0_setBack_1 rfl (lv_at hl 1 rfl) ?_
  refine x_get (v := .int (nI n)) (C := RX0) (T := TX0) (N := 2) hx hb hts (by decide +kernel) hown hK hC2.1 rfl 1 (by decide) (hts (.fieldLink RX0 15 "BellRanks$Change" "size" "I") (by decide +kernel)) (fun _ h9 => h9) rfl dX0_setBack_2 ?_
  refine x_put (v := .int (nI n)) (ty := .int) (C := RX0) (T := TX0) (N := 2) hx hb hts (by decide +kernel) tyX0 tyX0_ok nmX0 hown hK hC.1 hS (Or.inl rfl) rfl 1 (by decide) (hts (.fieldLink RX0 15 "BellRanks$Change" "size" "I") (by decide +kernel)) (fun _ h9 => h9) rfl (by decide +kernel) rfl rfl (Nat.le_of_ble_eq_true rfl) dX0_setBack_5 (fun H1 locs1 hN hz oq hS => ?_)
  have hC : xCh D cI o r n f H1 := ⟨hN, hC.2.kept (oq _ (Ne.symm hor))⟩
  have hC2 : xCh D cI o2 r2 n f2 H1 := ⟨hC2.1.kept (oq _ h2o), hC2.2.kept (oq _ g2o)⟩
  refine xn_iconst (v := 0) hx hb dX0_setBack_8 (by decide) ?_
  refine lv_istore_n (lv' := [(2, .int (nI 0)), (0, .ref o), (1, .ref o2)]) hx hb dX0_setBack_9 rfl hl (by decide) rfl (fun ls hl => ?_)
  refine x_loopH (σ := Nat) (fun a => n - a) (fun a H locs cells slots ls => (a ≤ n) ∧ (xCh D cI o r n (bck f f2 a) H) ∧ (xCh D cI o2 r2 n f2 H) ∧ (va_S (fun q9 => q9 = o ∨ q9 = r) s.heap H locs) ∧ (cells = 0) ∧ (slots = 0) ∧ lv_has ls 3 [(0, .ref o), (1, .ref o2), (2, .int (nI a))]) ?_ 0 _ _ _ _ ls ⟨(Nat.zero_le _), hC, hC2, hS, rfl, rfl, lv_sub hl [1, 2, 0] rfl⟩
  rintro i H locs cells slots ls ⟨h2, hC, hC2, hS, rfl, rfl, hl⟩ ih10
  
  refine lv_iload_n hx hb dX0_setBack_10 rfl (lv_at hl 2 rfl) ?_
  refine lv_aload_n hx hb dX0_setBack_11 rfl (lv_at hl 0 rfl) ?_
  refine x_get (v := .int (nI n)) (C := RX0) (T := TX0) (N := 2) hx hb hts (by decide +kernel) hown hK hC.1 rfl 1 (by decide) (hts (.fieldLink RX0 15 "BellRanks$Change" "size" "I") (by decide +kernel)) (fun _ h9 => h9) rfl dX0_setBack_12 ?_
  refine xn_icmp_ge (tgt := 34) hx hb dX0_setBack_15 (by decide) (by omega) (by omega) (fun c15 => ?_) (fun c15 => ?_)
  · exact x_vret hx hb hr hlocks () trivial (by have e9 : i = n := (by omega); rw [e9] at hC; exact hC) hS (fun _ h => h) dX0_setBack_34
  · refine lv_aload_n hx hb dX0_setBack_18 rfl (lv_at hl 0 rfl) ?_
    refine lv_aload_n hx hb dX0_setBack_19 rfl (lv_at hl 1 rfl) ?_
    refine lv_iload_n hx hb dX0_setBack_20 rfl (lv_at hl 2 rfl) ?_
    refine xcV (As := [.int (nI i)]) (rest := [.ref o]) ⟨hx, hb, hml, hown, hts⟩ (cX0_bellAt_ l D cI cC o2 r2 n f2 i (by omega)) (cwV 1 hts gX0_setBack_X0_bellAt rfl rfl rfl (by decide +kernel) ⟨Nat.le_of_ble_eq_true rfl, Nat.le_of_ble_eq_true rfl⟩) hK hC2 (xRecv hK rfl hC2.1) rfl hl.1 rfl (Nat.le_of_ble_eq_true rfl) dX0_setBack_21 ⟨Nat.zero_le _, Nat.zero_le _⟩ (fun x21 e21 => ?_)
    subst e21
    refine lv_iload_n hx hb dX0_setBack_24 rfl (lv_at hl 2 rfl) ?_
    refine xmV (As := [.int (nI (f2 i)), .int (nI i)]) (rest := []) ⟨hx, hb, hml, hown, hts⟩ (cX0_put_ l D cI cC o r n (bck f f2 i) hor (f2 i) i (hf2 _)) (cwV 2 hts gX0_setBack_X0_put rfl rfl rfl (by decide +kernel) ⟨Nat.le_of_ble_eq_true rfl, Nat.le_of_ble_eq_true rfl⟩) hK hC (xRecv hK rfl hC.1) rfl hl.1 rfl (Nat.le_of_ble_eq_true rfl) dX0_setBack_25 ⟨Nat.zero_le _, Nat.zero_le _⟩ hS (fun _ h => Or.inr h) (fun _ h => Or.inr h) (fun u25 H1 locs1 hp25 hF25 hz25 hk25 hS => ?_)
    have hC : xCh D cI o r n (va_up (bck f f2 i) (f2 i) i) H1 := hF25
    have hC2 := xCh_keep hC2 hk25 h2r g2r
    refine xn_iinc (v := i + 1) (lv' := [(2, .int (nI (i + 1))), (0, .ref o), (1, .ref o2)]) hx hb dX0_setBack_28 hl (k := 2) rfl (xinc1 _) (by decide) rfl (fun ls hl => ?_)
    refine lv_goto (tgt := 10) hx hb dX0_setBack_31 (by decide) ?_
    exact ih10 (i + 1) _ _ _ _ ls ⟨(by omega), hC, hC2, hS, rfl, rfl, lv_sub hl [1, 2, 0] rfl⟩ (by omega)

set_option maxRecDepth 100000 in
set_option maxHeartbeats 4000000 in
theorem cX0_setBehind_ (l : Launch) (D : va_G) (cI cC : ClassId) (o r n0 : Nat) (f : Nat → Nat) (o2 r2 n : Nat) (f2 : Nat → Nat) (o1 r1 n1 : Nat) (f1 : Nat → Nat) (hor : o ≠ r) (h2o : o2 ≠ o) (h2r : o2 ≠ r) (g2o : r2 ≠ o) (g2r : r2 ≠ r) (h1o : o1 ≠ o) (h1r : o1 ≠ r) (g1o : r1 ≠ o) (g1r : r1 ≠ r) (hn : n ≤ 8) (hf2 : ∀ i, f2 i < 8) : Met l yX0_setBehind wsX0_setBehind (xRm 1 0 0) (va_Pc [.ref o, .ref o1, .ref o2] (xB D cI cC (fun H => xCh D cI o r n0 f H ∧ xCh D cI o1 r1 n1 f1 H ∧ xCh D cI o2 r2 n f2 H))) (xV (fun _ : Unit => True) (fun _ => xCh D cI o r n (cpy f (fun q9 => f1 (f2 q9)) n)) (fun q => q = o ∨ q = r)) 0 0 (fun q => q = o ∨ q = r) := by
  refine Met.ofW (cc := cX0_setBehind) (maxL := 4) (ret := none) (by decide) rfl ?_
  intro p e s m args below meth c s₁ B hml hv
  obtain ⟨rfl, hP, hK⟩ := hv
  have hx := B.exec
  have hb := B.bytes
  have hr := B.returns
  have hts := atoms_spec (ws := wsX0_setBehind) B.pre
  have hown : s.vm.findClass RX0 = some m.cls := findClass_of_methodNamed B.named
  have hlocks := B.notSynchronized
  obtain ⟨hC, hC1, hC2⟩ := hP
  have hl := lv_entry ([.ref o, .ref o1, .ref o2]) (n := 4) (Nat.le_of_ble_eq_true rfl)
  rw [lg_entry_eq]
  generalize (lg_sl ([.ref o, .ref o1, .ref o2]) ++ List.replicate (4 - (lg_sl ([.ref o, .ref o1, .ref o2])).length) Slot.unset).toArray = ls at hl ⊢
  have hl : lv_has ls 4 [(0, .ref o), (1, .ref o1), (2, .ref o2)] := hl
  have hS : va_S (fun q => q = o ∨ q = r) s.heap s.heap [] := va_S.rf
  refine lv_aload_n hx hb dX0_setBehind_0 rfl (lv_at hl 0 rfl) ?_
  refine lv_aload_n hx hb dX0_setBehind_1 rfl (lv_at hl 2 rfl) ?_
  refine x_get (v := .int (nI n)) (C := RX0) (T := TX0) (N := 2) hx hb hts (by decide +kernel) hown hK hC2.1 rfl 1 (by decide) (hts (.fieldLink RX0 15 "BellRanks$Change" "size" "I") (by decide +kernel)) (fun _ h9 => h9) rfl dX0_setBehind_2 ?_
  refine x_put (v := .int (nI n)) (ty := .int) (C := RX0) (T := TX0) (N := 2) hx hb hts (by decide +kernel) tyX0 tyX0_ok nmX0 hown hK hC.1 hS (Or.inl rfl) rfl 1 (by decide) (hts (.fieldLink RX0 15 "BellRanks$Change" "size" "I") (by decide +kernel)) (fun _ h9 => h9) rfl (by decide +kernel) rfl rfl (Nat.le_of_ble_eq_true rfl) dX0_setBehind_5 (fun H1 locs1 hN hz oq hS => ?_)
  have hC : xCh D cI o r n f H1 := ⟨hN, hC.2.kept (oq _ (Ne.symm hor))⟩
  have hC2 : xCh D cI o2 r2 n f2 H1 := ⟨hC2.1.kept (oq _ h2o), hC2.2.kept (oq _ g2o)⟩
  have hC1 : xCh D cI o1 r1 n1 f1 H1 := ⟨hC1.1.kept (oq _ h1o), hC1.2.kept (oq _ g1o)⟩
  refine xn_iconst (v := 0) hx hb dX0_setBehind_8 (by decide) ?_
  refine lv_istore_n (lv' := [(3, .int (nI 0)), (0, .ref o), (1, .ref o1), (2, .ref o2)]) hx hb dX0_setBehind_9 rfl hl (by decide) rfl (fun ls hl => ?_)
  refine x_loopH (σ := Nat) (fun a => n - a) (fun a H locs cells slots ls => (a ≤ n) ∧ (xCh D cI o r n (cpy f (fun q9 => f1 (f2 q9)) a) H) ∧ (xCh D cI o2 r2 n f2 H) ∧ (xCh D cI o1 r1 n1 f1 H) ∧ (va_S (fun q9 => q9 = o ∨ q9 = r) s.heap H locs) ∧ (cells = 0) ∧ (slots = 0) ∧ lv_has ls 4 [(0, .ref o), (1, .ref o1), (2, .ref o2), (3, .int (nI a))]) ?_ 0 _ _ _ _ ls ⟨(Nat.zero_le _), (by rw [cpy_0]; exact hC), hC2, hC1, hS, rfl, rfl, lv_sub hl [1, 2, 3, 0] rfl⟩
  rintro i H locs cells slots ls ⟨h2, hC, hC2, hC1, hS, rfl, rfl, hl⟩ ih10
  
  refine lv_iload_n hx hb dX0_setBehind_10 rfl (lv_at hl 3 rfl) ?_
  refine lv_aload_n hx hb dX0_setBehind_11 rfl (lv_at hl 0 rfl) ?_
  refine x_get (v := .int (nI n)) (C := RX0) (T := TX0) (N := 2) hx hb hts (by decide +kernel) hown hK hC.1 rfl 1 (by decide) (hts (.fieldLink RX0 15 "BellRanks$Change" "size" "I") (by decide +kernel)) (fun _ h9 => h9) rfl dX0_setBehind_12 ?_
  refine xn_icmp_ge (tgt := 38) hx hb dX0_setBehind_15 (by decide) (by omega) (by omega) (fun c15 => ?_) (fun c15 => ?_)
  · exact x_vret hx hb hr hlocks () trivial (by have e9 : i = n := (by omega); rw [e9] at hC; exact hC) hS (fun _ h => h) dX0_setBehind_38
  · refine lv_aload_n hx hb dX0_setBehind_18 rfl (lv_at hl 0 rfl) ?_
    refine lv_iload_n hx hb dX0_setBehind_19 rfl (lv_at hl 3 rfl) ?_
    refine lv_aload_n hx hb dX0_setBehind_20 rfl (lv_at hl 1 rfl) ?_
    refine lv_aload_n hx hb dX0_setBehind_21 rfl (lv_at hl 2 rfl) ?_
    refine lv_iload_n hx hb dX0_setBehind_22 rfl (lv_at hl 3 rfl) ?_
    refine xcV (As := [.int (nI i)]) (rest := [.ref o1, .int (nI i), .ref o]) ⟨hx, hb, hml, hown, hts⟩ (cX0_bellAt_ l D cI cC o2 r2 n f2 i (by omega)) (cwV 1 hts gX0_setBehind_X0_bellAt rfl rfl rfl (by decide +kernel) ⟨Nat.le_of_ble_eq_true rfl, Nat.le_of_ble_eq_true rfl⟩) hK hC2 (xRecv hK rfl hC2.1) rfl hl.1 rfl (Nat.le_of_ble_eq_true rfl) dX0_setBehind_23 ⟨Nat.zero_le _, Nat.zero_le _⟩ (fun x23 e23 => ?_)
    subst e23
    refine xcV (As := [.int (nI (f2 i))]) (rest := [.int (nI i), .ref o]) ⟨hx, hb, hml, hown, hts⟩ (cX0_bellAt_ l D cI cC o1 r1 n1 f1 (f2 i) (hf2 _)) (cwV 1 hts gX0_setBehind_X0_bellAt rfl rfl rfl (by decide +kernel) ⟨Nat.le_of_ble_eq_true rfl, Nat.le_of_ble_eq_true rfl⟩) hK hC1 (xRecv hK rfl hC1.1) rfl hl.1 rfl (Nat.le_of_ble_eq_true rfl) dX0_setBehind_26 ⟨Nat.zero_le _, Nat.zero_le _⟩ (fun x26 e26 => ?_)
    subst e26
    refine xmV (As := [.int (nI i), .int (nI (f1 (f2 i)))]) (rest := []) ⟨hx, hb, hml, hown, hts⟩ (cX0_put_ l D cI cC o r n (cpy f (fun q9 => f1 (f2 q9)) i) hor i (f1 (f2 i)) (by omega)) (cwV 2 hts gX0_setBehind_X0_put rfl rfl rfl (by decide +kernel) ⟨Nat.le_of_ble_eq_true rfl, Nat.le_of_ble_eq_true rfl⟩) hK hC (xRecv hK rfl hC.1) rfl hl.1 rfl (Nat.le_of_ble_eq_true rfl) dX0_setBehind_29 ⟨Nat.zero_le _, Nat.zero_le _⟩ hS (fun _ h => Or.inr h) (fun _ h => Or.inr h) (fun u29 H1 locs1 hp29 hF29 hz29 hk29 hS => ?_)
    have hC : xCh D cI o r n (va_up (cpy f (fun q9 => f1 (f2 q9)) i) i (f1 (f2 i))) H1 := hF29
    have hC2 := xCh_keep hC2 hk29 h2r g2r
    have hC1 := xCh_keep hC1 hk29 h1r g1r
    refine xn_iinc (v := i + 1) (lv' := [(3, .int (nI (i + 1))), (0, .ref o), (1, .ref o1), (2, .ref o2)]) hx hb dX0_setBehind_32 hl (k := 3) rfl (xinc1 _) (by decide) rfl (fun ls hl => ?_)
    refine lv_goto (tgt := 10) hx hb dX0_setBehind_35 (by decide) ?_
    exact ih10 (i + 1) _ _ _ _ ls ⟨(by omega), (by rw [← cpy_s]; exact hC), hC2, hC1, hS, rfl, rfl, lv_sub hl [1, 2, 3, 0] rfl⟩ (by omega)

set_option maxRecDepth 100000 in
set_option maxHeartbeats 4000000 in
theorem cX0_exchange_ (l : Launch) (D : va_G) (cI cC : ClassId) (o r n : Nat) (f : Nat → Nat) (hor : o ≠ r) (j : Nat) (hj : j + 1 < 8) : Met l yX0_exchange wsX0_exchange (xRm 1 0 0) (va_Pc [.ref o, .int (nI j)] (xB D cI cC (xCh D cI o r n f))) (xV (fun _ : Unit => True) (fun _ => xCh D cI o r n (xch f j)) (fun q => q = r)) 0 0 (fun q => q = r) := by
  refine Met.ofW (cc := cX0_exchange) (maxL := 3) (ret := none) (by decide) rfl ?_
  intro p e s m args below meth c s₁ B hml hv
  obtain ⟨rfl, hP, hK⟩ := hv
  have hx := B.exec
  have hb := B.bytes
  have hr := B.returns
  have hts := atoms_spec (ws := wsX0_exchange) B.pre
  have hown : s.vm.findClass RX0 = some m.cls := findClass_of_methodNamed B.named
  have hlocks := B.notSynchronized
  have hC := hP
  have hl := lv_entry ([.ref o, .int (nI j)]) (n := 3) (Nat.le_of_ble_eq_true rfl)
  rw [lg_entry_eq]
  generalize (lg_sl ([.ref o, .int (nI j)]) ++ List.replicate (3 - (lg_sl ([.ref o, .int (nI j)])).length) Slot.unset).toArray = ls at hl ⊢
  have hl : lv_has ls 3 [(0, .ref o), (1, .int (nI j))] := hl
  have hS : va_S (fun q => q = r) s.heap s.heap [] := va_S.rf
  refine lv_aload_n hx hb dX0_exchange_0 rfl (lv_at hl 0 rfl) ?_
  refine lv_iload_n hx hb dX0_exchange_1 rfl (lv_at hl 1 rfl) ?_
  refine xcV (As := [.int (nI j)]) (rest := []) ⟨hx, hb, hml, hown, hts⟩ (cX0_bellAt_ l D cI cC o r n f j (by omega)) (cwV 1 hts gX0_exchange_X0_bellAt rfl rfl rfl (by decide +kernel) ⟨Nat.le_of_ble_eq_true rfl, Nat.le_of_ble_eq_true rfl⟩) hK hC (xRecv hK rfl hC.1) rfl hl.1 rfl (Nat.le_of_ble_eq_true rfl) dX0_exchange_2 ⟨Nat.zero_le _, Nat.zero_le _⟩ (fun x2 e2 => ?_)
  subst e2
  refine lv_istore_n (lv' := [(2, .int (nI (f j))), (0, .ref o), (1, .int (nI j))]) hx hb dX0_exchange_5 rfl hl (by decide) rfl (fun ls hl => ?_)
  refine lv_aload_n hx hb dX0_exchange_6 rfl (lv_at hl 1 rfl) ?_
  refine lv_iload_n hx hb dX0_exchange_7 rfl (lv_at hl 2 rfl) ?_
  refine lv_aload_n hx hb dX0_exchange_8 rfl (lv_at hl 1 rfl) ?_
  refine lv_iload_n hx hb dX0_exchange_9 rfl (lv_at hl 2 rfl) ?_
  refine xn_iconst (v := 1) hx hb dX0_exchange_10 (by decide) ?_
  refine xn_iadd hx hb dX0_exchange_11 ?_
  refine xcV (As := [.int (nI (j + 1))]) (rest := [.int (nI j), .ref o]) ⟨hx, hb, hml, hown, hts⟩ (cX0_bellAt_ l D cI cC o r n f (j + 1) (by omega)) (cwV 1 hts gX0_exchange_X0_bellAt rfl rfl rfl (by decide +kernel) ⟨Nat.le_of_ble_eq_true rfl, Nat.le_of_ble_eq_true rfl⟩) hK hC (xRecv hK rfl hC.1) rfl hl.1 rfl (Nat.le_of_ble_eq_true rfl) dX0_exchange_12 ⟨Nat.zero_le _, Nat.zero_le _⟩ (fun x12 e12 => ?_)
  subst e12
  refine xmV (As := [.int (nI j), .int (nI (f (j + 1)))]) (rest := []) ⟨hx, hb, hml, hown, hts⟩ (cX0_put_ l D cI cC o r n f hor j (f (j + 1)) (by omega)) (cwV 2 hts gX0_exchange_X0_put rfl rfl rfl (by decide +kernel) ⟨Nat.le_of_ble_eq_true rfl, Nat.le_of_ble_eq_true rfl⟩) hK hC (xRecv hK rfl hC.1) rfl hl.1 rfl (Nat.le_of_ble_eq_true rfl) dX0_exchange_15 ⟨Nat.zero_le _, Nat.zero_le _⟩ hS (fun _ h => h) (fun _ h => h) (fun u15 H1 locs1 hp15 hF15 hz15 hk15 hS => ?_)
  have hC : xCh D cI o r n (va_up f j (f (j + 1))) H1 := hF15
  refine lv_aload_n hx hb dX0_exchange_18 rfl (lv_at hl 1 rfl) ?_
  refine lv_iload_n hx hb dX0_exchange_19 rfl (lv_at hl 2 rfl) ?_
  refine xn_iconst (v := 1) hx hb dX0_exchange_20 (by decide) ?_
  refine xn_iadd hx hb dX0_exchange_21 ?_
  refine lv_iload_n hx hb dX0_exchange_22 rfl (lv_at hl 0 rfl) ?_
  refine xmV (As := [.int (nI (j + 1)), .int (nI (f j))]) (rest := []) ⟨hx, hb, hml, hown, hts⟩ (cX0_put_ l D cI cC o r n (va_up f j (f (j + 1))) hor (j + 1) (f j) (by omega)) (cwV 2 hts gX0_exchange_X0_put rfl rfl rfl (by decide +kernel) ⟨Nat.le_of_ble_eq_true rfl, Nat.le_of_ble_eq_true rfl⟩) hK hC (xRecv hK rfl hC.1) rfl hl.1 rfl (Nat.le_of_ble_eq_true rfl) dX0_exchange_23 ⟨Nat.zero_le _, Nat.zero_le _⟩ hS (fun _ h => h) (fun _ h => h) (fun u23 H1 locs1 hp23 hF23 hz23 hk23 hS => ?_)
  have hC : xCh D cI o r n (va_up (va_up f j (f (j + 1))) (j + 1) (f j)) H1 := hF23
  exact x_vret hx hb hr hlocks () trivial hC hS (fun _ h => h) dX0_exchange_26

set_option maxRecDepth 100000 in
set_option maxHeartbeats 4000000 in
theorem cX1_keeps_ (l : Launch) (D : va_G) (cI cC : ClassId) (k i : Nat) (hk : k < 2 ^ 31) (hi : i < 32) : Met l yX1_keeps wsX1_keeps (xRm 0 0 0) (va_Pc [.int (nI k), .int (nI i)] (xB D cI cC (fun _ => True))) (vp_Si (fun x => x = nI (bitN k i))) 0 0 (fun _ => False) := by
  refine Met.ofW (cc := cX1_keeps) (maxL := 2) (ret := (some .boolean)) (by decide) rfl ?_
  intro p e s m args below meth c s₁ B hml hv
  obtain ⟨rfl, hP, hK⟩ := hv
  have hx := B.exec
  have hb := B.bytes
  have hr := B.returns
  have hts := atoms_spec (ws := wsX1_keeps) B.pre
  have hown : s.vm.findClass RX1 = some m.cls := findClass_of_methodNamed B.named
  have hlocks := B.notSynchronized
  have hl := lv_entry ([.int (nI k), .int (nI i)]) (n := 2) (Nat.le_of_ble_eq_true rfl)
  rw [lg_entry_eq]
  generalize (lg_sl ([.int (nI k), .int (nI i)]) ++ List.replicate (2 - (lg_sl ([.int (nI k), .int (nI i)])).length) Slot.unset).toArray = ls at hl ⊢
  have hl : lv_has ls 2 [(0, .int (nI k)), (1, .int (nI i))] := hl
  refine lv_iload_n hx hb dX1_keeps_0 rfl (lv_at hl 0 rfl) ?_
  refine lv_iload_n hx hb dX1_keeps_1 rfl (lv_at hl 1 rfl) ?_
  refine lv_ishr hx hb dX1_keeps_2 ?_
  refine xz_i (xshr hk hi) ?_
  refine xn_iconst (v := 1) hx hb dX1_keeps_3 (by decide) ?_
  refine lv_iand hx hb dX1_keeps_4 ?_
  refine xz_i (xand1 (Nat.lt_of_le_of_lt (Nat.div_le_self _ _) hk)) ?_
  refine xn_iconst (v := 1) hx hb dX1_keeps_5 (by decide) ?_
  refine xn_icmp_ne (tgt := 13) hx hb dX1_keeps_6 (by decide) (Nat.lt_trans (bitN_lt k i) (by decide)) (by decide) (fun c6 => ?_) (fun c6 => ?_)
  · refine xn_iconst (v := 0) hx hb dX1_keeps_13 (by decide) ?_
    exact x_zret hx hb hr hlocks rfl (by decide) (congrArg nI (by have h1 := bitN_lt k i; have h2 : bitN k i ≠ 1 := c6; omega)) dX1_keeps_14
  · refine xn_iconst (v := 1) hx hb dX1_keeps_9 (by decide) ?_
    refine lv_goto (tgt := 14) hx hb dX1_keeps_10 (by decide) ?_
    exact x_zret hx hb hr hlocks rfl (by decide) (congrArg nI (Eq.symm c6)) dX1_keeps_14

set_option maxRecDepth 100000 in
set_option maxHeartbeats 4000000 in
theorem cX0_ringStep_ (l : Launch) (D : va_G) (cI cC : ClassId) (o r n : Nat) (f : Nat → Nat) (hor : o ≠ r) (hn : n ≤ 8) (k : Nat) (hk : k < 2 ^ 31) : Met l yX0_ringStep wsX0_ringStep (xRm 2 0 0) (va_Pc [.ref o, .int (nI k)] (xB D cI cC (xCh D cI o r n f))) (xV (fun _ : Unit => True) (fun _ => xCh D cI o r n (rst k n n 0 f)) (fun q => q = r)) 0 0 (fun q => q = r) := by
  refine Met.ofW (cc := cX0_ringStep) (maxL := 3) (ret := none) (by decide) rfl ?_
  intro p e s m args below meth c s₁ B hml hv
  obtain ⟨rfl, hP, hK⟩ := hv
  have hx := B.exec
  have hb := B.bytes
  have hr := B.returns
  have hts := atoms_spec (ws := wsX0_ringStep) B.pre
  have hown : s.vm.findClass RX0 = some m.cls := findClass_of_methodNamed B.named
  have hlocks := B.notSynchronized
  have hC := hP
  have hl := lv_entry ([.ref o, .int (nI k)]) (n := 3) (Nat.le_of_ble_eq_true rfl)
  rw [lg_entry_eq]
  generalize (lg_sl ([.ref o, .int (nI k)]) ++ List.replicate (3 - (lg_sl ([.ref o, .int (nI k)])).length) Slot.unset).toArray = ls at hl ⊢
  have hl : lv_has ls 3 [(0, .ref o), (1, .int (nI k))] := hl
  have hS : va_S (fun q => q = r) s.heap s.heap [] := va_S.rf
  refine xn_iconst (v := 0) hx hb dX0_ringStep_0 (by decide) ?_
  refine lv_istore_n (lv' := [(2, .int (nI 0)), (0, .ref o), (1, .int (nI k))]) hx hb dX0_ringStep_1 rfl hl (by decide) rfl (fun ls hl => ?_)
  refine x_loopH (σ := Nat × Nat × (Nat → Nat)) (fun a => n - a.1) (fun a H locs cells slots ls => (n ≤ a.1 + a.2.1) ∧ (a.1 ≤ n + 1) ∧ (rst k n a.2.1 a.1 a.2.2 = rst k n n 0 f) ∧ (xCh D cI o r n a.2.2 H) ∧ (va_S (fun q9 => q9 = r) s.heap H locs) ∧ (cells = 0) ∧ (slots = 0) ∧ lv_has ls 3 [(0, .ref o), (1, .int (nI k)), (2, .int (nI a.1))]) ?_ (0, n, f) _ _ _ _ ls ⟨(by dsimp only; omega), (Nat.zero_le _), rfl, hC, hS, rfl, rfl, lv_sub hl [1, 2, 0] rfl⟩
  rintro ⟨i, u, g⟩ H locs cells slots ls ⟨hu, h2, ht, hC, hS, rfl, rfl, hl⟩ ih2
  dsimp only at hu h2 ht hC hS hl
  refine lv_iload_n hx hb dX0_ringStep_2 rfl (lv_at hl 2 rfl) ?_
  refine xn_iconst (v := 1) hx hb dX0_ringStep_3 (by decide) ?_
  refine xn_iadd hx hb dX0_ringStep_4 ?_
  refine lv_aload_n hx hb dX0_ringStep_5 rfl (lv_at hl 0 rfl) ?_
  refine x_get (v := .int (nI n)) (C := RX0) (T := TX0) (N := 2) hx hb hts (by decide +kernel) hown hK hC.1 rfl 1 (by decide) (hts (.fieldLink RX0 15 "BellRanks$Change" "size" "I") (by decide +kernel)) (fun _ h9 => h9) rfl dX0_ringStep_6 ?_
  refine xn_icmp_ge (tgt := 37) hx hb dX0_ringStep_9 (by decide) (by omega) (by omega) (fun c9 => ?_) (fun c9 => ?_)
  · exact x_vret hx hb hr hlocks () trivial (by rw [← ht, rst_end c9]; exact hC) hS (fun _ h => h) dX0_ringStep_37
  · obtain ⟨u, rfl⟩ : ∃ z, u = z + 1 := ⟨u - 1, by omega⟩
    refine lv_iload_n hx hb dX0_ringStep_12 rfl (lv_at hl 1 rfl) ?_
    refine lv_iload_n hx hb dX0_ringStep_13 rfl (lv_at hl 2 rfl) ?_
    refine xcS (As := [.int (nI k), .int (nI i)]) (rest := []) ⟨hx, hb, hml, hown, hts⟩ (cX1_keeps_ l D cI cC k i hk (by omega)) (va_cwS 2 hts gX0_ringStep_X1_keeps rfl rfl rfl (by decide +kernel) ⟨Nat.le_of_ble_eq_true rfl, Nat.le_of_ble_eq_true rfl⟩) hK trivial rfl hl.1 rfl (Nat.le_of_ble_eq_true rfl) dX0_ringStep_14 ⟨Nat.zero_le _, Nat.zero_le _⟩ (fun x14 e14 => ?_)
    subst e14
    refine xn_if_eq (tgt := 26) hx hb dX0_ringStep_17 (by decide) (Nat.lt_trans (bitN_lt k i) (by decide)) (fun c17 => ?_) (fun c17 => ?_)
    · refine lv_aload_n hx hb dX0_ringStep_26 rfl (lv_at hl 0 rfl) ?_
      refine lv_iload_n hx hb dX0_ringStep_27 rfl (lv_at hl 2 rfl) ?_
      refine xmV (As := [.int (nI i)]) (rest := []) ⟨hx, hb, hml, hown, hts⟩ (cX0_exchange_ l D cI cC o r n g hor i (by omega)) (cwV 1 hts gX0_ringStep_X0_exchange rfl rfl rfl (by decide +kernel) ⟨Nat.le_of_ble_eq_true rfl, Nat.le_of_ble_eq_true rfl⟩) hK hC (xRecv hK rfl hC.1) rfl hl.1 rfl (Nat.le_of_ble_eq_true rfl) dX0_ringStep_28 ⟨Nat.zero_le _, Nat.zero_le _⟩ hS (fun _ h => h) (fun _ h => h) (fun u28 H1 locs1 hp28 hF28 hz28 hk28 hS => ?_)
      have hC : xCh D cI o r n (xch g i) H1 := hF28
      refine xn_iinc (v := i + 2) (lv' := [(2, .int (nI (i + 2))), (0, .ref o), (1, .int (nI k))]) hx hb dX0_ringStep_31 hl (k := 2) rfl (xinc2 _) (by decide) rfl (fun ls hl => ?_)
      refine lv_goto (tgt := 2) hx hb dX0_ringStep_34 (by decide) ?_
      exact ih2 (i + 2, u, (xch g i)) _ _ _ _ ls ⟨(by dsimp only; omega), (by dsimp only; omega), (by rw [← rst_x c9 c17]; exact ht), hC, hS, rfl, rfl, lv_sub hl [1, 2, 0] rfl⟩ (by dsimp only; omega)
    · refine xn_iinc (v := i + 1) (lv' := [(2, .int (nI (i + 1))), (0, .ref o), (1, .int (nI k))]) hx hb dX0_ringStep_20 hl (k := 2) rfl (xinc1 _) (by decide) rfl (fun ls hl => ?_)
      refine lv_goto (tgt := 2) hx hb dX0_ringStep_23 (by decide) ?_
      exact ih2 (i + 1, u, g) _ _ _ _ ls ⟨(by dsimp only; omega), (by dsimp only; omega), (by rw [← rst_k c9 (by have := bitN_lt k i; omega)]; exact ht), hC, hS, rfl, rfl, lv_sub hl [1, 2, 0] rfl⟩ (by dsimp only; omega)
end
section
/-! Method and RankSet -/
def xMe (D : va_G) (cI : ClassId) (o r n : Nat) (f : Nat → Nat) (H : Heap) : Prop := va_at D vwCl (o, .inr (1, [.ref r, .int (nI n)])) H ∧ va_at D vwCl (r, .inl (cI, 10, .inl (xA f))) H
def xRs (D : va_G) (cI : ClassId) (o r n : Nat) (f : Nat → Nat) (H : Heap) : Prop := va_at D vwCl (o, .inr (2, [.ref r, .int (nI n)])) H ∧ va_at D vwCl (r, .inl (cI, 201, .inl (xA f))) H
theorem stp_end {k n u i : Nat} (h : n ≤ i) : stp k n u i = 1 := by
  cases u with
  | zero => rfl
  | succ u => show (if i < n then _ else _) = 1; rw [if_neg (by omega)]
theorem stp_k {k n u i : Nat} (h : i < n) (hb : bitN k i = 1) : stp k n (u + 1) i = stp k n u (i + 1) := by
  show (if i < n then (if bitN k i = 1 then _ else _) else _) = _
  rw [if_pos h, if_pos hb]
theorem stp_x {k n u i : Nat} (h : i < n) (hb : bitN k i = 0) (h1 : i + 1 < n) (hb1 : bitN k (i + 1) = 0) : stp k n (u + 1) i = stp k n u (i + 2) := by
  show (if i < n then (if bitN k i = 1 then _ else (if i + 1 < n ∧ bitN k (i + 1) = 0 then _ else _)) else _) = _
  rw [if_pos h, if_neg (by omega), if_pos ⟨h1, hb1⟩]
theorem stp_0 {k n u i : Nat} (h : i < n) (hb : bitN k i = 0) (h1 : ¬ (i + 1 < n ∧ bitN k (i + 1) = 0)) : stp k n (u + 1) i = 0 := by
  show (if i < n then (if bitN k i = 1 then _ else (if i + 1 < n ∧ bitN k (i + 1) = 0 then _ else _)) else _) = _
  rw [if_pos h, if_neg (by omega), if_neg h1]
set_option maxRecDepth 100000 in
set_option maxHeartbeats 4000000 in
theorem cX1_length_ (l : Launch) (D : va_G) (cI cC : ClassId) (o r ns : Nat) (f : Nat → Nat) : Met l yX1_length wsX1_length (xRm 0 0 0) (va_Pc [.ref o] (xB D cI cC (xMe D cI o r ns f))) (vp_Si (fun x => x = nI ns)) 0 0 (fun _ => False) := by
  refine Met.ofW (cc := cX1_length) (maxL := 1) (ret := (some .int)) (by decide) rfl ?_
  intro p e s m args below meth c s₁ B hml hv
  obtain ⟨rfl, hP, hK⟩ := hv
  have hx := B.exec
  have hb := B.bytes
  have hr := B.returns
  have hts := atoms_spec (ws := wsX1_length) B.pre
  have hown : s.vm.findClass RX1 = some m.cls := findClass_of_methodNamed B.named
  have hlocks := B.notSynchronized
  have hC := hP
  have hl := lv_entry ([.ref o]) (n := 1) (Nat.le_of_ble_eq_true rfl)
  rw [lg_entry_eq]
  generalize (lg_sl ([.ref o]) ++ List.replicate (1 - (lg_sl ([.ref o])).length) Slot.unset).toArray = ls at hl ⊢
  have hl : lv_has ls 1 [(0, .ref o)] := hl
  refine lv_aload_n hx hb dX1_length_0 rfl (lv_at hl 0 rfl) ?_
  refine x_get (v := .int (nI ns)) (C := RX1) (T := TX1) (N := 2) hx hb hts (by decide +kernel) hown hK hC.1 rfl 1 (by decide) (hts (.fieldLink RX1 15 "BellRanks$Method" "length" "I") (by decide +kernel)) (fun _ h9 => h9) rfl dX1_length_1 ?_
  exact x_iret hx hb hr hlocks rfl rfl dX1_length_4

set_option maxRecDepth 100000 in
set_option maxHeartbeats 4000000 in
theorem cX2_size_ (l : Launch) (D : va_G) (cI cC : ClassId) (o r z : Nat) (f : Nat → Nat) : Met l yX2_size wsX2_size (xRm 0 0 0) (va_Pc [.ref o] (xB D cI cC (xRs D cI o r z f))) (vp_Si (fun x => x = nI z)) 0 0 (fun _ => False) := by
  refine Met.ofW (cc := cX2_size) (maxL := 1) (ret := (some .int)) (by decide) rfl ?_
  intro p e s m args below meth c s₁ B hml hv
  obtain ⟨rfl, hP, hK⟩ := hv
  have hx := B.exec
  have hb := B.bytes
  have hr := B.returns
  have hts := atoms_spec (ws := wsX2_size) B.pre
  have hown : s.vm.findClass RX2 = some m.cls := findClass_of_methodNamed B.named
  have hlocks := B.notSynchronized
  have hC := hP
  have hl := lv_entry ([.ref o]) (n := 1) (Nat.le_of_ble_eq_true rfl)
  rw [lg_entry_eq]
  generalize (lg_sl ([.ref o]) ++ List.replicate (1 - (lg_sl ([.ref o])).length) Slot.unset).toArray = ls at hl ⊢
  have hl : lv_has ls 1 [(0, .ref o)] := hl
  refine lv_aload_n hx hb dX2_size_0 rfl (lv_at hl 0 rfl) ?_
  refine x_get (v := .int (nI z)) (C := RX2) (T := TX2) (N := 2) hx hb hts (by decide +kernel) hown hK hC.1 rfl 1 (by decide) (hts (.fieldLink RX2 15 "BellRanks$RankSet" "size" "I") (by decide +kernel)) (fun _ h9 => h9) rfl dX2_size_1 ?_
  exact x_iret hx hb hr hlocks rfl rfl dX2_size_4

set_option maxRecDepth 100000 in
set_option maxHeartbeats 4000000 in
theorem cX1_keptAt_ (l : Launch) (D : va_G) (cI cC : ClassId) (o r ns : Nat) (f : Nat → Nat) (j : Nat) (hj : j < 10) : Met l yX1_keptAt wsX1_keptAt (xRm 0 0 0) (va_Pc [.ref o, .int (nI j)] (xB D cI cC (xMe D cI o r ns f))) (vp_Si (fun x => x = nI (f j))) 0 0 (fun _ => False) := by
  refine Met.ofW (cc := cX1_keptAt) (maxL := 2) (ret := (some .int)) (by decide) rfl ?_
  intro p e s m args below meth c s₁ B hml hv
  obtain ⟨rfl, hP, hK⟩ := hv
  have hx := B.exec
  have hb := B.bytes
  have hr := B.returns
  have hts := atoms_spec (ws := wsX1_keptAt) B.pre
  have hown : s.vm.findClass RX1 = some m.cls := findClass_of_methodNamed B.named
  have hlocks := B.notSynchronized
  have hC := hP
  have hl := lv_entry ([.ref o, .int (nI j)]) (n := 2) (Nat.le_of_ble_eq_true rfl)
  rw [lg_entry_eq]
  generalize (lg_sl ([.ref o, .int (nI j)]) ++ List.replicate (2 - (lg_sl ([.ref o, .int (nI j)])).length) Slot.unset).toArray = ls at hl ⊢
  have hl : lv_has ls 2 [(0, .ref o), (1, .int (nI j))] := hl
  refine lv_iload_n hx hb dX1_keptAt_0 rfl (lv_at hl 1 rfl) ?_
  refine xn_if_lt (tgt := 22) hx hb dX1_keptAt_1 (by decide) (by omega) ?_
  refine lv_iload_n hx hb dX1_keptAt_4 rfl (lv_at hl 1 rfl) ?_
  refine lv_aload_n hx hb dX1_keptAt_5 rfl (lv_at hl 0 rfl) ?_
  refine x_get (v := .ref r) (C := RX1) (T := TX1) (N := 2) hx hb hts (by decide +kernel) hown hK hC.1 rfl 0 (by decide) (hts (.fieldLink RX1 9 "BellRanks$Method" "steps" "[I") (by decide +kernel)) (fun _ h9 => h9) rfl dX1_keptAt_6 ?_
  refine x_alen hx hb hK hC.2 dX1_keptAt_9 ?_
  refine xn_icmp_ge (tgt := 22) hx hb dX1_keptAt_10 (by decide) (by omega) (by decide) (fun c10 => ?_) (fun c10 => ?_)
  · exact absurd c10 (by omega)
  · refine lv_aload_n hx hb dX1_keptAt_13 rfl (lv_at hl 0 rfl) ?_
    refine x_get (v := .ref r) (C := RX1) (T := TX1) (N := 2) hx hb hts (by decide +kernel) hown hK hC.1 rfl 0 (by decide) (hts (.fieldLink RX1 9 "BellRanks$Method" "steps" "[I") (by decide +kernel)) (fun _ h9 => h9) rfl dX1_keptAt_14 ?_
    refine lv_iload_n hx hb dX1_keptAt_17 rfl (lv_at hl 1 rfl) ?_
    refine x_iald hx hb hK hC.2 (by omega) (by decide) dX1_keptAt_18 ?_
    refine lv_goto (tgt := 23) hx hb dX1_keptAt_19 (by decide) ?_
    exact x_iret hx hb hr hlocks rfl rfl dX1_keptAt_23

set_option maxRecDepth 100000 in
set_option maxHeartbeats 4000000 in
theorem cX1_removeAll_ (l : Launch) (D : va_G) (cI cC : ClassId) (o r ns : Nat) (f : Nat → Nat) (hor : o ≠ r) : Met l yX1_removeAll wsX1_removeAll (xRm 0 0 0) (va_Pc [.ref o] (xB D cI cC (xMe D cI o r ns f))) (xV (fun _ : Unit => True) (fun _ => xMe D cI o r 0 f) (fun q9 => q9 = o ∨ q9 = r)) 0 0 (fun q9 => q9 = o ∨ q9 = r) := by
  refine Met.ofW (cc := cX1_removeAll) (maxL := 1) (ret := none) (by decide) rfl ?_
  intro p e s m args below meth c s₁ B hml hv
  obtain ⟨rfl, hP, hK⟩ := hv
  have hx := B.exec
  have hb := B.bytes
  have hr := B.returns
  have hts := atoms_spec (ws := wsX1_removeAll) B.pre
  have hown : s.vm.findClass RX1 = some m.cls := findClass_of_methodNamed B.named
  have hlocks := B.notSynchronized
  have hC := hP
  have hl := lv_entry ([.ref o]) (n := 1) (Nat.le_of_ble_eq_true rfl)
  rw [lg_entry_eq]
  generalize (lg_sl ([.ref o]) ++ List.replicate (1 - (lg_sl ([.ref o])).length) Slot.unset).toArray = ls at hl ⊢
  have hl : lv_has ls 1 [(0, .ref o)] := hl
  have hS : va_S (fun q9 => q9 = o ∨ q9 = r) s.heap s.heap [] := va_S.rf
  refine lv_aload_n hx hb dX1_removeAll_0 rfl (lv_at hl 0 rfl) ?_
  refine xn_iconst (v := 0) hx hb dX1_removeAll_1 (by decide) ?_
  refine x_put (v := .int (nI 0)) (ty := .int) (C := RX1) (T := TX1) (N := 2) hx hb hts (by decide +kernel) tyX1 tyX1_ok nmX1 hown hK hC.1 hS (Or.inl rfl) rfl 1 (by decide) (hts (.fieldLink RX1 15 "BellRanks$Method" "length" "I") (by decide +kernel)) (fun _ h9 => h9) rfl (by decide +kernel) rfl rfl (Nat.le_of_ble_eq_true rfl) dX1_removeAll_2 (fun H1 locs1 hN hz oq hS => ?_)
  have hC : xMe D cI o r 0 f H1 := ⟨hN, hC.2.kept (oq _ (Ne.symm hor))⟩
  exact x_vret hx hb hr hlocks () trivial hC hS (fun _ h => h) dX1_removeAll_5

set_option maxRecDepth 100000 in
set_option maxHeartbeats 4000000 in
theorem cX2_removeAll_ (l : Launch) (D : va_G) (cI cC : ClassId) (o r z : Nat) (f : Nat → Nat) (hor : o ≠ r) : Met l yX2_removeAll wsX2_removeAll (xRm 0 0 0) (va_Pc [.ref o] (xB D cI cC (xRs D cI o r z f))) (xV (fun _ : Unit => True) (fun _ => xRs D cI o r 0 f) (fun q9 => q9 = o ∨ q9 = r)) 0 0 (fun q9 => q9 = o ∨ q9 = r) := by
  refine Met.ofW (cc := cX2_removeAll) (maxL := 1) (ret := none) (by decide) rfl ?_
  intro p e s m args below meth c s₁ B hml hv
  obtain ⟨rfl, hP, hK⟩ := hv
  have hx := B.exec
  have hb := B.bytes
  have hr := B.returns
  have hts := atoms_spec (ws := wsX2_removeAll) B.pre
  have hown : s.vm.findClass RX2 = some m.cls := findClass_of_methodNamed B.named
  have hlocks := B.notSynchronized
  have hC := hP
  have hl := lv_entry ([.ref o]) (n := 1) (Nat.le_of_ble_eq_true rfl)
  rw [lg_entry_eq]
  generalize (lg_sl ([.ref o]) ++ List.replicate (1 - (lg_sl ([.ref o])).length) Slot.unset).toArray = ls at hl ⊢
  have hl : lv_has ls 1 [(0, .ref o)] := hl
  have hS : va_S (fun q9 => q9 = o ∨ q9 = r) s.heap s.heap [] := va_S.rf
  refine lv_aload_n hx hb dX2_removeAll_0 rfl (lv_at hl 0 rfl) ?_
  refine xn_iconst (v := 0) hx hb dX2_removeAll_1 (by decide) ?_
  refine x_put (v := .int (nI 0)) (ty := .int) (C := RX2) (T := TX2) (N := 2) hx hb hts (by decide +kernel) tyX2 tyX2_ok nmX2 hown hK hC.1 hS (Or.inl rfl) rfl 1 (by decide) (hts (.fieldLink RX2 15 "BellRanks$RankSet" "size" "I") (by decide +kernel)) (fun _ h9 => h9) rfl (by decide +kernel) rfl rfl (Nat.le_of_ble_eq_true rfl) dX2_removeAll_2 (fun H1 locs1 hN hz oq hS => ?_)
  have hC : xRs D cI o r 0 f H1 := ⟨hN, hC.2.kept (oq _ (Ne.symm hor))⟩
  exact x_vret hx hb hr hlocks () trivial hC hS (fun _ h => h) dX2_removeAll_5

set_option maxRecDepth 100000 in
set_option maxHeartbeats 4000000 in
theorem cX1_add_ (l : Launch) (D : va_G) (cI cC : ClassId) (o r ns : Nat) (f : Nat → Nat) (hor : o ≠ r) (hns : ns < 10) (v : Nat) : Met l yX1_add wsX1_add (xRm 0 0 0) (va_Pc [.ref o, .int (nI v)] (xB D cI cC (xMe D cI o r ns f))) (xV (fun _ : Unit => True) (fun _ => xMe D cI o r (ns + 1) (va_up f ns v)) (fun q9 => q9 = o ∨ q9 = r)) 0 0 (fun q9 => q9 = o ∨ q9 = r) := by
  refine Met.ofW (cc := cX1_add) (maxL := 2) (ret := none) (by decide) rfl ?_
  intro p e s m args below meth c s₁ B hml hv
  obtain ⟨rfl, hP, hK⟩ := hv
  have hx := B.exec
  have hb := B.bytes
  have hr := B.returns
  have hts := atoms_spec (ws := wsX1_add) B.pre
  have hown : s.vm.findClass RX1 = some m.cls := findClass_of_methodNamed B.named
  have hlocks := B.notSynchronized
  have hC := hP
  have hl := lv_entry ([.ref o, .int (nI v)]) (n := 2) (Nat.le_of_ble_eq_true rfl)
  rw [lg_entry_eq]
  generalize (lg_sl ([.ref o, .int (nI v)]) ++ List.replicate (2 - (lg_sl ([.ref o, .int (nI v)])).length) Slot.unset).toArray = ls at hl ⊢
  have hl : lv_has ls 2 [(0, .ref o), (1, .int (nI v))] := hl
  have hS : va_S (fun q9 => q9 = o ∨ q9 = r) s.heap s.heap [] := va_S.rf
  refine lv_aload_n hx hb dX1_add_0 rfl (lv_at hl 0 rfl) ?_
  refine x_get (v := .int (nI ns)) (C := RX1) (T := TX1) (N := 2) hx hb hts (by decide +kernel) hown hK hC.1 rfl 1 (by decide) (hts (.fieldLink RX1 15 "BellRanks$Method" "length" "I") (by decide +kernel)) (fun _ h9 => h9) rfl dX1_add_1 ?_
  refine lv_aload_n hx hb dX1_add_4 rfl (lv_at hl 0 rfl) ?_
  refine x_get (v := .ref r) (C := RX1) (T := TX1) (N := 2) hx hb hts (by decide +kernel) hown hK hC.1 rfl 0 (by decide) (hts (.fieldLink RX1 9 "BellRanks$Method" "steps" "[I") (by decide +kernel)) (fun _ h9 => h9) rfl dX1_add_5 ?_
  refine x_alen hx hb hK hC.2 dX1_add_8 ?_
  refine xn_icmp_ge (tgt := 32) hx hb dX1_add_9 (by decide) (by omega) (by decide) (fun c9 => ?_) (fun c9 => ?_)
  · exact absurd c9 (by omega)
  · refine lv_aload_n hx hb dX1_add_12 rfl (lv_at hl 0 rfl) ?_
    refine x_get (v := .ref r) (C := RX1) (T := TX1) (N := 2) hx hb hts (by decide +kernel) hown hK hC.1 rfl 0 (by decide) (hts (.fieldLink RX1 9 "BellRanks$Method" "steps" "[I") (by decide +kernel)) (fun _ h9 => h9) rfl dX1_add_13 ?_
    refine lv_aload_n hx hb dX1_add_16 rfl (lv_at hl 0 rfl) ?_
    refine x_get (v := .int (nI ns)) (C := RX1) (T := TX1) (N := 2) hx hb hts (by decide +kernel) hown hK hC.1 rfl 1 (by decide) (hts (.fieldLink RX1 15 "BellRanks$Method" "length" "I") (by decide +kernel)) (fun _ h9 => h9) rfl dX1_add_17 ?_
    refine lv_iload_n hx hb dX1_add_20 rfl (lv_at hl 1 rfl) ?_
    refine x_iast hx hb hK hC.2 hS (Or.inr rfl) (by omega) (by decide) dX1_add_21 (fun H1 locs1 hN hz oq hS => ?_)
    have hC : xMe D cI o r ns (va_up f ns v) H1 := ⟨hC.1.kept (oq _ hor), hN⟩
    refine lv_aload_n hx hb dX1_add_22 rfl (lv_at hl 0 rfl) ?_
    refine lv_dup hx hb dX1_add_23 rfl ?_
    refine x_get (v := .int (nI ns)) (C := RX1) (T := TX1) (N := 2) hx hb hts (by decide +kernel) hown hK hC.1 rfl 1 (by decide) (hts (.fieldLink RX1 15 "BellRanks$Method" "length" "I") (by decide +kernel)) (fun _ h9 => h9) rfl dX1_add_24 ?_
    refine xn_iconst (v := 1) hx hb dX1_add_27 (by decide) ?_
    refine xn_iadd hx hb dX1_add_28 ?_
    refine x_put (v := .int (nI (ns + 1))) (ty := .int) (C := RX1) (T := TX1) (N := 2) hx hb hts (by decide +kernel) tyX1 tyX1_ok nmX1 hown hK hC.1 hS (Or.inl rfl) rfl 1 (by decide) (hts (.fieldLink RX1 15 "BellRanks$Method" "length" "I") (by decide +kernel)) (fun _ h9 => h9) rfl (by decide +kernel) rfl rfl (Nat.le_of_ble_eq_true rfl) dX1_add_29 (fun H1 locs1 hN hz oq hS => ?_)
    have hC : xMe D cI o r (ns + 1) (va_up f ns v) H1 := ⟨hN, hC.2.kept (oq _ (Ne.symm hor))⟩
    exact x_vret hx hb hr hlocks () trivial hC hS (fun _ h => h) dX1_add_32

set_option maxRecDepth 100000 in
set_option maxHeartbeats 4000000 in
theorem cX1_ringOn_ (l : Launch) (D : va_G) (cI cC : ClassId) (o r ns : Nat) (f : Nat → Nat) (o2 r2 n : Nat) (f2 : Nat → Nat) (hor : o2 ≠ r2) (hn : n ≤ 8) (hns : 0 < ns) (hns2 : ns ≤ 10) (hf : ∀ i, f i < 2 ^ 31) (k : Nat) (hk : k < 2 ^ 31) : Met l yX1_ringOn wsX1_ringOn (xRm 3 0 0) (va_Pc [.ref o, .ref o2, .int (nI k)] (xB D cI cC (fun H => xMe D cI o r ns f H ∧ xCh D cI o2 r2 n f2 H))) (xV (fun _ : Unit => True) (fun _ => xCh D cI o2 r2 n (rst (f (k % ns)) n n 0 f2)) (fun q9 => q9 = r2)) 0 0 (fun q9 => q9 = r2) := by
  refine Met.ofW (cc := cX1_ringOn) (maxL := 3) (ret := none) (by decide) rfl ?_
  intro p e s m args below meth c s₁ B hml hv
  obtain ⟨rfl, hP, hK⟩ := hv
  have hx := B.exec
  have hb := B.bytes
  have hr := B.returns
  have hts := atoms_spec (ws := wsX1_ringOn) B.pre
  have hown : s.vm.findClass RX1 = some m.cls := findClass_of_methodNamed B.named
  have hlocks := B.notSynchronized
  obtain ⟨hC, hC2⟩ := hP
  have hl := lv_entry ([.ref o, .ref o2, .int (nI k)]) (n := 3) (Nat.le_of_ble_eq_true rfl)
  rw [lg_entry_eq]
  generalize (lg_sl ([.ref o, .ref o2, .int (nI k)]) ++ List.replicate (3 - (lg_sl ([.ref o, .ref o2, .int (nI k)])).length) Slot.unset).toArray = ls at hl ⊢
  have hl : lv_has ls 3 [(0, .ref o), (1, .ref o2), (2, .int (nI k))] := hl
  have hS : va_S (fun q9 => q9 = r2) s.heap s.heap [] := va_S.rf
  refine lv_aload_n hx hb dX1_ringOn_0 rfl (lv_at hl 0 rfl) ?_
  refine x_get (v := .int (nI ns)) (C := RX1) (T := TX1) (N := 2) hx hb hts (by decide +kernel) hown hK hC.1 rfl 1 (by decide) (hts (.fieldLink RX1 15 "BellRanks$Method" "length" "I") (by decide +kernel)) (fun _ h9 => h9) rfl dX1_ringOn_1 ?_
  refine xn_if_le (tgt := 21) hx hb dX1_ringOn_4 (by decide) (by omega) (fun c4 => ?_) (fun c4 => ?_)
  · exact absurd c4 (by omega)
  · refine lv_aload_n hx hb dX1_ringOn_7 rfl (lv_at hl 1 rfl) ?_
    refine lv_aload_n hx hb dX1_ringOn_8 rfl (lv_at hl 0 rfl) ?_
    refine lv_iload_n hx hb dX1_ringOn_9 rfl (lv_at hl 2 rfl) ?_
    refine lv_aload_n hx hb dX1_ringOn_10 rfl (lv_at hl 0 rfl) ?_
    refine x_get (v := .int (nI ns)) (C := RX1) (T := TX1) (N := 2) hx hb hts (by decide +kernel) hown hK hC.1 rfl 1 (by decide) (hts (.fieldLink RX1 15 "BellRanks$Method" "length" "I") (by decide +kernel)) (fun _ h9 => h9) rfl dX1_ringOn_11 ?_
    refine xn_irem hx hb (by omega) (by omega) (by omega) dX1_ringOn_14 ?_
    refine xcV (As := [.int (nI (k % ns))]) (rest := [.ref o2]) ⟨hx, hb, hml, hown, hts⟩ (cX1_keptAt_ l D cI cC o r ns f (k % ns) (Nat.lt_of_lt_of_le (Nat.mod_lt _ hns) hns2)) (cwV 1 hts gX1_ringOn_X1_keptAt rfl rfl rfl (by decide +kernel) ⟨Nat.le_of_ble_eq_true rfl, Nat.le_of_ble_eq_true rfl⟩) hK hC (xRecv hK rfl hC.1) rfl hl.1 rfl (Nat.le_of_ble_eq_true rfl) dX1_ringOn_15 ⟨Nat.zero_le _, Nat.zero_le _⟩ (fun x15 e15 => ?_)
    subst e15
    refine xmV (As := [.int (nI (f (k % ns)))]) (rest := []) ⟨hx, hb, hml, hown, hts⟩ (cX0_ringStep_ l D cI cC o2 r2 n f2 hor hn (f (k % ns)) (hf _)) (cwV 1 hts gX1_ringOn_X0_ringStep rfl rfl rfl (by decide +kernel) ⟨Nat.le_of_ble_eq_true rfl, Nat.le_of_ble_eq_true rfl⟩) hK hC2 (xRecv hK rfl hC2.1) rfl hl.1 rfl (Nat.le_of_ble_eq_true rfl) dX1_ringOn_18 ⟨Nat.zero_le _, Nat.zero_le _⟩ hS (fun _ h => h) (fun _ h => h) (fun u18 H1 locs1 hp18 hF18 hz18 hk18 hS => ?_)
    have hC2 : xCh D cI o2 r2 n (rst (f (k % ns)) n n 0 f2) H1 := hF18
    exact x_vret hx hb hr hlocks () trivial hC2 hS (fun _ h => h) dX1_ringOn_21

set_option maxRecDepth 100000 in
set_option maxHeartbeats 4000000 in
theorem cX1_isStep_ (l : Launch) (D : va_G) (cI cC : ClassId) (k n : Nat) (hn : n ≤ 8) (hk : k < 2 ^ 31) : Met l yX1_isStep wsX1_isStep (xRm 1 0 0) (va_Pc [.int (nI k), .int (nI n)] (xB D cI cC (fun _ => True))) (vp_Si (fun x => x = nI (if k < 2 ^ n then stp k n n 0 else 0))) 0 0 (fun _ => False) := by
  refine Met.ofW (cc := cX1_isStep) (maxL := 3) (ret := (some .boolean)) (by decide) rfl ?_
  intro p e s m args below meth c s₁ B hml hv
  obtain ⟨rfl, hP, hK⟩ := hv
  have hx := B.exec
  have hb := B.bytes
  have hr := B.returns
  have hts := atoms_spec (ws := wsX1_isStep) B.pre
  have hown : s.vm.findClass RX1 = some m.cls := findClass_of_methodNamed B.named
  have hlocks := B.notSynchronized
  have hl := lv_entry ([.int (nI k), .int (nI n)]) (n := 3) (Nat.le_of_ble_eq_true rfl)
  rw [lg_entry_eq]
  generalize (lg_sl ([.int (nI k), .int (nI n)]) ++ List.replicate (3 - (lg_sl ([.int (nI k), .int (nI n)])).length) Slot.unset).toArray = ls at hl ⊢
  have hl : lv_has ls 3 [(0, .int (nI k)), (1, .int (nI n))] := hl
  have hpw : 2 ^ n < 2 ^ 31 := Nat.pow_lt_pow_right (by decide) (by omega)
  refine lv_iload_n hx hb dX1_isStep_0 rfl (lv_at hl 0 rfl) ?_
  refine xn_if_lt (tgt := 11) hx hb dX1_isStep_1 (by decide) (by omega) ?_
  refine lv_iload_n hx hb dX1_isStep_4 rfl (lv_at hl 0 rfl) ?_
  refine xn_iconst (v := 1) hx hb dX1_isStep_5 (by decide) ?_
  refine lv_iload_n hx hb dX1_isStep_6 rfl (lv_at hl 1 rfl) ?_
  refine lv_ishl hx hb dX1_isStep_7 ?_
  refine xz_i ((xshl (by rw [Nat.one_mul]; exact Nat.lt_trans hpw (by decide)) (by omega)).trans (congrArg nI (Nat.one_mul _))) ?_
  refine xn_icmp_lt (tgt := 13) hx hb dX1_isStep_8 (by decide) (by omega) hpw (fun c8 => ?_) (fun c8 => ?_)
  · refine xn_iconst (v := 0) hx hb dX1_isStep_13 (by decide) ?_
    refine lv_istore_n (lv' := [(2, .int (nI 0)), (0, .int (nI k)), (1, .int (nI n))]) hx hb dX1_isStep_14 rfl hl (by decide) rfl (fun ls hl => ?_)
    refine x_loop (σ := Nat × Nat) (fun a => n - a.1) (fun a ls => (n ≤ a.1 + a.2) ∧ (a.1 ≤ n) ∧ (stp k n a.2 a.1 = stp k n n 0) ∧ lv_has ls 3 [(0, .int (nI k)), (1, .int (nI n)), (2, .int (nI a.1))]) ?_ (0, n) ls ⟨(by dsimp only; omega), (Nat.zero_le _), rfl, lv_sub hl [1, 2, 0] rfl⟩
    rintro ⟨i, u⟩ ls ⟨hu, h2, ht, hl⟩ ih15
    dsimp only at hu h2 ht hl
    refine lv_iload_n hx hb dX1_isStep_15 rfl (lv_at hl 2 rfl) ?_
    refine lv_iload_n hx hb dX1_isStep_16 rfl (lv_at hl 1 rfl) ?_
    refine xn_icmp_ge (tgt := 59) hx hb dX1_isStep_17 (by decide) (by omega) (by omega) (fun c17 => ?_) (fun c17 => ?_)
    · refine xn_iconst (v := 1) hx hb dX1_isStep_59 (by decide) ?_
      exact x_zret hx hb hr hlocks rfl (by decide) (by rw [if_pos c8, ← ht, stp_end c17]) dX1_isStep_60
    · obtain ⟨u, rfl⟩ : ∃ z, u = z + 1 := ⟨u - 1, by omega⟩
      refine lv_iload_n hx hb dX1_isStep_20 rfl (lv_at hl 0 rfl) ?_
      refine lv_iload_n hx hb dX1_isStep_21 rfl (lv_at hl 2 rfl) ?_
      refine xcS (As := [.int (nI k), .int (nI i)]) (rest := []) ⟨hx, hb, hml, hown, hts⟩ (cX1_keeps_ l D cI cC k i hk (by omega)) (va_cwS 2 hts gX1_isStep_X1_keeps rfl rfl rfl (by decide +kernel) ⟨Nat.le_of_ble_eq_true rfl, Nat.le_of_ble_eq_true rfl⟩) hK trivial rfl hl.1 rfl (Nat.le_of_ble_eq_true rfl) dX1_isStep_22 ⟨Nat.zero_le _, Nat.zero_le _⟩ (fun x22 e22 => ?_)
      subst e22
      refine xn_if_eq (tgt := 34) hx hb dX1_isStep_25 (by decide) (Nat.lt_trans (bitN_lt _ _) (by decide)) (fun c25 => ?_) (fun c25 => ?_)
      · refine lv_iload_n hx hb dX1_isStep_34 rfl (lv_at hl 2 rfl) ?_
        refine xn_iconst (v := 1) hx hb dX1_isStep_35 (by decide) ?_
        refine xn_iadd hx hb dX1_isStep_36 ?_
        refine lv_iload_n hx hb dX1_isStep_37 rfl (lv_at hl 1 rfl) ?_
        refine xn_icmp_ge (tgt := 57) hx hb dX1_isStep_38 (by decide) (by omega) (by omega) (fun c38 => ?_) (fun c38 => ?_)
        · refine xn_iconst (v := 0) hx hb dX1_isStep_57 (by decide) ?_
          exact x_zret hx hb hr hlocks rfl (by decide) (by rw [if_pos c8, ← ht, stp_0 c17 c25 (fun z => absurd z.1 (by omega))]) dX1_isStep_58
        · refine lv_iload_n hx hb dX1_isStep_41 rfl (lv_at hl 0 rfl) ?_
          refine lv_iload_n hx hb dX1_isStep_42 rfl (lv_at hl 2 rfl) ?_
          refine xn_iconst (v := 1) hx hb dX1_isStep_43 (by decide) ?_
          refine xn_iadd hx hb dX1_isStep_44 ?_
          refine xcS (As := [.int (nI k), .int (nI (i + 1))]) (rest := []) ⟨hx, hb, hml, hown, hts⟩ (cX1_keeps_ l D cI cC k (i + 1) hk (by omega)) (va_cwS 2 hts gX1_isStep_X1_keeps rfl rfl rfl (by decide +kernel) ⟨Nat.le_of_ble_eq_true rfl, Nat.le_of_ble_eq_true rfl⟩) hK trivial rfl hl.1 rfl (Nat.le_of_ble_eq_true rfl) dX1_isStep_45 ⟨Nat.zero_le _, Nat.zero_le _⟩ (fun x45 e45 => ?_)
          subst e45
          refine xn_if_ne (tgt := 57) hx hb dX1_isStep_48 (by decide) (Nat.lt_trans (bitN_lt _ _) (by decide)) (fun c48 => ?_) (fun c48 => ?_)
          · refine xn_iconst (v := 0) hx hb dX1_isStep_57 (by decide) ?_
            exact x_zret hx hb hr hlocks rfl (by decide) (by rw [if_pos c8, ← ht, stp_0 c17 c25 (fun z => absurd z.2 (by omega))]) dX1_isStep_58
          · refine xn_iinc (v := i + 2) (lv' := [(2, .int (nI (i + 2))), (0, .int (nI k)), (1, .int (nI n))]) hx hb dX1_isStep_51 hl (k := 2) rfl (xinc2 _) (by decide) rfl (fun ls hl => ?_)
            refine lv_goto (tgt := 15) hx hb dX1_isStep_54 (by decide) ?_
            exact ih15 (i + 2, u) ls ⟨(by dsimp only; omega), (by dsimp only; omega), (by rw [← stp_x c17 c25 c38 c48]; exact ht), lv_sub hl [1, 2, 0] rfl⟩ (by dsimp only; omega)
      · refine xn_iinc (v := i + 1) (lv' := [(2, .int (nI (i + 1))), (0, .int (nI k)), (1, .int (nI n))]) hx hb dX1_isStep_28 hl (k := 2) rfl (xinc1 _) (by decide) rfl (fun ls hl => ?_)
        refine lv_goto (tgt := 15) hx hb dX1_isStep_31 (by decide) ?_
        exact ih15 (i + 1, u) ls ⟨(by dsimp only; omega), (by dsimp only; omega), (by rw [← stp_k c17 (by have := bitN_lt k i; omega)]; exact ht), lv_sub hl [1, 2, 0] rfl⟩ (by dsimp only; omega)
  · refine xn_iconst (v := 0) hx hb dX1_isStep_11 (by decide) ?_
    exact x_zret hx hb hr hlocks rfl (by decide) (by rw [if_neg (Nat.not_lt.mpr c8)]) dX1_isStep_12

set_option maxRecDepth 100000 in
set_option maxHeartbeats 4000000 in
theorem cX1_isStepN_ (l : Launch) (D : va_G) (cI cC : ClassId) (x : Int32) (hx0 : x < 0) (n : Nat) : Met l yX1_isStep wsX1_isStep (xRm 1 0 0) (va_Pc [.int x, .int (nI n)] (xB D cI cC (fun _ => True))) (vp_Si (fun x => x = nI 0)) 0 0 (fun _ => False) := by
  refine Met.ofW (cc := cX1_isStep) (maxL := 3) (ret := (some .boolean)) (by decide) rfl ?_
  intro p e s m args below meth c s₁ B hml hv
  obtain ⟨rfl, hP, hK⟩ := hv
  have hx := B.exec
  have hb := B.bytes
  have hr := B.returns
  have hts := atoms_spec (ws := wsX1_isStep) B.pre
  have hown : s.vm.findClass RX1 = some m.cls := findClass_of_methodNamed B.named
  have hlocks := B.notSynchronized
  have hl := lv_entry ([.int x, .int (nI n)]) (n := 3) (Nat.le_of_ble_eq_true rfl)
  rw [lg_entry_eq]
  generalize (lg_sl ([.int x, .int (nI n)]) ++ List.replicate (3 - (lg_sl ([.int x, .int (nI n)])).length) Slot.unset).toArray = ls at hl ⊢
  have hl : lv_has ls 3 [(0, .int x), (1, .int (nI n))] := hl
  refine lv_iload_n hx hb dX1_isStep_0 rfl (lv_at hl 0 rfl) ?_
  refine lv_if_lt (tgt := 11) hx hb dX1_isStep_1 (by decide) (fun c1 => ?_) (fun c1 => ?_)
  · refine xn_iconst (v := 0) hx hb dX1_isStep_11 (by decide) ?_
    exact x_zret hx hb hr hlocks rfl (by decide) rfl dX1_isStep_12
  · exact absurd hx0 c1

set_option maxRecDepth 100000 in
set_option maxHeartbeats 4000000 in
theorem cX2_add_ (l : Launch) (D : va_G) (cI cC : ClassId) (o r z : Nat) (f : Nat → Nat) (hor : o ≠ r) (hz1 : z < 201) (v : Nat) (hv : v < 2 ^ 31) (hf : ∀ i, i < z → f i < 2 ^ 31) : Met l yX2_add wsX2_add (xRm 0 0 0) (va_Pc [.ref o, .int (nI v)] (xB D cI cC (xRs D cI o r z f))) (xV (fun u : Nat × (Nat → Nat) => (u = (z, f) ∧ ∃ i, i < z ∧ f i = v) ∨ (u = (z + 1, va_up f z v) ∧ ∀ i, i < z → f i ≠ v)) (fun u => xRs D cI o r u.1 u.2) (fun q9 => q9 = o ∨ q9 = r)) 0 0 (fun q9 => q9 = o ∨ q9 = r) := by
  refine Met.ofW (cc := cX2_add) (maxL := 3) (ret := none) (by decide) rfl ?_
  intro p e s m args below meth c s₁ B hml hv
  obtain ⟨rfl, hP, hK⟩ := hv
  have hx := B.exec
  have hb := B.bytes
  have hr := B.returns
  have hts := atoms_spec (ws := wsX2_add) B.pre
  have hown : s.vm.findClass RX2 = some m.cls := findClass_of_methodNamed B.named
  have hlocks := B.notSynchronized
  have hC := hP
  have hl := lv_entry ([.ref o, .int (nI v)]) (n := 3) (Nat.le_of_ble_eq_true rfl)
  rw [lg_entry_eq]
  generalize (lg_sl ([.ref o, .int (nI v)]) ++ List.replicate (3 - (lg_sl ([.ref o, .int (nI v)])).length) Slot.unset).toArray = ls at hl ⊢
  have hl : lv_has ls 3 [(0, .ref o), (1, .int (nI v))] := hl
  have hS : va_S (fun q9 => q9 = o ∨ q9 = r) s.heap s.heap [] := va_S.rf
  refine xn_iconst (v := 0) hx hb dX2_add_0 (by decide) ?_
  refine lv_istore_n (lv' := [(2, .int (nI 0)), (0, .ref o), (1, .int (nI v))]) hx hb dX2_add_1 rfl hl (by decide) rfl (fun ls hl => ?_)
  refine x_loop (σ := Nat) (fun a => z - a) (fun a ls => (a ≤ z) ∧ (∀ q9, q9 < a → f q9 ≠ v) ∧ lv_has ls 3 [(0, .ref o), (1, .int (nI v)), (2, .int (nI a))]) ?_ 0 ls ⟨(Nat.zero_le _), (fun q h => absurd h (Nat.not_lt_zero _)), lv_sub hl [1, 2, 0] rfl⟩
  rintro i ls ⟨h2, h3, hl⟩ ih2
  
  refine lv_iload_n hx hb dX2_add_2 rfl (lv_at hl 2 rfl) ?_
  refine lv_aload_n hx hb dX2_add_3 rfl (lv_at hl 0 rfl) ?_
  refine x_get (v := .int (nI z)) (C := RX2) (T := TX2) (N := 2) hx hb hts (by decide +kernel) hown hK hC.1 rfl 1 (by decide) (hts (.fieldLink RX2 15 "BellRanks$RankSet" "size" "I") (by decide +kernel)) (fun _ h9 => h9) rfl dX2_add_4 ?_
  refine xn_icmp_ge (tgt := 27) hx hb dX2_add_7 (by decide) (by omega) (by omega) (fun c7 => ?_) (fun c7 => ?_)
  · refine lv_aload_n hx hb dX2_add_27 rfl (lv_at hl 0 rfl) ?_
    refine x_get (v := .int (nI z)) (C := RX2) (T := TX2) (N := 2) hx hb hts (by decide +kernel) hown hK hC.1 rfl 1 (by decide) (hts (.fieldLink RX2 15 "BellRanks$RankSet" "size" "I") (by decide +kernel)) (fun _ h9 => h9) rfl dX2_add_28 ?_
    refine lv_aload_n hx hb dX2_add_31 rfl (lv_at hl 0 rfl) ?_
    refine x_get (v := .ref r) (C := RX2) (T := TX2) (N := 2) hx hb hts (by decide +kernel) hown hK hC.1 rfl 0 (by decide) (hts (.fieldLink RX2 9 "BellRanks$RankSet" "row" "[I") (by decide +kernel)) (fun _ h9 => h9) rfl dX2_add_32 ?_
    refine x_alen hx hb hK hC.2 dX2_add_35 ?_
    refine xn_icmp_ge (tgt := 59) hx hb dX2_add_36 (by decide) (by omega) (by decide) (fun c36 => ?_) (fun c36 => ?_)
    · exact absurd c36 (by omega)
    · refine lv_aload_n hx hb dX2_add_39 rfl (lv_at hl 0 rfl) ?_
      refine x_get (v := .ref r) (C := RX2) (T := TX2) (N := 2) hx hb hts (by decide +kernel) hown hK hC.1 rfl 0 (by decide) (hts (.fieldLink RX2 9 "BellRanks$RankSet" "row" "[I") (by decide +kernel)) (fun _ h9 => h9) rfl dX2_add_40 ?_
      refine lv_aload_n hx hb dX2_add_43 rfl (lv_at hl 0 rfl) ?_
      refine x_get (v := .int (nI z)) (C := RX2) (T := TX2) (N := 2) hx hb hts (by decide +kernel) hown hK hC.1 rfl 1 (by decide) (hts (.fieldLink RX2 15 "BellRanks$RankSet" "size" "I") (by decide +kernel)) (fun _ h9 => h9) rfl dX2_add_44 ?_
      refine lv_iload_n hx hb dX2_add_47 rfl (lv_at hl 1 rfl) ?_
      refine x_iast hx hb hK hC.2 hS (Or.inr rfl) (by omega) (by decide) dX2_add_48 (fun H1 locs1 hN hz oq hS => ?_)
      have hC : xRs D cI o r z (va_up f z v) H1 := ⟨hC.1.kept (oq _ hor), hN⟩
      refine lv_aload_n hx hb dX2_add_49 rfl (lv_at hl 0 rfl) ?_
      refine lv_dup hx hb dX2_add_50 rfl ?_
      refine x_get (v := .int (nI z)) (C := RX2) (T := TX2) (N := 2) hx hb hts (by decide +kernel) hown hK hC.1 rfl 1 (by decide) (hts (.fieldLink RX2 15 "BellRanks$RankSet" "size" "I") (by decide +kernel)) (fun _ h9 => h9) rfl dX2_add_51 ?_
      refine xn_iconst (v := 1) hx hb dX2_add_54 (by decide) ?_
      refine xn_iadd hx hb dX2_add_55 ?_
      refine x_put (v := .int (nI (z + 1))) (ty := .int) (C := RX2) (T := TX2) (N := 2) hx hb hts (by decide +kernel) tyX2 tyX2_ok nmX2 hown hK hC.1 hS (Or.inl rfl) rfl 1 (by decide) (hts (.fieldLink RX2 15 "BellRanks$RankSet" "size" "I") (by decide +kernel)) (fun _ h9 => h9) rfl (by decide +kernel) rfl rfl (Nat.le_of_ble_eq_true rfl) dX2_add_56 (fun H1 locs1 hN hz oq hS => ?_)
      have hC : xRs D cI o r (z + 1) (va_up f z v) H1 := ⟨hN, hC.2.kept (oq _ (Ne.symm hor))⟩
      exact x_vret hx hb hr hlocks (z + 1, va_up f z v) (Or.inr ⟨rfl, fun q hq => h3 q (by omega)⟩) hC hS (fun _ h => h) dX2_add_59
  · refine lv_aload_n hx hb dX2_add_10 rfl (lv_at hl 0 rfl) ?_
    refine x_get (v := .ref r) (C := RX2) (T := TX2) (N := 2) hx hb hts (by decide +kernel) hown hK hC.1 rfl 0 (by decide) (hts (.fieldLink RX2 9 "BellRanks$RankSet" "row" "[I") (by decide +kernel)) (fun _ h9 => h9) rfl dX2_add_11 ?_
    refine lv_iload_n hx hb dX2_add_14 rfl (lv_at hl 2 rfl) ?_
    refine x_iald hx hb hK hC.2 (by omega) (by decide) dX2_add_15 ?_
    refine lv_iload_n hx hb dX2_add_16 rfl (lv_at hl 1 rfl) ?_
    refine xn_icmp_ne (tgt := 21) hx hb dX2_add_17 (by decide) (hf i (by omega)) (by omega) (fun c17 => ?_) (fun c17 => ?_)
    · refine xn_iinc (v := i + 1) (lv' := [(2, .int (nI (i + 1))), (0, .ref o), (1, .int (nI v))]) hx hb dX2_add_21 hl (k := 2) rfl (xinc1 _) (by decide) rfl (fun ls hl => ?_)
      refine lv_goto (tgt := 2) hx hb dX2_add_24 (by decide) ?_
      exact ih2 (i + 1) ls ⟨(by omega), (fun q hq => by
            by_cases h9 : q = i
            · subst h9; exact c17
            · exact h3 q (by omega)), lv_sub hl [1, 2, 0] rfl⟩ (by omega)
    · exact x_vret hx hb hr hlocks (z, f) (Or.inl ⟨rfl, i, c7, c17⟩) hC hS (fun _ h => h) dX2_add_20
end
section
theorem dX3_init_0 : decode cX3_init 0 = .ok (.aload_n 0, 1) := by decide +kernel
theorem dX3_init_1 : decode cX3_init 1 = .ok (.invokespecial 1, 3) := by decide +kernel
theorem dX3_init_4 : decode cX3_init 4 = .ok (.aload_n 0, 1) := by decide +kernel
theorem dX3_init_5 : decode cX3_init 5 = .ok (.bipush 16, 2) := by decide +kernel
theorem dX3_init_7 : decode cX3_init 7 = .ok (.anewarray 9, 3) := by decide +kernel
theorem dX3_init_10 : decode cX3_init 10 = .ok (.putfield 11, 3) := by decide +kernel
theorem dX3_init_13 : decode cX3_init 13 = .ok (.iconst 0, 1) := by decide +kernel
theorem dX3_init_14 : decode cX3_init 14 = .ok (.istore_n 1, 1) := by decide +kernel
theorem dX3_init_15 : decode cX3_init 15 = .ok (.iload_n 1, 1) := by decide +kernel
theorem dX3_init_16 : decode cX3_init 16 = .ok (.aload_n 0, 1) := by decide +kernel
theorem dX3_init_17 : decode cX3_init 17 = .ok (.getfield 11, 3) := by decide +kernel
theorem dX3_init_20 : decode cX3_init 20 = .ok (.arraylength, 1) := by decide +kernel
theorem dX3_init_21 : decode cX3_init 21 = .ok (.if_icmp .ge 22, 3) := by decide +kernel
theorem dX3_init_24 : decode cX3_init 24 = .ok (.aload_n 0, 1) := by decide +kernel
theorem dX3_init_25 : decode cX3_init 25 = .ok (.getfield 11, 3) := by decide +kernel
theorem dX3_init_28 : decode cX3_init 28 = .ok (.iload_n 1, 1) := by decide +kernel
theorem dX3_init_29 : decode cX3_init 29 = .ok (.new 9, 3) := by decide +kernel
theorem dX3_init_32 : decode cX3_init 32 = .ok (.dup, 1) := by decide +kernel
theorem dX3_init_33 : decode cX3_init 33 = .ok (.invokespecial 15, 3) := by decide +kernel
theorem dX3_init_36 : decode cX3_init 36 = .ok (.aastore, 1) := by decide +kernel
theorem dX3_init_37 : decode cX3_init 37 = .ok (.iinc 1 1, 3) := by decide +kernel
theorem dX3_init_40 : decode cX3_init 40 = .ok (.goto (-25), 3) := by decide +kernel
theorem dX3_init_43 : decode cX3_init 43 = .ok (.aload_n 0, 1) := by decide +kernel
theorem dX3_init_44 : decode cX3_init 44 = .ok (.new 16, 3) := by decide +kernel
theorem dX3_init_47 : decode cX3_init 47 = .ok (.dup, 1) := by decide +kernel
theorem dX3_init_48 : decode cX3_init 48 = .ok (.invokespecial 18, 3) := by decide +kernel
theorem dX3_init_51 : decode cX3_init 51 = .ok (.putfield 19, 3) := by decide +kernel
theorem dX3_init_54 : decode cX3_init 54 = .ok (.aload_n 0, 1) := by decide +kernel
theorem dX3_init_55 : decode cX3_init 55 = .ok (.new 9, 3) := by decide +kernel
theorem dX3_init_58 : decode cX3_init 58 = .ok (.dup, 1) := by decide +kernel
theorem dX3_init_59 : decode cX3_init 59 = .ok (.invokespecial 15, 3) := by decide +kernel
theorem dX3_init_62 : decode cX3_init 62 = .ok (.putfield 23, 3) := by decide +kernel
theorem dX3_init_65 : decode cX3_init 65 = .ok (.aload_n 0, 1) := by decide +kernel
theorem dX3_init_66 : decode cX3_init 66 = .ok (.new 9, 3) := by decide +kernel
theorem dX3_init_69 : decode cX3_init 69 = .ok (.dup, 1) := by decide +kernel
theorem dX3_init_70 : decode cX3_init 70 = .ok (.invokespecial 15, 3) := by decide +kernel
theorem dX3_init_73 : decode cX3_init 73 = .ok (.putfield 27, 3) := by decide +kernel
theorem dX3_init_76 : decode cX3_init 76 = .ok (.aload_n 0, 1) := by decide +kernel
theorem dX3_init_77 : decode cX3_init 77 = .ok (.new 30, 3) := by decide +kernel
theorem dX3_init_80 : decode cX3_init 80 = .ok (.dup, 1) := by decide +kernel
theorem dX3_init_81 : decode cX3_init 81 = .ok (.invokespecial 32, 3) := by decide +kernel
theorem dX3_init_84 : decode cX3_init 84 = .ok (.putfield 33, 3) := by decide +kernel
theorem dX3_init_87 : decode cX3_init 87 = .ok (.aload_n 0, 1) := by decide +kernel
theorem dX3_init_88 : decode cX3_init 88 = .ok (.iconst 5, 1) := by decide +kernel
theorem dX3_init_89 : decode cX3_init 89 = .ok (.putfield 37, 3) := by decide +kernel
theorem dX3_init_92 : decode cX3_init 92 = .ok (.aload_n 0, 1) := by decide +kernel
theorem dX3_init_93 : decode cX3_init 93 = .ok (.iconst 0, 1) := by decide +kernel
theorem dX3_init_94 : decode cX3_init 94 = .ok (.putfield 41, 3) := by decide +kernel
theorem dX3_init_97 : decode cX3_init 97 = .ok (.aload_n 0, 1) := by decide +kernel
theorem dX3_init_98 : decode cX3_init 98 = .ok (.iconst 0, 1) := by decide +kernel
theorem dX3_init_99 : decode cX3_init 99 = .ok (.putfield 44, 3) := by decide +kernel
theorem dX3_init_102 : decode cX3_init 102 = .ok (.return_, 1) := by decide +kernel
theorem dX3_setBells_0 : decode cX3_setBells 0 = .ok (.iload_n 1, 1) := by decide +kernel
theorem dX3_setBells_1 : decode cX3_setBells 1 = .ok (.iconst 2, 1) := by decide +kernel
theorem dX3_setBells_2 : decode cX3_setBells 2 = .ok (.if_icmp .lt 9, 3) := by decide +kernel
theorem dX3_setBells_5 : decode cX3_setBells 5 = .ok (.iload_n 1, 1) := by decide +kernel
theorem dX3_setBells_6 : decode cX3_setBells 6 = .ok (.bipush 8, 2) := by decide +kernel
theorem dX3_setBells_8 : decode cX3_setBells 8 = .ok (.if_icmp .le 13, 3) := by decide +kernel
theorem dX3_setBells_11 : decode cX3_setBells 11 = .ok (.new 47, 3) := by decide +kernel
theorem dX3_setBells_14 : decode cX3_setBells 14 = .ok (.dup, 1) := by decide +kernel
theorem dX3_setBells_15 : decode cX3_setBells 15 = .ok (.ldc 49, 2) := by decide +kernel
theorem dX3_setBells_17 : decode cX3_setBells 17 = .ok (.invokespecial 51, 3) := by decide +kernel
theorem dX3_setBells_20 : decode cX3_setBells 20 = .ok (.athrow, 1) := by decide +kernel
theorem dX3_setBells_21 : decode cX3_setBells 21 = .ok (.aload_n 0, 1) := by decide +kernel
theorem dX3_setBells_22 : decode cX3_setBells 22 = .ok (.getfield 37, 3) := by decide +kernel
theorem dX3_setBells_25 : decode cX3_setBells 25 = .ok (.istore_n 2, 1) := by decide +kernel
theorem dX3_setBells_26 : decode cX3_setBells 26 = .ok (.aload_n 0, 1) := by decide +kernel
theorem dX3_setBells_27 : decode cX3_setBells 27 = .ok (.iload_n 1, 1) := by decide +kernel
theorem dX3_setBells_28 : decode cX3_setBells 28 = .ok (.putfield 37, 3) := by decide +kernel
theorem dX3_setBells_31 : decode cX3_setBells 31 = .ok (.aload_n 0, 1) := by decide +kernel
theorem dX3_setBells_32 : decode cX3_setBells 32 = .ok (.iconst 0, 1) := by decide +kernel
theorem dX3_setBells_33 : decode cX3_setBells 33 = .ok (.putfield 41, 3) := by decide +kernel
theorem dX3_setBells_36 : decode cX3_setBells 36 = .ok (.aload_n 0, 1) := by decide +kernel
theorem dX3_setBells_37 : decode cX3_setBells 37 = .ok (.getfield 19, 3) := by decide +kernel
theorem dX3_setBells_40 : decode cX3_setBells 40 = .ok (.invokevirtual 54, 3) := by decide +kernel
theorem dX3_setBells_43 : decode cX3_setBells 43 = .ok (.iload_n 2, 1) := by decide +kernel
theorem dX3_setBells_44 : decode cX3_setBells 44 = .ok (.ireturn, 1) := by decide +kernel
theorem dX3_write_0 : decode cX3_write 0 = .ok (.iload_n 1, 1) := by decide +kernel
theorem dX3_write_1 : decode cX3_write 1 = .ok (.ifCond .lt 14, 3) := by decide +kernel
theorem dX3_write_4 : decode cX3_write 4 = .ok (.iload_n 1, 1) := by decide +kernel
theorem dX3_write_5 : decode cX3_write 5 = .ok (.aload_n 0, 1) := by decide +kernel
theorem dX3_write_6 : decode cX3_write 6 = .ok (.getfield 37, 3) := by decide +kernel
theorem dX3_write_9 : decode cX3_write 9 = .ok (.invokestatic 57, 3) := by decide +kernel
theorem dX3_write_12 : decode cX3_write 12 = .ok (.if_icmp .lt 13, 3) := by decide +kernel
theorem dX3_write_15 : decode cX3_write 15 = .ok (.new 61, 3) := by decide +kernel
theorem dX3_write_18 : decode cX3_write 18 = .ok (.dup, 1) := by decide +kernel
theorem dX3_write_19 : decode cX3_write 19 = .ok (.ldc 63, 2) := by decide +kernel
theorem dX3_write_21 : decode cX3_write 21 = .ok (.invokespecial 65, 3) := by decide +kernel
theorem dX3_write_24 : decode cX3_write 24 = .ok (.athrow, 1) := by decide +kernel
theorem dX3_write_25 : decode cX3_write 25 = .ok (.aload_n 0, 1) := by decide +kernel
theorem dX3_write_26 : decode cX3_write 26 = .ok (.invokevirtual 66, 3) := by decide +kernel
theorem dX3_write_29 : decode cX3_write 29 = .ok (.astore_n 2, 1) := by decide +kernel
theorem dX3_write_30 : decode cX3_write 30 = .ok (.aload_n 2, 1) := by decide +kernel
theorem dX3_write_31 : decode cX3_write 31 = .ok (.aload_n 0, 1) := by decide +kernel
theorem dX3_write_32 : decode cX3_write 32 = .ok (.getfield 37, 3) := by decide +kernel
theorem dX3_write_35 : decode cX3_write 35 = .ok (.iload_n 1, 1) := by decide +kernel
theorem dX3_write_36 : decode cX3_write 36 = .ok (.invokevirtual 70, 3) := by decide +kernel
theorem dX3_write_39 : decode cX3_write 39 = .ok (.aload_n 0, 1) := by decide +kernel
theorem dX3_write_40 : decode cX3_write 40 = .ok (.getfield 41, 3) := by decide +kernel
theorem dX3_write_43 : decode cX3_write 43 = .ok (.iconst 1, 1) := by decide +kernel
theorem dX3_write_44 : decode cX3_write 44 = .ok (.isub, 1) := by decide +kernel
theorem dX3_write_45 : decode cX3_write 45 = .ok (.ireturn, 1) := by decide +kernel
theorem dX3_swap_0 : decode cX3_swap 0 = .ok (.aload_n 0, 1) := by decide +kernel
theorem dX3_swap_1 : decode cX3_swap 1 = .ok (.iload_n 1, 1) := by decide +kernel
theorem dX3_swap_2 : decode cX3_swap 2 = .ok (.invokevirtual 74, 3) := by decide +kernel
theorem dX3_swap_5 : decode cX3_swap 5 = .ok (.astore_n 3, 1) := by decide +kernel
theorem dX3_swap_6 : decode cX3_swap 6 = .ok (.iload_n 2, 1) := by decide +kernel
theorem dX3_swap_7 : decode cX3_swap 7 = .ok (.ifCond .lt 13, 3) := by decide +kernel
theorem dX3_swap_10 : decode cX3_swap 10 = .ok (.iload_n 2, 1) := by decide +kernel
theorem dX3_swap_11 : decode cX3_swap 11 = .ok (.aload_n 0, 1) := by decide +kernel
theorem dX3_swap_12 : decode cX3_swap 12 = .ok (.getfield 37, 3) := by decide +kernel
theorem dX3_swap_15 : decode cX3_swap 15 = .ok (.iconst 2, 1) := by decide +kernel
theorem dX3_swap_16 : decode cX3_swap 16 = .ok (.isub, 1) := by decide +kernel
theorem dX3_swap_17 : decode cX3_swap 17 = .ok (.if_icmp .le 13, 3) := by decide +kernel
theorem dX3_swap_20 : decode cX3_swap 20 = .ok (.new 61, 3) := by decide +kernel
theorem dX3_swap_23 : decode cX3_swap 23 = .ok (.dup, 1) := by decide +kernel
theorem dX3_swap_24 : decode cX3_swap 24 = .ok (.ldc 78, 2) := by decide +kernel
theorem dX3_swap_26 : decode cX3_swap 26 = .ok (.invokespecial 65, 3) := by decide +kernel
theorem dX3_swap_29 : decode cX3_swap 29 = .ok (.athrow, 1) := by decide +kernel
theorem dX3_swap_30 : decode cX3_swap 30 = .ok (.aload_n 3, 1) := by decide +kernel
theorem dX3_swap_31 : decode cX3_swap 31 = .ok (.iload_n 2, 1) := by decide +kernel
theorem dX3_swap_32 : decode cX3_swap 32 = .ok (.invokevirtual 80, 3) := by decide +kernel
theorem dX3_swap_35 : decode cX3_swap 35 = .ok (.aload_n 3, 1) := by decide +kernel
theorem dX3_swap_36 : decode cX3_swap 36 = .ok (.invokevirtual 84, 3) := by decide +kernel
theorem dX3_swap_39 : decode cX3_swap 39 = .ok (.ireturn, 1) := by decide +kernel
theorem dX3_next_0 : decode cX3_next 0 = .ok (.aload_n 0, 1) := by decide +kernel
theorem dX3_next_1 : decode cX3_next 1 = .ok (.iload_n 1, 1) := by decide +kernel
theorem dX3_next_2 : decode cX3_next 2 = .ok (.invokevirtual 74, 3) := by decide +kernel
theorem dX3_next_5 : decode cX3_next 5 = .ok (.astore_n 2, 1) := by decide +kernel
theorem dX3_next_6 : decode cX3_next 6 = .ok (.aload_n 2, 1) := by decide +kernel
theorem dX3_next_7 : decode cX3_next 7 = .ok (.invokevirtual 84, 3) := by decide +kernel
theorem dX3_next_10 : decode cX3_next 10 = .ok (.iconst 1, 1) := by decide +kernel
theorem dX3_next_11 : decode cX3_next 11 = .ok (.iadd, 1) := by decide +kernel
theorem dX3_next_12 : decode cX3_next 12 = .ok (.istore_n 3, 1) := by decide +kernel
theorem dX3_next_13 : decode cX3_next 13 = .ok (.iload_n 3, 1) := by decide +kernel
theorem dX3_next_14 : decode cX3_next 14 = .ok (.aload_n 0, 1) := by decide +kernel
theorem dX3_next_15 : decode cX3_next 15 = .ok (.getfield 37, 3) := by decide +kernel
theorem dX3_next_18 : decode cX3_next 18 = .ok (.invokestatic 57, 3) := by decide +kernel
theorem dX3_next_21 : decode cX3_next 21 = .ok (.if_icmp .lt 5, 3) := by decide +kernel
theorem dX3_next_24 : decode cX3_next 24 = .ok (.iconst 0, 1) := by decide +kernel
theorem dX3_next_25 : decode cX3_next 25 = .ok (.istore_n 3, 1) := by decide +kernel
theorem dX3_next_26 : decode cX3_next 26 = .ok (.aload_n 2, 1) := by decide +kernel
theorem dX3_next_27 : decode cX3_next 27 = .ok (.aload_n 0, 1) := by decide +kernel
theorem dX3_next_28 : decode cX3_next 28 = .ok (.getfield 37, 3) := by decide +kernel
theorem dX3_next_31 : decode cX3_next 31 = .ok (.iload_n 3, 1) := by decide +kernel
theorem dX3_next_32 : decode cX3_next 32 = .ok (.invokevirtual 70, 3) := by decide +kernel
theorem dX3_next_35 : decode cX3_next 35 = .ok (.iload_n 3, 1) := by decide +kernel
theorem dX3_next_36 : decode cX3_next 36 = .ok (.ireturn, 1) := by decide +kernel
theorem dX3_behind_0 : decode cX3_behind 0 = .ok (.aload_n 0, 1) := by decide +kernel
theorem dX3_behind_1 : decode cX3_behind 1 = .ok (.iload_n 1, 1) := by decide +kernel
theorem dX3_behind_2 : decode cX3_behind 2 = .ok (.invokevirtual 74, 3) := by decide +kernel
theorem dX3_behind_5 : decode cX3_behind 5 = .ok (.astore_n 3, 1) := by decide +kernel
theorem dX3_behind_6 : decode cX3_behind 6 = .ok (.aload_n 0, 1) := by decide +kernel
theorem dX3_behind_7 : decode cX3_behind 7 = .ok (.iload_n 2, 1) := by decide +kernel
theorem dX3_behind_8 : decode cX3_behind 8 = .ok (.invokevirtual 74, 3) := by decide +kernel
theorem dX3_behind_11 : decode cX3_behind 11 = .ok (.astore 4, 2) := by decide +kernel
theorem dX3_behind_13 : decode cX3_behind 13 = .ok (.aload_n 0, 1) := by decide +kernel
theorem dX3_behind_14 : decode cX3_behind 14 = .ok (.invokevirtual 66, 3) := by decide +kernel
theorem dX3_behind_17 : decode cX3_behind 17 = .ok (.astore 5, 2) := by decide +kernel
theorem dX3_behind_19 : decode cX3_behind 19 = .ok (.aload 5, 2) := by decide +kernel
theorem dX3_behind_21 : decode cX3_behind 21 = .ok (.aload_n 3, 1) := by decide +kernel
theorem dX3_behind_22 : decode cX3_behind 22 = .ok (.aload 4, 2) := by decide +kernel
theorem dX3_behind_24 : decode cX3_behind 24 = .ok (.invokevirtual 88, 3) := by decide +kernel
theorem dX3_behind_27 : decode cX3_behind 27 = .ok (.aload_n 0, 1) := by decide +kernel
theorem dX3_behind_28 : decode cX3_behind 28 = .ok (.getfield 41, 3) := by decide +kernel
theorem dX3_behind_31 : decode cX3_behind 31 = .ok (.iconst 1, 1) := by decide +kernel
theorem dX3_behind_32 : decode cX3_behind 32 = .ok (.isub, 1) := by decide +kernel
theorem dX3_behind_33 : decode cX3_behind 33 = .ok (.ireturn, 1) := by decide +kernel
theorem dX3_back_0 : decode cX3_back 0 = .ok (.aload_n 0, 1) := by decide +kernel
theorem dX3_back_1 : decode cX3_back 1 = .ok (.iload_n 1, 1) := by decide +kernel
theorem dX3_back_2 : decode cX3_back 2 = .ok (.invokevirtual 74, 3) := by decide +kernel
theorem dX3_back_5 : decode cX3_back 5 = .ok (.astore_n 2, 1) := by decide +kernel
theorem dX3_back_6 : decode cX3_back 6 = .ok (.aload_n 0, 1) := by decide +kernel
theorem dX3_back_7 : decode cX3_back 7 = .ok (.getfield 27, 3) := by decide +kernel
theorem dX3_back_10 : decode cX3_back 10 = .ok (.aload_n 2, 1) := by decide +kernel
theorem dX3_back_11 : decode cX3_back 11 = .ok (.invokevirtual 92, 3) := by decide +kernel
theorem dX3_back_14 : decode cX3_back 14 = .ok (.aload_n 2, 1) := by decide +kernel
theorem dX3_back_15 : decode cX3_back 15 = .ok (.aload_n 0, 1) := by decide +kernel
theorem dX3_back_16 : decode cX3_back 16 = .ok (.getfield 27, 3) := by decide +kernel
theorem dX3_back_19 : decode cX3_back 19 = .ok (.invokevirtual 96, 3) := by decide +kernel
theorem dX3_back_22 : decode cX3_back 22 = .ok (.aload_n 2, 1) := by decide +kernel
theorem dX3_back_23 : decode cX3_back 23 = .ok (.invokevirtual 84, 3) := by decide +kernel
theorem dX3_back_26 : decode cX3_back 26 = .ok (.ireturn, 1) := by decide +kernel
theorem dX3_step_0 : decode cX3_step 0 = .ok (.iload_n 1, 1) := by decide +kernel
theorem dX3_step_1 : decode cX3_step 1 = .ok (.aload_n 0, 1) := by decide +kernel
theorem dX3_step_2 : decode cX3_step 2 = .ok (.getfield 37, 3) := by decide +kernel
theorem dX3_step_5 : decode cX3_step 5 = .ok (.invokestatic 105, 3) := by decide +kernel
theorem dX3_step_8 : decode cX3_step 8 = .ok (.ifCond .ne 13, 3) := by decide +kernel
theorem dX3_step_11 : decode cX3_step 11 = .ok (.new 47, 3) := by decide +kernel
theorem dX3_step_14 : decode cX3_step 14 = .ok (.dup, 1) := by decide +kernel
theorem dX3_step_15 : decode cX3_step 15 = .ok (.ldc 109, 2) := by decide +kernel
theorem dX3_step_17 : decode cX3_step 17 = .ok (.invokespecial 51, 3) := by decide +kernel
theorem dX3_step_20 : decode cX3_step 20 = .ok (.athrow, 1) := by decide +kernel
theorem dX3_step_21 : decode cX3_step 21 = .ok (.aload_n 0, 1) := by decide +kernel
theorem dX3_step_22 : decode cX3_step 22 = .ok (.getfield 19, 3) := by decide +kernel
theorem dX3_step_25 : decode cX3_step 25 = .ok (.invokevirtual 111, 3) := by decide +kernel
theorem dX3_step_28 : decode cX3_step 28 = .ok (.bipush 10, 2) := by decide +kernel
theorem dX3_step_30 : decode cX3_step 30 = .ok (.if_icmp .lt 13, 3) := by decide +kernel
theorem dX3_step_33 : decode cX3_step 33 = .ok (.new 114, 3) := by decide +kernel
theorem dX3_step_36 : decode cX3_step 36 = .ok (.dup, 1) := by decide +kernel
theorem dX3_step_37 : decode cX3_step 37 = .ok (.ldc 116, 2) := by decide +kernel
theorem dX3_step_39 : decode cX3_step 39 = .ok (.invokespecial 118, 3) := by decide +kernel
theorem dX3_step_42 : decode cX3_step 42 = .ok (.athrow, 1) := by decide +kernel
theorem dX3_step_43 : decode cX3_step 43 = .ok (.aload_n 0, 1) := by decide +kernel
theorem dX3_step_44 : decode cX3_step 44 = .ok (.getfield 19, 3) := by decide +kernel
theorem dX3_step_47 : decode cX3_step 47 = .ok (.iload_n 1, 1) := by decide +kernel
theorem dX3_step_48 : decode cX3_step 48 = .ok (.invokevirtual 119, 3) := by decide +kernel
theorem dX3_step_51 : decode cX3_step 51 = .ok (.aload_n 0, 1) := by decide +kernel
theorem dX3_step_52 : decode cX3_step 52 = .ok (.getfield 19, 3) := by decide +kernel
theorem dX3_step_55 : decode cX3_step 55 = .ok (.invokevirtual 111, 3) := by decide +kernel
theorem dX3_step_58 : decode cX3_step 58 = .ok (.ireturn, 1) := by decide +kernel
theorem dX3_ring_0 : decode cX3_ring 0 = .ok (.aload_n 0, 1) := by decide +kernel
theorem dX3_ring_1 : decode cX3_ring 1 = .ok (.iload_n 1, 1) := by decide +kernel
theorem dX3_ring_2 : decode cX3_ring 2 = .ok (.invokevirtual 74, 3) := by decide +kernel
theorem dX3_ring_5 : decode cX3_ring 5 = .ok (.astore_n 3, 1) := by decide +kernel
theorem dX3_ring_6 : decode cX3_ring 6 = .ok (.iload_n 2, 1) := by decide +kernel
theorem dX3_ring_7 : decode cX3_ring 7 = .ok (.invokestatic 122, 3) := by decide +kernel
theorem dX3_ring_10 : decode cX3_ring 10 = .ok (.aload_n 0, 1) := by decide +kernel
theorem dX3_ring_11 : decode cX3_ring 11 = .ok (.getfield 19, 3) := by decide +kernel
theorem dX3_ring_14 : decode cX3_ring 14 = .ok (.invokevirtual 111, 3) := by decide +kernel
theorem dX3_ring_17 : decode cX3_ring 17 = .ok (.ifCond .le 38, 3) := by decide +kernel
theorem dX3_ring_20 : decode cX3_ring 20 = .ok (.iconst 0, 1) := by decide +kernel
theorem dX3_ring_21 : decode cX3_ring 21 = .ok (.istore 4, 2) := by decide +kernel
theorem dX3_ring_23 : decode cX3_ring 23 = .ok (.iload 4, 2) := by decide +kernel
theorem dX3_ring_25 : decode cX3_ring 25 = .ok (.iload_n 2, 1) := by decide +kernel
theorem dX3_ring_26 : decode cX3_ring 26 = .ok (.if_icmp .ge 19, 3) := by decide +kernel
theorem dX3_ring_29 : decode cX3_ring 29 = .ok (.aload_n 0, 1) := by decide +kernel
theorem dX3_ring_30 : decode cX3_ring 30 = .ok (.getfield 19, 3) := by decide +kernel
theorem dX3_ring_33 : decode cX3_ring 33 = .ok (.aload_n 3, 1) := by decide +kernel
theorem dX3_ring_34 : decode cX3_ring 34 = .ok (.iload 4, 2) := by decide +kernel
theorem dX3_ring_36 : decode cX3_ring 36 = .ok (.invokevirtual 125, 3) := by decide +kernel
theorem dX3_ring_39 : decode cX3_ring 39 = .ok (.iinc 4 1, 3) := by decide +kernel
theorem dX3_ring_42 : decode cX3_ring 42 = .ok (.goto (-19), 3) := by decide +kernel
theorem dX3_ring_45 : decode cX3_ring 45 = .ok (.aload_n 0, 1) := by decide +kernel
theorem dX3_ring_46 : decode cX3_ring 46 = .ok (.dup, 1) := by decide +kernel
theorem dX3_ring_47 : decode cX3_ring 47 = .ok (.getfield 44, 3) := by decide +kernel
theorem dX3_ring_50 : decode cX3_ring 50 = .ok (.iload_n 2, 1) := by decide +kernel
theorem dX3_ring_51 : decode cX3_ring 51 = .ok (.iadd, 1) := by decide +kernel
theorem dX3_ring_52 : decode cX3_ring 52 = .ok (.putfield 44, 3) := by decide +kernel
theorem dX3_ring_55 : decode cX3_ring 55 = .ok (.aload_n 3, 1) := by decide +kernel
theorem dX3_ring_56 : decode cX3_ring 56 = .ok (.invokevirtual 84, 3) := by decide +kernel
theorem dX3_ring_59 : decode cX3_ring 59 = .ok (.ireturn, 1) := by decide +kernel
theorem dX3_bell_0 : decode cX3_bell 0 = .ok (.aload_n 0, 1) := by decide +kernel
theorem dX3_bell_1 : decode cX3_bell 1 = .ok (.iload_n 1, 1) := by decide +kernel
theorem dX3_bell_2 : decode cX3_bell 2 = .ok (.invokevirtual 74, 3) := by decide +kernel
theorem dX3_bell_5 : decode cX3_bell 5 = .ok (.astore_n 3, 1) := by decide +kernel
theorem dX3_bell_6 : decode cX3_bell 6 = .ok (.aload_n 0, 1) := by decide +kernel
theorem dX3_bell_7 : decode cX3_bell 7 = .ok (.iload_n 2, 1) := by decide +kernel
theorem dX3_bell_8 : decode cX3_bell 8 = .ok (.invokevirtual 128, 3) := by decide +kernel
theorem dX3_bell_11 : decode cX3_bell 11 = .ok (.aload_n 3, 1) := by decide +kernel
theorem dX3_bell_12 : decode cX3_bell 12 = .ok (.iload_n 2, 1) := by decide +kernel
theorem dX3_bell_13 : decode cX3_bell 13 = .ok (.invokevirtual 131, 3) := by decide +kernel
theorem dX3_bell_16 : decode cX3_bell 16 = .ok (.ireturn, 1) := by decide +kernel
theorem dX3_told_0 : decode cX3_told 0 = .ok (.aload_n 0, 1) := by decide +kernel
theorem dX3_told_1 : decode cX3_told 1 = .ok (.iload_n 1, 1) := by decide +kernel
theorem dX3_told_2 : decode cX3_told 2 = .ok (.invokevirtual 74, 3) := by decide +kernel
theorem dX3_told_5 : decode cX3_told 5 = .ok (.astore_n 3, 1) := by decide +kernel
theorem dX3_told_6 : decode cX3_told 6 = .ok (.iload_n 2, 1) := by decide +kernel
theorem dX3_told_7 : decode cX3_told 7 = .ok (.tableswitch 88 0 7 #[45, 50, 55, 62, 67, 72, 77, 82], 45) := by decide +kernel
theorem dX3_told_52 : decode cX3_told 52 = .ok (.aload_n 3, 1) := by decide +kernel
theorem dX3_told_53 : decode cX3_told 53 = .ok (.invokevirtual 84, 3) := by decide +kernel
theorem dX3_told_56 : decode cX3_told 56 = .ok (.ireturn, 1) := by decide +kernel
theorem dX3_told_57 : decode cX3_told 57 = .ok (.aload_n 3, 1) := by decide +kernel
theorem dX3_told_58 : decode cX3_told 58 = .ok (.invokevirtual 134, 3) := by decide +kernel
theorem dX3_told_61 : decode cX3_told 61 = .ok (.ireturn, 1) := by decide +kernel
theorem dX3_told_62 : decode cX3_told 62 = .ok (.aload_n 3, 1) := by decide +kernel
theorem dX3_told_63 : decode cX3_told 63 = .ok (.invokevirtual 134, 3) := by decide +kernel
theorem dX3_told_66 : decode cX3_told 66 = .ok (.iconst 1, 1) := by decide +kernel
theorem dX3_told_67 : decode cX3_told 67 = .ok (.iand, 1) := by decide +kernel
theorem dX3_told_68 : decode cX3_told 68 = .ok (.ireturn, 1) := by decide +kernel
theorem dX3_told_69 : decode cX3_told 69 = .ok (.aload_n 3, 1) := by decide +kernel
theorem dX3_told_70 : decode cX3_told 70 = .ok (.invokevirtual 137, 3) := by decide +kernel
theorem dX3_told_73 : decode cX3_told 73 = .ok (.ireturn, 1) := by decide +kernel
theorem dX3_told_74 : decode cX3_told 74 = .ok (.aload_n 3, 1) := by decide +kernel
theorem dX3_told_75 : decode cX3_told 75 = .ok (.invokevirtual 140, 3) := by decide +kernel
theorem dX3_told_78 : decode cX3_told 78 = .ok (.ireturn, 1) := by decide +kernel
theorem dX3_told_79 : decode cX3_told 79 = .ok (.aload_n 3, 1) := by decide +kernel
theorem dX3_told_80 : decode cX3_told 80 = .ok (.invokevirtual 143, 3) := by decide +kernel
theorem dX3_told_83 : decode cX3_told 83 = .ok (.ireturn, 1) := by decide +kernel
theorem dX3_told_84 : decode cX3_told 84 = .ok (.aload_n 3, 1) := by decide +kernel
theorem dX3_told_85 : decode cX3_told 85 = .ok (.invokevirtual 146, 3) := by decide +kernel
theorem dX3_told_88 : decode cX3_told 88 = .ok (.ireturn, 1) := by decide +kernel
theorem dX3_told_89 : decode cX3_told 89 = .ok (.aload_n 3, 1) := by decide +kernel
theorem dX3_told_90 : decode cX3_told 90 = .ok (.iconst 0, 1) := by decide +kernel
theorem dX3_told_91 : decode cX3_told 91 = .ok (.invokevirtual 149, 3) := by decide +kernel
theorem dX3_told_94 : decode cX3_told 94 = .ok (.ireturn, 1) := by decide +kernel
theorem dX3_told_95 : decode cX3_told 95 = .ok (.new 61, 3) := by decide +kernel
theorem dX3_told_98 : decode cX3_told 98 = .ok (.dup, 1) := by decide +kernel
theorem dX3_told_99 : decode cX3_told 99 = .ok (.ldc 152, 2) := by decide +kernel
theorem dX3_told_101 : decode cX3_told 101 = .ok (.invokespecial 65, 3) := by decide +kernel
theorem dX3_told_104 : decode cX3_told 104 = .ok (.athrow, 1) := by decide +kernel
theorem dX3_round_0 : decode cX3_round 0 = .ok (.aload_n 0, 1) := by decide +kernel
theorem dX3_round_1 : decode cX3_round 1 = .ok (.iload_n 1, 1) := by decide +kernel
theorem dX3_round_2 : decode cX3_round 2 = .ok (.invokevirtual 74, 3) := by decide +kernel
theorem dX3_round_5 : decode cX3_round 5 = .ok (.astore_n 3, 1) := by decide +kernel
theorem dX3_round_6 : decode cX3_round 6 = .ok (.aload_n 0, 1) := by decide +kernel
theorem dX3_round_7 : decode cX3_round 7 = .ok (.iload_n 2, 1) := by decide +kernel
theorem dX3_round_8 : decode cX3_round 8 = .ok (.invokevirtual 128, 3) := by decide +kernel
theorem dX3_round_11 : decode cX3_round 11 = .ok (.aload_n 3, 1) := by decide +kernel
theorem dX3_round_12 : decode cX3_round 12 = .ok (.iload_n 2, 1) := by decide +kernel
theorem dX3_round_13 : decode cX3_round 13 = .ok (.invokevirtual 154, 3) := by decide +kernel
theorem dX3_round_16 : decode cX3_round 16 = .ok (.ireturn, 1) := by decide +kernel
theorem dX3_apart_0 : decode cX3_apart 0 = .ok (.aload_n 0, 1) := by decide +kernel
theorem dX3_apart_1 : decode cX3_apart 1 = .ok (.iload_n 1, 1) := by decide +kernel
theorem dX3_apart_2 : decode cX3_apart 2 = .ok (.invokevirtual 74, 3) := by decide +kernel
theorem dX3_apart_5 : decode cX3_apart 5 = .ok (.astore_n 3, 1) := by decide +kernel
theorem dX3_apart_6 : decode cX3_apart 6 = .ok (.aload_n 0, 1) := by decide +kernel
theorem dX3_apart_7 : decode cX3_apart 7 = .ok (.iload_n 2, 1) := by decide +kernel
theorem dX3_apart_8 : decode cX3_apart 8 = .ok (.invokevirtual 74, 3) := by decide +kernel
theorem dX3_apart_11 : decode cX3_apart 11 = .ok (.astore 4, 2) := by decide +kernel
theorem dX3_apart_13 : decode cX3_apart 13 = .ok (.iconst 0, 1) := by decide +kernel
theorem dX3_apart_14 : decode cX3_apart 14 = .ok (.istore 5, 2) := by decide +kernel
theorem dX3_apart_16 : decode cX3_apart 16 = .ok (.iconst 0, 1) := by decide +kernel
theorem dX3_apart_17 : decode cX3_apart 17 = .ok (.istore 6, 2) := by decide +kernel
theorem dX3_apart_19 : decode cX3_apart 19 = .ok (.iload 6, 2) := by decide +kernel
theorem dX3_apart_21 : decode cX3_apart 21 = .ok (.aload_n 0, 1) := by decide +kernel
theorem dX3_apart_22 : decode cX3_apart 22 = .ok (.getfield 37, 3) := by decide +kernel
theorem dX3_apart_25 : decode cX3_apart 25 = .ok (.if_icmp .ge 58, 3) := by decide +kernel
theorem dX3_apart_28 : decode cX3_apart 28 = .ok (.iload 6, 2) := by decide +kernel
theorem dX3_apart_30 : decode cX3_apart 30 = .ok (.iconst 1, 1) := by decide +kernel
theorem dX3_apart_31 : decode cX3_apart 31 = .ok (.iadd, 1) := by decide +kernel
theorem dX3_apart_32 : decode cX3_apart 32 = .ok (.istore 7, 2) := by decide +kernel
theorem dX3_apart_34 : decode cX3_apart 34 = .ok (.iload 7, 2) := by decide +kernel
theorem dX3_apart_36 : decode cX3_apart 36 = .ok (.aload_n 0, 1) := by decide +kernel
theorem dX3_apart_37 : decode cX3_apart 37 = .ok (.getfield 37, 3) := by decide +kernel
theorem dX3_apart_40 : decode cX3_apart 40 = .ok (.if_icmp .ge 37, 3) := by decide +kernel
theorem dX3_apart_43 : decode cX3_apart 43 = .ok (.aload 4, 2) := by decide +kernel
theorem dX3_apart_45 : decode cX3_apart 45 = .ok (.aload_n 3, 1) := by decide +kernel
theorem dX3_apart_46 : decode cX3_apart 46 = .ok (.iload 6, 2) := by decide +kernel
theorem dX3_apart_48 : decode cX3_apart 48 = .ok (.invokevirtual 131, 3) := by decide +kernel
theorem dX3_apart_51 : decode cX3_apart 51 = .ok (.invokevirtual 149, 3) := by decide +kernel
theorem dX3_apart_54 : decode cX3_apart 54 = .ok (.aload 4, 2) := by decide +kernel
theorem dX3_apart_56 : decode cX3_apart 56 = .ok (.aload_n 3, 1) := by decide +kernel
theorem dX3_apart_57 : decode cX3_apart 57 = .ok (.iload 7, 2) := by decide +kernel
theorem dX3_apart_59 : decode cX3_apart 59 = .ok (.invokevirtual 131, 3) := by decide +kernel
theorem dX3_apart_62 : decode cX3_apart 62 = .ok (.invokevirtual 149, 3) := by decide +kernel
theorem dX3_apart_65 : decode cX3_apart 65 = .ok (.if_icmp .le 6, 3) := by decide +kernel
theorem dX3_apart_68 : decode cX3_apart 68 = .ok (.iinc 5 1, 3) := by decide +kernel
theorem dX3_apart_71 : decode cX3_apart 71 = .ok (.iinc 7 1, 3) := by decide +kernel
theorem dX3_apart_74 : decode cX3_apart 74 = .ok (.goto (-40), 3) := by decide +kernel
theorem dX3_apart_77 : decode cX3_apart 77 = .ok (.iinc 6 1, 3) := by decide +kernel
theorem dX3_apart_80 : decode cX3_apart 80 = .ok (.goto (-61), 3) := by decide +kernel
theorem dX3_apart_83 : decode cX3_apart 83 = .ok (.iload 5, 2) := by decide +kernel
theorem dX3_apart_85 : decode cX3_apart 85 = .ok (.ireturn, 1) := by decide +kernel
theorem dX3_count_0 : decode cX3_count 0 = .ok (.iload_n 1, 1) := by decide +kernel
theorem dX3_count_1 : decode cX3_count 1 = .ok (.tableswitch 75 0 5 #[39, 44, 52, 57, 62, 70], 39) := by decide +kernel
theorem dX3_count_40 : decode cX3_count 40 = .ok (.aload_n 0, 1) := by decide +kernel
theorem dX3_count_41 : decode cX3_count 41 = .ok (.getfield 37, 3) := by decide +kernel
theorem dX3_count_44 : decode cX3_count 44 = .ok (.ireturn, 1) := by decide +kernel
theorem dX3_count_45 : decode cX3_count 45 = .ok (.aload_n 0, 1) := by decide +kernel
theorem dX3_count_46 : decode cX3_count 46 = .ok (.getfield 37, 3) := by decide +kernel
theorem dX3_count_49 : decode cX3_count 49 = .ok (.invokestatic 57, 3) := by decide +kernel
theorem dX3_count_52 : decode cX3_count 52 = .ok (.ireturn, 1) := by decide +kernel
theorem dX3_count_53 : decode cX3_count 53 = .ok (.aload_n 0, 1) := by decide +kernel
theorem dX3_count_54 : decode cX3_count 54 = .ok (.getfield 41, 3) := by decide +kernel
theorem dX3_count_57 : decode cX3_count 57 = .ok (.ireturn, 1) := by decide +kernel
theorem dX3_count_58 : decode cX3_count 58 = .ok (.aload_n 0, 1) := by decide +kernel
theorem dX3_count_59 : decode cX3_count 59 = .ok (.invokevirtual 157, 3) := by decide +kernel
theorem dX3_count_62 : decode cX3_count 62 = .ok (.ireturn, 1) := by decide +kernel
theorem dX3_count_63 : decode cX3_count 63 = .ok (.aload_n 0, 1) := by decide +kernel
theorem dX3_count_64 : decode cX3_count 64 = .ok (.getfield 19, 3) := by decide +kernel
theorem dX3_count_67 : decode cX3_count 67 = .ok (.invokevirtual 111, 3) := by decide +kernel
theorem dX3_count_70 : decode cX3_count 70 = .ok (.ireturn, 1) := by decide +kernel
theorem dX3_count_71 : decode cX3_count 71 = .ok (.aload_n 0, 1) := by decide +kernel
theorem dX3_count_72 : decode cX3_count 72 = .ok (.getfield 44, 3) := by decide +kernel
theorem dX3_count_75 : decode cX3_count 75 = .ok (.ireturn, 1) := by decide +kernel
theorem dX3_count_76 : decode cX3_count 76 = .ok (.new 61, 3) := by decide +kernel
theorem dX3_count_79 : decode cX3_count 79 = .ok (.dup, 1) := by decide +kernel
theorem dX3_count_80 : decode cX3_count 80 = .ok (.ldc 160, 2) := by decide +kernel
theorem dX3_count_82 : decode cX3_count 82 = .ok (.invokespecial 65, 3) := by decide +kernel
theorem dX3_count_85 : decode cX3_count 85 = .ok (.athrow, 1) := by decide +kernel
theorem dX3_kept_0 : decode cX3_kept 0 = .ok (.iload_n 1, 1) := by decide +kernel
theorem dX3_kept_1 : decode cX3_kept 1 = .ok (.ifCond .lt 14, 3) := by decide +kernel
theorem dX3_kept_4 : decode cX3_kept 4 = .ok (.iload_n 1, 1) := by decide +kernel
theorem dX3_kept_5 : decode cX3_kept 5 = .ok (.aload_n 0, 1) := by decide +kernel
theorem dX3_kept_6 : decode cX3_kept 6 = .ok (.getfield 19, 3) := by decide +kernel
theorem dX3_kept_9 : decode cX3_kept 9 = .ok (.invokevirtual 111, 3) := by decide +kernel
theorem dX3_kept_12 : decode cX3_kept 12 = .ok (.if_icmp .lt 13, 3) := by decide +kernel
theorem dX3_kept_15 : decode cX3_kept 15 = .ok (.new 61, 3) := by decide +kernel
theorem dX3_kept_18 : decode cX3_kept 18 = .ok (.dup, 1) := by decide +kernel
theorem dX3_kept_19 : decode cX3_kept 19 = .ok (.ldc 162, 2) := by decide +kernel
theorem dX3_kept_21 : decode cX3_kept 21 = .ok (.invokespecial 65, 3) := by decide +kernel
theorem dX3_kept_24 : decode cX3_kept 24 = .ok (.athrow, 1) := by decide +kernel
theorem dX3_kept_25 : decode cX3_kept 25 = .ok (.aload_n 0, 1) := by decide +kernel
theorem dX3_kept_26 : decode cX3_kept 26 = .ok (.getfield 19, 3) := by decide +kernel
theorem dX3_kept_29 : decode cX3_kept 29 = .ok (.iload_n 1, 1) := by decide +kernel
theorem dX3_kept_30 : decode cX3_kept 30 = .ok (.invokevirtual 164, 3) := by decide +kernel
theorem dX3_kept_33 : decode cX3_kept 33 = .ok (.ireturn, 1) := by decide +kernel
theorem dX3_comes_0 : decode cX3_comes 0 = .ok (.aload_n 0, 1) := by decide +kernel
theorem dX3_comes_1 : decode cX3_comes 1 = .ok (.iload_n 1, 1) := by decide +kernel
theorem dX3_comes_2 : decode cX3_comes 2 = .ok (.invokevirtual 74, 3) := by decide +kernel
theorem dX3_comes_5 : decode cX3_comes 5 = .ok (.astore_n 2, 1) := by decide +kernel
theorem dX3_comes_6 : decode cX3_comes 6 = .ok (.aload_n 0, 1) := by decide +kernel
theorem dX3_comes_7 : decode cX3_comes 7 = .ok (.getfield 19, 3) := by decide +kernel
theorem dX3_comes_10 : decode cX3_comes 10 = .ok (.invokevirtual 111, 3) := by decide +kernel
theorem dX3_comes_13 : decode cX3_comes 13 = .ok (.ifCond .ne 5, 3) := by decide +kernel
theorem dX3_comes_16 : decode cX3_comes 16 = .ok (.iconst (-1), 1) := by decide +kernel
theorem dX3_comes_17 : decode cX3_comes 17 = .ok (.ireturn, 1) := by decide +kernel
theorem dX3_comes_18 : decode cX3_comes 18 = .ok (.aload_n 0, 1) := by decide +kernel
theorem dX3_comes_19 : decode cX3_comes 19 = .ok (.getfield 23, 3) := by decide +kernel
theorem dX3_comes_22 : decode cX3_comes 22 = .ok (.aload_n 2, 1) := by decide +kernel
theorem dX3_comes_23 : decode cX3_comes 23 = .ok (.invokevirtual 96, 3) := by decide +kernel
theorem dX3_comes_26 : decode cX3_comes 26 = .ok (.iconst 1, 1) := by decide +kernel
theorem dX3_comes_27 : decode cX3_comes 27 = .ok (.istore_n 3, 1) := by decide +kernel
theorem dX3_comes_28 : decode cX3_comes 28 = .ok (.iload_n 3, 1) := by decide +kernel
theorem dX3_comes_29 : decode cX3_comes 29 = .ok (.sipush 400, 3) := by decide +kernel
theorem dX3_comes_32 : decode cX3_comes 32 = .ok (.if_icmp .gt 36, 3) := by decide +kernel
theorem dX3_comes_35 : decode cX3_comes 35 = .ok (.aload_n 0, 1) := by decide +kernel
theorem dX3_comes_36 : decode cX3_comes 36 = .ok (.getfield 19, 3) := by decide +kernel
theorem dX3_comes_39 : decode cX3_comes 39 = .ok (.aload_n 0, 1) := by decide +kernel
theorem dX3_comes_40 : decode cX3_comes 40 = .ok (.getfield 23, 3) := by decide +kernel
theorem dX3_comes_43 : decode cX3_comes 43 = .ok (.iload_n 3, 1) := by decide +kernel
theorem dX3_comes_44 : decode cX3_comes 44 = .ok (.iconst 1, 1) := by decide +kernel
theorem dX3_comes_45 : decode cX3_comes 45 = .ok (.isub, 1) := by decide +kernel
theorem dX3_comes_46 : decode cX3_comes 46 = .ok (.invokevirtual 125, 3) := by decide +kernel
theorem dX3_comes_49 : decode cX3_comes 49 = .ok (.aload_n 0, 1) := by decide +kernel
theorem dX3_comes_50 : decode cX3_comes 50 = .ok (.getfield 23, 3) := by decide +kernel
theorem dX3_comes_53 : decode cX3_comes 53 = .ok (.aload_n 2, 1) := by decide +kernel
theorem dX3_comes_54 : decode cX3_comes 54 = .ok (.invokevirtual 167, 3) := by decide +kernel
theorem dX3_comes_57 : decode cX3_comes 57 = .ok (.ifCond .eq 5, 3) := by decide +kernel
theorem dX3_comes_60 : decode cX3_comes 60 = .ok (.iload_n 3, 1) := by decide +kernel
theorem dX3_comes_61 : decode cX3_comes 61 = .ok (.ireturn, 1) := by decide +kernel
theorem dX3_comes_62 : decode cX3_comes 62 = .ok (.iinc 3 1, 3) := by decide +kernel
theorem dX3_comes_65 : decode cX3_comes 65 = .ok (.goto (-37), 3) := by decide +kernel
theorem dX3_comes_68 : decode cX3_comes 68 = .ok (.iconst (-1), 1) := by decide +kernel
theorem dX3_comes_69 : decode cX3_comes 69 = .ok (.ireturn, 1) := by decide +kernel
theorem dX3_differ_0 : decode cX3_differ 0 = .ok (.iload_n 1, 1) := by decide +kernel
theorem dX3_differ_1 : decode cX3_differ 1 = .ok (.invokestatic 122, 3) := by decide +kernel
theorem dX3_differ_4 : decode cX3_differ 4 = .ok (.aload_n 0, 1) := by decide +kernel
theorem dX3_differ_5 : decode cX3_differ 5 = .ok (.getfield 23, 3) := by decide +kernel
theorem dX3_differ_8 : decode cX3_differ 8 = .ok (.aload_n 0, 1) := by decide +kernel
theorem dX3_differ_9 : decode cX3_differ 9 = .ok (.getfield 37, 3) := by decide +kernel
theorem dX3_differ_12 : decode cX3_differ 12 = .ok (.iconst 0, 1) := by decide +kernel
theorem dX3_differ_13 : decode cX3_differ 13 = .ok (.invokevirtual 70, 3) := by decide +kernel
theorem dX3_differ_16 : decode cX3_differ 16 = .ok (.aload_n 0, 1) := by decide +kernel
theorem dX3_differ_17 : decode cX3_differ 17 = .ok (.getfield 33, 3) := by decide +kernel
theorem dX3_differ_20 : decode cX3_differ 20 = .ok (.invokevirtual 171, 3) := by decide +kernel
theorem dX3_differ_23 : decode cX3_differ 23 = .ok (.aload_n 0, 1) := by decide +kernel
theorem dX3_differ_24 : decode cX3_differ 24 = .ok (.getfield 33, 3) := by decide +kernel
theorem dX3_differ_27 : decode cX3_differ 27 = .ok (.aload_n 0, 1) := by decide +kernel
theorem dX3_differ_28 : decode cX3_differ 28 = .ok (.getfield 23, 3) := by decide +kernel
theorem dX3_differ_31 : decode cX3_differ 31 = .ok (.invokevirtual 84, 3) := by decide +kernel
theorem dX3_differ_34 : decode cX3_differ 34 = .ok (.invokevirtual 172, 3) := by decide +kernel
theorem dX3_differ_37 : decode cX3_differ 37 = .ok (.aload_n 0, 1) := by decide +kernel
theorem dX3_differ_38 : decode cX3_differ 38 = .ok (.getfield 19, 3) := by decide +kernel
theorem dX3_differ_41 : decode cX3_differ 41 = .ok (.invokevirtual 111, 3) := by decide +kernel
theorem dX3_differ_44 : decode cX3_differ 44 = .ok (.ifCond .le 42, 3) := by decide +kernel
theorem dX3_differ_47 : decode cX3_differ 47 = .ok (.iconst 0, 1) := by decide +kernel
theorem dX3_differ_48 : decode cX3_differ 48 = .ok (.istore_n 2, 1) := by decide +kernel
theorem dX3_differ_49 : decode cX3_differ 49 = .ok (.iload_n 2, 1) := by decide +kernel
theorem dX3_differ_50 : decode cX3_differ 50 = .ok (.iload_n 1, 1) := by decide +kernel
theorem dX3_differ_51 : decode cX3_differ 51 = .ok (.if_icmp .ge 35, 3) := by decide +kernel
theorem dX3_differ_54 : decode cX3_differ 54 = .ok (.aload_n 0, 1) := by decide +kernel
theorem dX3_differ_55 : decode cX3_differ 55 = .ok (.getfield 19, 3) := by decide +kernel
theorem dX3_differ_58 : decode cX3_differ 58 = .ok (.aload_n 0, 1) := by decide +kernel
theorem dX3_differ_59 : decode cX3_differ 59 = .ok (.getfield 23, 3) := by decide +kernel
theorem dX3_differ_62 : decode cX3_differ 62 = .ok (.iload_n 2, 1) := by decide +kernel
theorem dX3_differ_63 : decode cX3_differ 63 = .ok (.invokevirtual 125, 3) := by decide +kernel
theorem dX3_differ_66 : decode cX3_differ 66 = .ok (.aload_n 0, 1) := by decide +kernel
theorem dX3_differ_67 : decode cX3_differ 67 = .ok (.getfield 33, 3) := by decide +kernel
theorem dX3_differ_70 : decode cX3_differ 70 = .ok (.aload_n 0, 1) := by decide +kernel
theorem dX3_differ_71 : decode cX3_differ 71 = .ok (.getfield 23, 3) := by decide +kernel
theorem dX3_differ_74 : decode cX3_differ 74 = .ok (.invokevirtual 84, 3) := by decide +kernel
theorem dX3_differ_77 : decode cX3_differ 77 = .ok (.invokevirtual 172, 3) := by decide +kernel
theorem dX3_differ_80 : decode cX3_differ 80 = .ok (.iinc 2 1, 3) := by decide +kernel
theorem dX3_differ_83 : decode cX3_differ 83 = .ok (.goto (-34), 3) := by decide +kernel
theorem dX3_differ_86 : decode cX3_differ 86 = .ok (.aload_n 0, 1) := by decide +kernel
theorem dX3_differ_87 : decode cX3_differ 87 = .ok (.getfield 33, 3) := by decide +kernel
theorem dX3_differ_90 : decode cX3_differ 90 = .ok (.invokevirtual 173, 3) := by decide +kernel
theorem dX3_differ_93 : decode cX3_differ 93 = .ok (.ireturn, 1) := by decide +kernel
theorem dX3_advise_0 : decode cX3_advise 0 = .ok (.aload_n 0, 1) := by decide +kernel
theorem dX3_advise_1 : decode cX3_advise 1 = .ok (.iload_n 1, 1) := by decide +kernel
theorem dX3_advise_2 : decode cX3_advise 2 = .ok (.invokevirtual 74, 3) := by decide +kernel
theorem dX3_advise_5 : decode cX3_advise 5 = .ok (.astore_n 2, 1) := by decide +kernel
theorem dX3_advise_6 : decode cX3_advise 6 = .ok (.iconst 0, 1) := by decide +kernel
theorem dX3_advise_7 : decode cX3_advise 7 = .ok (.istore_n 3, 1) := by decide +kernel
theorem dX3_advise_8 : decode cX3_advise 8 = .ok (.iconst 0, 1) := by decide +kernel
theorem dX3_advise_9 : decode cX3_advise 9 = .ok (.istore 4, 2) := by decide +kernel
theorem dX3_advise_11 : decode cX3_advise 11 = .ok (.iconst 0, 1) := by decide +kernel
theorem dX3_advise_12 : decode cX3_advise 12 = .ok (.istore 5, 2) := by decide +kernel
theorem dX3_advise_14 : decode cX3_advise 14 = .ok (.iload 5, 2) := by decide +kernel
theorem dX3_advise_16 : decode cX3_advise 16 = .ok (.aload_n 0, 1) := by decide +kernel
theorem dX3_advise_17 : decode cX3_advise 17 = .ok (.getfield 41, 3) := by decide +kernel
theorem dX3_advise_20 : decode cX3_advise 20 = .ok (.if_icmp .ge 52, 3) := by decide +kernel
theorem dX3_advise_23 : decode cX3_advise 23 = .ok (.aload_n 0, 1) := by decide +kernel
theorem dX3_advise_24 : decode cX3_advise 24 = .ok (.getfield 27, 3) := by decide +kernel
theorem dX3_advise_27 : decode cX3_advise 27 = .ok (.aload_n 2, 1) := by decide +kernel
theorem dX3_advise_28 : decode cX3_advise 28 = .ok (.aload_n 0, 1) := by decide +kernel
theorem dX3_advise_29 : decode cX3_advise 29 = .ok (.getfield 11, 3) := by decide +kernel
theorem dX3_advise_32 : decode cX3_advise 32 = .ok (.iload 5, 2) := by decide +kernel
theorem dX3_advise_34 : decode cX3_advise 34 = .ok (.aaload, 1) := by decide +kernel
theorem dX3_advise_35 : decode cX3_advise 35 = .ok (.invokevirtual 88, 3) := by decide +kernel
theorem dX3_advise_38 : decode cX3_advise 38 = .ok (.aload_n 0, 1) := by decide +kernel
theorem dX3_advise_39 : decode cX3_advise 39 = .ok (.getfield 27, 3) := by decide +kernel
theorem dX3_advise_42 : decode cX3_advise 42 = .ok (.invokevirtual 134, 3) := by decide +kernel
theorem dX3_advise_45 : decode cX3_advise 45 = .ok (.istore 6, 2) := by decide +kernel
theorem dX3_advise_47 : decode cX3_advise 47 = .ok (.iload 5, 2) := by decide +kernel
theorem dX3_advise_49 : decode cX3_advise 49 = .ok (.ifCond .eq 10, 3) := by decide +kernel
theorem dX3_advise_52 : decode cX3_advise 52 = .ok (.iload 6, 2) := by decide +kernel
theorem dX3_advise_54 : decode cX3_advise 54 = .ok (.iload 4, 2) := by decide +kernel
theorem dX3_advise_56 : decode cX3_advise 56 = .ok (.if_icmp .ge 10, 3) := by decide +kernel
theorem dX3_advise_59 : decode cX3_advise 59 = .ok (.iload 6, 2) := by decide +kernel
theorem dX3_advise_61 : decode cX3_advise 61 = .ok (.istore 4, 2) := by decide +kernel
theorem dX3_advise_63 : decode cX3_advise 63 = .ok (.iload 5, 2) := by decide +kernel
theorem dX3_advise_65 : decode cX3_advise 65 = .ok (.istore_n 3, 1) := by decide +kernel
theorem dX3_advise_66 : decode cX3_advise 66 = .ok (.iinc 5 1, 3) := by decide +kernel
theorem dX3_advise_69 : decode cX3_advise 69 = .ok (.goto (-55), 3) := by decide +kernel
theorem dX3_advise_72 : decode cX3_advise 72 = .ok (.iload_n 3, 1) := by decide +kernel
theorem dX3_advise_73 : decode cX3_advise 73 = .ok (.ireturn, 1) := by decide +kernel
theorem dX3_digest_0 : decode cX3_digest 0 = .ok (.ldc2_w 176, 3) := by decide +kernel
theorem dX3_digest_3 : decode cX3_digest 3 = .ok (.lstore_n 1, 1) := by decide +kernel
theorem dX3_digest_4 : decode cX3_digest 4 = .ok (.iconst 0, 1) := by decide +kernel
theorem dX3_digest_5 : decode cX3_digest 5 = .ok (.istore_n 3, 1) := by decide +kernel
theorem dX3_digest_6 : decode cX3_digest 6 = .ok (.iload_n 3, 1) := by decide +kernel
theorem dX3_digest_7 : decode cX3_digest 7 = .ok (.bipush 6, 2) := by decide +kernel
theorem dX3_digest_9 : decode cX3_digest 9 = .ok (.if_icmp .ge 22, 3) := by decide +kernel
theorem dX3_digest_12 : decode cX3_digest 12 = .ok (.lload_n 1, 1) := by decide +kernel
theorem dX3_digest_13 : decode cX3_digest 13 = .ok (.ldc2_w 178, 3) := by decide +kernel
theorem dX3_digest_16 : decode cX3_digest 16 = .ok (.lmul, 1) := by decide +kernel
theorem dX3_digest_17 : decode cX3_digest 17 = .ok (.aload_n 0, 1) := by decide +kernel
theorem dX3_digest_18 : decode cX3_digest 18 = .ok (.iload_n 3, 1) := by decide +kernel
theorem dX3_digest_19 : decode cX3_digest 19 = .ok (.invokevirtual 180, 3) := by decide +kernel
theorem dX3_digest_22 : decode cX3_digest 22 = .ok (.i2l, 1) := by decide +kernel
theorem dX3_digest_23 : decode cX3_digest 23 = .ok (.ladd, 1) := by decide +kernel
theorem dX3_digest_24 : decode cX3_digest 24 = .ok (.lstore_n 1, 1) := by decide +kernel
theorem dX3_digest_25 : decode cX3_digest 25 = .ok (.iinc 3 1, 3) := by decide +kernel
theorem dX3_digest_28 : decode cX3_digest 28 = .ok (.goto (-22), 3) := by decide +kernel
theorem dX3_digest_31 : decode cX3_digest 31 = .ok (.iconst 0, 1) := by decide +kernel
theorem dX3_digest_32 : decode cX3_digest 32 = .ok (.istore_n 3, 1) := by decide +kernel
theorem dX3_digest_33 : decode cX3_digest 33 = .ok (.iload_n 3, 1) := by decide +kernel
theorem dX3_digest_34 : decode cX3_digest 34 = .ok (.aload_n 0, 1) := by decide +kernel
theorem dX3_digest_35 : decode cX3_digest 35 = .ok (.getfield 41, 3) := by decide +kernel
theorem dX3_digest_38 : decode cX3_digest 38 = .ok (.if_icmp .ge 73, 3) := by decide +kernel
theorem dX3_digest_41 : decode cX3_digest 41 = .ok (.iconst 0, 1) := by decide +kernel
theorem dX3_digest_42 : decode cX3_digest 42 = .ok (.istore 4, 2) := by decide +kernel
theorem dX3_digest_44 : decode cX3_digest 44 = .ok (.iload 4, 2) := by decide +kernel
theorem dX3_digest_46 : decode cX3_digest 46 = .ok (.bipush 8, 2) := by decide +kernel
theorem dX3_digest_48 : decode cX3_digest 48 = .ok (.if_icmp .ge 24, 3) := by decide +kernel
theorem dX3_digest_51 : decode cX3_digest 51 = .ok (.lload_n 1, 1) := by decide +kernel
theorem dX3_digest_52 : decode cX3_digest 52 = .ok (.ldc2_w 178, 3) := by decide +kernel
theorem dX3_digest_55 : decode cX3_digest 55 = .ok (.lmul, 1) := by decide +kernel
theorem dX3_digest_56 : decode cX3_digest 56 = .ok (.aload_n 0, 1) := by decide +kernel
theorem dX3_digest_57 : decode cX3_digest 57 = .ok (.iload_n 3, 1) := by decide +kernel
theorem dX3_digest_58 : decode cX3_digest 58 = .ok (.iload 4, 2) := by decide +kernel
theorem dX3_digest_60 : decode cX3_digest 60 = .ok (.invokevirtual 183, 3) := by decide +kernel
theorem dX3_digest_63 : decode cX3_digest 63 = .ok (.i2l, 1) := by decide +kernel
theorem dX3_digest_64 : decode cX3_digest 64 = .ok (.ladd, 1) := by decide +kernel
theorem dX3_digest_65 : decode cX3_digest 65 = .ok (.lstore_n 1, 1) := by decide +kernel
theorem dX3_digest_66 : decode cX3_digest 66 = .ok (.iinc 4 1, 3) := by decide +kernel
theorem dX3_digest_69 : decode cX3_digest 69 = .ok (.goto (-25), 3) := by decide +kernel
theorem dX3_digest_72 : decode cX3_digest 72 = .ok (.iconst 0, 1) := by decide +kernel
theorem dX3_digest_73 : decode cX3_digest 73 = .ok (.istore 4, 2) := by decide +kernel
theorem dX3_digest_75 : decode cX3_digest 75 = .ok (.iload 4, 2) := by decide +kernel
theorem dX3_digest_77 : decode cX3_digest 77 = .ok (.aload_n 0, 1) := by decide +kernel
theorem dX3_digest_78 : decode cX3_digest 78 = .ok (.getfield 37, 3) := by decide +kernel
theorem dX3_digest_81 : decode cX3_digest 81 = .ok (.if_icmp .ge 24, 3) := by decide +kernel
theorem dX3_digest_84 : decode cX3_digest 84 = .ok (.lload_n 1, 1) := by decide +kernel
theorem dX3_digest_85 : decode cX3_digest 85 = .ok (.ldc2_w 178, 3) := by decide +kernel
theorem dX3_digest_88 : decode cX3_digest 88 = .ok (.lmul, 1) := by decide +kernel
theorem dX3_digest_89 : decode cX3_digest 89 = .ok (.aload_n 0, 1) := by decide +kernel
theorem dX3_digest_90 : decode cX3_digest 90 = .ok (.iload_n 3, 1) := by decide +kernel
theorem dX3_digest_91 : decode cX3_digest 91 = .ok (.iload 4, 2) := by decide +kernel
theorem dX3_digest_93 : decode cX3_digest 93 = .ok (.invokevirtual 187, 3) := by decide +kernel
theorem dX3_digest_96 : decode cX3_digest 96 = .ok (.i2l, 1) := by decide +kernel
theorem dX3_digest_97 : decode cX3_digest 97 = .ok (.ladd, 1) := by decide +kernel
theorem dX3_digest_98 : decode cX3_digest 98 = .ok (.lstore_n 1, 1) := by decide +kernel
theorem dX3_digest_99 : decode cX3_digest 99 = .ok (.iinc 4 1, 3) := by decide +kernel
theorem dX3_digest_102 : decode cX3_digest 102 = .ok (.goto (-27), 3) := by decide +kernel
theorem dX3_digest_105 : decode cX3_digest 105 = .ok (.iinc 3 1, 3) := by decide +kernel
theorem dX3_digest_108 : decode cX3_digest 108 = .ok (.goto (-75), 3) := by decide +kernel
theorem dX3_digest_111 : decode cX3_digest 111 = .ok (.iconst 0, 1) := by decide +kernel
theorem dX3_digest_112 : decode cX3_digest 112 = .ok (.istore_n 3, 1) := by decide +kernel
theorem dX3_digest_113 : decode cX3_digest 113 = .ok (.iload_n 3, 1) := by decide +kernel
theorem dX3_digest_114 : decode cX3_digest 114 = .ok (.aload_n 0, 1) := by decide +kernel
theorem dX3_digest_115 : decode cX3_digest 115 = .ok (.getfield 19, 3) := by decide +kernel
theorem dX3_digest_118 : decode cX3_digest 118 = .ok (.invokevirtual 111, 3) := by decide +kernel
theorem dX3_digest_121 : decode cX3_digest 121 = .ok (.if_icmp .ge 22, 3) := by decide +kernel
theorem dX3_digest_124 : decode cX3_digest 124 = .ok (.lload_n 1, 1) := by decide +kernel
theorem dX3_digest_125 : decode cX3_digest 125 = .ok (.ldc2_w 178, 3) := by decide +kernel
theorem dX3_digest_128 : decode cX3_digest 128 = .ok (.lmul, 1) := by decide +kernel
theorem dX3_digest_129 : decode cX3_digest 129 = .ok (.aload_n 0, 1) := by decide +kernel
theorem dX3_digest_130 : decode cX3_digest 130 = .ok (.iload_n 3, 1) := by decide +kernel
theorem dX3_digest_131 : decode cX3_digest 131 = .ok (.invokevirtual 190, 3) := by decide +kernel
theorem dX3_digest_134 : decode cX3_digest 134 = .ok (.i2l, 1) := by decide +kernel
theorem dX3_digest_135 : decode cX3_digest 135 = .ok (.ladd, 1) := by decide +kernel
theorem dX3_digest_136 : decode cX3_digest 136 = .ok (.lstore_n 1, 1) := by decide +kernel
theorem dX3_digest_137 : decode cX3_digest 137 = .ok (.iinc 3 1, 3) := by decide +kernel
theorem dX3_digest_140 : decode cX3_digest 140 = .ok (.goto (-27), 3) := by decide +kernel
theorem dX3_digest_143 : decode cX3_digest 143 = .ok (.lload_n 1, 1) := by decide +kernel
theorem dX3_digest_144 : decode cX3_digest 144 = .ok (.lreturn, 1) := by decide +kernel
theorem dX3_find_0 : decode cX3_find 0 = .ok (.iload_n 1, 1) := by decide +kernel
theorem dX3_find_1 : decode cX3_find 1 = .ok (.ifCond .lt 11, 3) := by decide +kernel
theorem dX3_find_4 : decode cX3_find 4 = .ok (.iload_n 1, 1) := by decide +kernel
theorem dX3_find_5 : decode cX3_find 5 = .ok (.aload_n 0, 1) := by decide +kernel
theorem dX3_find_6 : decode cX3_find 6 = .ok (.getfield 41, 3) := by decide +kernel
theorem dX3_find_9 : decode cX3_find 9 = .ok (.if_icmp .lt 13, 3) := by decide +kernel
theorem dX3_find_12 : decode cX3_find 12 = .ok (.new 61, 3) := by decide +kernel
theorem dX3_find_15 : decode cX3_find 15 = .ok (.dup, 1) := by decide +kernel
theorem dX3_find_16 : decode cX3_find 16 = .ok (.ldc 193, 2) := by decide +kernel
theorem dX3_find_18 : decode cX3_find 18 = .ok (.invokespecial 65, 3) := by decide +kernel
theorem dX3_find_21 : decode cX3_find 21 = .ok (.athrow, 1) := by decide +kernel
theorem dX3_find_22 : decode cX3_find 22 = .ok (.aload_n 0, 1) := by decide +kernel
theorem dX3_find_23 : decode cX3_find 23 = .ok (.getfield 11, 3) := by decide +kernel
theorem dX3_find_26 : decode cX3_find 26 = .ok (.iload_n 1, 1) := by decide +kernel
theorem dX3_find_27 : decode cX3_find 27 = .ok (.aaload, 1) := by decide +kernel
theorem dX3_find_28 : decode cX3_find 28 = .ok (.areturn, 1) := by decide +kernel
theorem dX3_openPage_0 : decode cX3_openPage 0 = .ok (.aload_n 0, 1) := by decide +kernel
theorem dX3_openPage_1 : decode cX3_openPage 1 = .ok (.getfield 41, 3) := by decide +kernel
theorem dX3_openPage_4 : decode cX3_openPage 4 = .ok (.aload_n 0, 1) := by decide +kernel
theorem dX3_openPage_5 : decode cX3_openPage 5 = .ok (.getfield 11, 3) := by decide +kernel
theorem dX3_openPage_8 : decode cX3_openPage 8 = .ok (.arraylength, 1) := by decide +kernel
theorem dX3_openPage_9 : decode cX3_openPage 9 = .ok (.if_icmp .lt 13, 3) := by decide +kernel
theorem dX3_openPage_12 : decode cX3_openPage 12 = .ok (.new 114, 3) := by decide +kernel
theorem dX3_openPage_15 : decode cX3_openPage 15 = .ok (.dup, 1) := by decide +kernel
theorem dX3_openPage_16 : decode cX3_openPage 16 = .ok (.ldc 195, 2) := by decide +kernel
theorem dX3_openPage_18 : decode cX3_openPage 18 = .ok (.invokespecial 118, 3) := by decide +kernel
theorem dX3_openPage_21 : decode cX3_openPage 21 = .ok (.athrow, 1) := by decide +kernel
theorem dX3_openPage_22 : decode cX3_openPage 22 = .ok (.aload_n 0, 1) := by decide +kernel
theorem dX3_openPage_23 : decode cX3_openPage 23 = .ok (.getfield 11, 3) := by decide +kernel
theorem dX3_openPage_26 : decode cX3_openPage 26 = .ok (.aload_n 0, 1) := by decide +kernel
theorem dX3_openPage_27 : decode cX3_openPage 27 = .ok (.getfield 41, 3) := by decide +kernel
theorem dX3_openPage_30 : decode cX3_openPage 30 = .ok (.aaload, 1) := by decide +kernel
theorem dX3_openPage_31 : decode cX3_openPage 31 = .ok (.astore_n 1, 1) := by decide +kernel
theorem dX3_openPage_32 : decode cX3_openPage 32 = .ok (.aload_n 0, 1) := by decide +kernel
theorem dX3_openPage_33 : decode cX3_openPage 33 = .ok (.dup, 1) := by decide +kernel
theorem dX3_openPage_34 : decode cX3_openPage 34 = .ok (.getfield 41, 3) := by decide +kernel
theorem dX3_openPage_37 : decode cX3_openPage 37 = .ok (.iconst 1, 1) := by decide +kernel
theorem dX3_openPage_38 : decode cX3_openPage 38 = .ok (.iadd, 1) := by decide +kernel
theorem dX3_openPage_39 : decode cX3_openPage 39 = .ok (.putfield 41, 3) := by decide +kernel
theorem dX3_openPage_42 : decode cX3_openPage 42 = .ok (.aload_n 1, 1) := by decide +kernel
theorem dX3_openPage_43 : decode cX3_openPage 43 = .ok (.areturn, 1) := by decide +kernel
theorem dX3_checkPlace_0 : decode cX3_checkPlace 0 = .ok (.iload_n 1, 1) := by decide +kernel
theorem dX3_checkPlace_1 : decode cX3_checkPlace 1 = .ok (.ifCond .lt 11, 3) := by decide +kernel
theorem dX3_checkPlace_4 : decode cX3_checkPlace 4 = .ok (.iload_n 1, 1) := by decide +kernel
theorem dX3_checkPlace_5 : decode cX3_checkPlace 5 = .ok (.aload_n 0, 1) := by decide +kernel
theorem dX3_checkPlace_6 : decode cX3_checkPlace 6 = .ok (.getfield 37, 3) := by decide +kernel
theorem dX3_checkPlace_9 : decode cX3_checkPlace 9 = .ok (.if_icmp .lt 13, 3) := by decide +kernel
theorem dX3_checkPlace_12 : decode cX3_checkPlace 12 = .ok (.new 61, 3) := by decide +kernel
theorem dX3_checkPlace_15 : decode cX3_checkPlace 15 = .ok (.dup, 1) := by decide +kernel
theorem dX3_checkPlace_16 : decode cX3_checkPlace 16 = .ok (.ldc 197, 2) := by decide +kernel
theorem dX3_checkPlace_18 : decode cX3_checkPlace 18 = .ok (.invokespecial 65, 3) := by decide +kernel
theorem dX3_checkPlace_21 : decode cX3_checkPlace 21 = .ok (.athrow, 1) := by decide +kernel
theorem dX3_checkPlace_22 : decode cX3_checkPlace 22 = .ok (.return_, 1) := by decide +kernel
theorem dX3_checkSteps_0 : decode cX3_checkSteps 0 = .ok (.iload_n 0, 1) := by decide +kernel
theorem dX3_checkSteps_1 : decode cX3_checkSteps 1 = .ok (.iconst 1, 1) := by decide +kernel
theorem dX3_checkSteps_2 : decode cX3_checkSteps 2 = .ok (.if_icmp .lt 10, 3) := by decide +kernel
theorem dX3_checkSteps_5 : decode cX3_checkSteps 5 = .ok (.iload_n 0, 1) := by decide +kernel
theorem dX3_checkSteps_6 : decode cX3_checkSteps 6 = .ok (.sipush 200, 3) := by decide +kernel
theorem dX3_checkSteps_9 : decode cX3_checkSteps 9 = .ok (.if_icmp .le 13, 3) := by decide +kernel
theorem dX3_checkSteps_12 : decode cX3_checkSteps 12 = .ok (.new 47, 3) := by decide +kernel
theorem dX3_checkSteps_15 : decode cX3_checkSteps 15 = .ok (.dup, 1) := by decide +kernel
theorem dX3_checkSteps_16 : decode cX3_checkSteps 16 = .ok (.ldc 199, 2) := by decide +kernel
theorem dX3_checkSteps_18 : decode cX3_checkSteps 18 = .ok (.invokespecial 51, 3) := by decide +kernel
theorem dX3_checkSteps_21 : decode cX3_checkSteps 21 = .ok (.athrow, 1) := by decide +kernel
theorem dX3_checkSteps_22 : decode cX3_checkSteps 22 = .ok (.return_, 1) := by decide +kernel
theorem dX3_differentInBook_0 : decode cX3_differentInBook 0 = .ok (.aload_n 0, 1) := by decide +kernel
theorem dX3_differentInBook_1 : decode cX3_differentInBook 1 = .ok (.getfield 33, 3) := by decide +kernel
theorem dX3_differentInBook_4 : decode cX3_differentInBook 4 = .ok (.invokevirtual 171, 3) := by decide +kernel
theorem dX3_differentInBook_7 : decode cX3_differentInBook 7 = .ok (.iconst 0, 1) := by decide +kernel
theorem dX3_differentInBook_8 : decode cX3_differentInBook 8 = .ok (.istore_n 1, 1) := by decide +kernel
theorem dX3_differentInBook_9 : decode cX3_differentInBook 9 = .ok (.iload_n 1, 1) := by decide +kernel
theorem dX3_differentInBook_10 : decode cX3_differentInBook 10 = .ok (.aload_n 0, 1) := by decide +kernel
theorem dX3_differentInBook_11 : decode cX3_differentInBook 11 = .ok (.getfield 41, 3) := by decide +kernel
theorem dX3_differentInBook_14 : decode cX3_differentInBook 14 = .ok (.if_icmp .ge 25, 3) := by decide +kernel
theorem dX3_differentInBook_17 : decode cX3_differentInBook 17 = .ok (.aload_n 0, 1) := by decide +kernel
theorem dX3_differentInBook_18 : decode cX3_differentInBook 18 = .ok (.getfield 33, 3) := by decide +kernel
theorem dX3_differentInBook_21 : decode cX3_differentInBook 21 = .ok (.aload_n 0, 1) := by decide +kernel
theorem dX3_differentInBook_22 : decode cX3_differentInBook 22 = .ok (.getfield 11, 3) := by decide +kernel
theorem dX3_differentInBook_25 : decode cX3_differentInBook 25 = .ok (.iload_n 1, 1) := by decide +kernel
theorem dX3_differentInBook_26 : decode cX3_differentInBook 26 = .ok (.aaload, 1) := by decide +kernel
theorem dX3_differentInBook_27 : decode cX3_differentInBook 27 = .ok (.invokevirtual 84, 3) := by decide +kernel
theorem dX3_differentInBook_30 : decode cX3_differentInBook 30 = .ok (.invokevirtual 172, 3) := by decide +kernel
theorem dX3_differentInBook_33 : decode cX3_differentInBook 33 = .ok (.iinc 1 1, 3) := by decide +kernel
theorem dX3_differentInBook_36 : decode cX3_differentInBook 36 = .ok (.goto (-27), 3) := by decide +kernel
theorem dX3_differentInBook_39 : decode cX3_differentInBook 39 = .ok (.aload_n 0, 1) := by decide +kernel
theorem dX3_differentInBook_40 : decode cX3_differentInBook 40 = .ok (.getfield 33, 3) := by decide +kernel
theorem dX3_differentInBook_43 : decode cX3_differentInBook 43 = .ok (.invokevirtual 173, 3) := by decide +kernel
theorem dX3_differentInBook_46 : decode cX3_differentInBook 46 = .ok (.ireturn, 1) := by decide +kernel
theorem dX3_changesOf_0 : decode cX3_changesOf 0 = .ok (.iconst 1, 1) := by decide +kernel
theorem dX3_changesOf_1 : decode cX3_changesOf 1 = .ok (.istore_n 1, 1) := by decide +kernel
theorem dX3_changesOf_2 : decode cX3_changesOf 2 = .ok (.iconst 2, 1) := by decide +kernel
theorem dX3_changesOf_3 : decode cX3_changesOf 3 = .ok (.istore_n 2, 1) := by decide +kernel
theorem dX3_changesOf_4 : decode cX3_changesOf 4 = .ok (.iload_n 2, 1) := by decide +kernel
theorem dX3_changesOf_5 : decode cX3_changesOf 5 = .ok (.iload_n 0, 1) := by decide +kernel
theorem dX3_changesOf_6 : decode cX3_changesOf 6 = .ok (.if_icmp .gt 13, 3) := by decide +kernel
theorem dX3_changesOf_9 : decode cX3_changesOf 9 = .ok (.iload_n 1, 1) := by decide +kernel
theorem dX3_changesOf_10 : decode cX3_changesOf 10 = .ok (.iload_n 2, 1) := by decide +kernel
theorem dX3_changesOf_11 : decode cX3_changesOf 11 = .ok (.imul, 1) := by decide +kernel
theorem dX3_changesOf_12 : decode cX3_changesOf 12 = .ok (.istore_n 1, 1) := by decide +kernel
theorem dX3_changesOf_13 : decode cX3_changesOf 13 = .ok (.iinc 2 1, 3) := by decide +kernel
theorem dX3_changesOf_16 : decode cX3_changesOf 16 = .ok (.goto (-12), 3) := by decide +kernel
theorem dX3_changesOf_19 : decode cX3_changesOf 19 = .ok (.iload_n 1, 1) := by decide +kernel
theorem dX3_changesOf_20 : decode cX3_changesOf 20 = .ok (.ireturn, 1) := by decide +kernel
end
section
set_option maxRecDepth 20000 in
theorem ggX3_init_X0_init : GoodIn wsX3_init wsX0_init := goodIn_r _ [23, 24, 2, 3, 25, 26, 27, 48, 49] (by decide +kernel) (by decide +kernel)
set_option maxRecDepth 20000 in
theorem gX3_init_X0_init : GoodIn wsX3_init (wsX0_init) := ggX3_init_X0_init
set_option maxRecDepth 20000 in
theorem ggX3_init_X1_init : GoodIn wsX3_init wsX1_init := goodIn_r _ [30, 31, 2, 3, 25, 32, 33, 50, 51] (by decide +kernel) (by decide +kernel)
set_option maxRecDepth 20000 in
theorem gX3_init_X1_init : GoodIn wsX3_init (wsX1_init) := ggX3_init_X1_init
set_option maxRecDepth 20000 in
theorem ggX3_init_X2_init : GoodIn wsX3_init wsX2_init := goodIn_r _ [36, 37, 2, 3, 25, 38, 39, 52, 53] (by decide +kernel) (by decide +kernel)
set_option maxRecDepth 20000 in
theorem gX3_init_X2_init : GoodIn wsX3_init (wsX2_init) := ggX3_init_X2_init
set_option maxRecDepth 20000 in
theorem ggX3_setBells_X1_removeAll : GoodIn wsX3_setBells wsX1_removeAll := goodIn_r _ [10, 11, 20, 21] (by decide +kernel) (by decide +kernel)
set_option maxRecDepth 20000 in
theorem gX3_setBells_X1_removeAll : GoodIn wsX3_setBells (wsV RX3 54 RX1 yX1_removeAll wsX1_removeAll) := goodIn_app (goodIn_of _ (by decide +kernel)) ggX3_setBells_X1_removeAll
set_option maxRecDepth 20000 in
theorem ggX3_write_X3_changesOf : GoodIn wsX3_write wsX3_changesOf := goodIn_r _ [8] (by decide +kernel) (by decide +kernel)
set_option maxRecDepth 20000 in
theorem gX3_write_X3_changesOf : GoodIn wsX3_write (va_wsS RX3 57 yX3_changesOf wsX3_changesOf) := goodIn_app (goodIn_of _ (by decide +kernel)) ggX3_write_X3_changesOf
set_option maxRecDepth 20000 in
theorem ggX3_write_X3_openPage : GoodIn wsX3_write wsX3_openPage := goodIn_ca (goodIn_r _ [12, 13, 14, 4, 15, 35, 36, 37, 38, 39, 40, 41, 42] (by decide +kernel) (by decide +kernel)) (goodIn_sub (fun _ h => List.mem_cons_of_mem _ (List.mem_append_right _ h)) (by decide +kernel))
set_option maxRecDepth 20000 in
theorem gX3_write_X3_openPage : GoodIn wsX3_write (wsV RX3 66 RX3 yX3_openPage wsX3_openPage) := goodIn_app (goodIn_of _ (by decide +kernel)) ggX3_write_X3_openPage
set_option maxRecDepth 20000 in
theorem ggX3_write_X0_setRank : GoodIn wsX3_write wsX0_setRank := goodIn_r _ [20, 21, 22, 23, 24, 19, 25, 26, 27, 28, 29, 30, 31, 32, 33, 34, 43, 44] (by decide +kernel) (by decide +kernel)
set_option maxRecDepth 20000 in
theorem gX3_write_X0_setRank : GoodIn wsX3_write (wsV RX3 70 RX0 yX0_setRank wsX0_setRank) := goodIn_app (goodIn_of _ (by decide +kernel)) ggX3_write_X0_setRank
set_option maxRecDepth 20000 in
theorem ggX3_swap_X3_find : GoodIn wsX3_swap wsX3_find := goodIn_ca (goodIn_r _ [8, 1, 2, 9, 10, 34, 35, 36, 37, 38, 39, 40, 41] (by decide +kernel) (by decide +kernel)) (goodIn_sub (fun _ h => List.mem_cons_of_mem _ (List.mem_append_right _ h)) (by decide +kernel))
set_option maxRecDepth 20000 in
theorem gX3_swap_X3_find : GoodIn wsX3_swap (wsV RX3 74 RX3 yX3_find wsX3_find) := goodIn_app (goodIn_of _ (by decide +kernel)) ggX3_swap_X3_find
set_option maxRecDepth 20000 in
theorem ggX3_swap_X0_exchange : GoodIn wsX3_swap wsX0_exchange := goodIn_r _ [15, 16, 17, 18, 14, 19, 20, 21, 22, 23, 24, 42, 43] (by decide +kernel) (by decide +kernel)
set_option maxRecDepth 20000 in
theorem gX3_swap_X0_exchange : GoodIn wsX3_swap (wsV RX3 80 RX0 yX0_exchange wsX0_exchange) := goodIn_app (goodIn_of _ (by decide +kernel)) ggX3_swap_X0_exchange
set_option maxRecDepth 20000 in
theorem ggX3_swap_X0_rank : GoodIn wsX3_swap wsX0_rank := goodIn_r _ [28, 29, 30, 31, 32, 14, 33, 16, 17, 18, 19, 20, 42, 43] (by decide +kernel) (by decide +kernel)
set_option maxRecDepth 20000 in
theorem gX3_swap_X0_rank : GoodIn wsX3_swap (wsV RX3 84 RX0 yX0_rank wsX0_rank) := goodIn_app (goodIn_of _ (by decide +kernel)) ggX3_swap_X0_rank
set_option maxRecDepth 20000 in
theorem ggX3_next_X3_find : GoodIn wsX3_next wsX3_find := goodIn_ca (goodIn_r _ [6, 7, 8, 9, 10, 41, 42, 43, 44, 45, 46, 47, 48] (by decide +kernel) (by decide +kernel)) (goodIn_sub (fun _ h => List.mem_cons_of_mem _ (List.mem_append_right _ h)) (by decide +kernel))
set_option maxRecDepth 20000 in
theorem gX3_next_X3_find : GoodIn wsX3_next (wsV RX3 74 RX3 yX3_find wsX3_find) := goodIn_app (goodIn_of _ (by decide +kernel)) ggX3_next_X3_find
set_option maxRecDepth 20000 in
theorem ggX3_next_X0_rank : GoodIn wsX3_next wsX0_rank := goodIn_r _ [15, 16, 17, 18, 19, 14, 20, 21, 22, 23, 24, 25, 49, 50] (by decide +kernel) (by decide +kernel)
set_option maxRecDepth 20000 in
theorem gX3_next_X0_rank : GoodIn wsX3_next (wsV RX3 84 RX0 yX0_rank wsX0_rank) := goodIn_app (goodIn_of _ (by decide +kernel)) ggX3_next_X0_rank
set_option maxRecDepth 20000 in
theorem ggX3_next_X3_changesOf : GoodIn wsX3_next wsX3_changesOf := goodIn_r _ [28] (by decide +kernel) (by decide +kernel)
set_option maxRecDepth 20000 in
theorem gX3_next_X3_changesOf : GoodIn wsX3_next (va_wsS RX3 57 yX3_changesOf wsX3_changesOf) := goodIn_app (goodIn_of _ (by decide +kernel)) ggX3_next_X3_changesOf
set_option maxRecDepth 20000 in
theorem ggX3_next_X0_setRank : GoodIn wsX3_next wsX0_setRank := goodIn_r _ [32, 16, 33, 34, 35, 14, 36, 37, 38, 39, 40, 25, 21, 22, 23, 24, 49, 50] (by decide +kernel) (by decide +kernel)
set_option maxRecDepth 20000 in
theorem gX3_next_X0_setRank : GoodIn wsX3_next (wsV RX3 70 RX0 yX0_setRank wsX0_setRank) := goodIn_app (goodIn_of _ (by decide +kernel)) ggX3_next_X0_setRank
set_option maxRecDepth 20000 in
theorem ggX3_behind_X3_find : GoodIn wsX3_behind wsX3_find := goodIn_ca (goodIn_r _ [6, 7, 8, 1, 9, 31, 32, 33, 34, 35, 36, 37, 38] (by decide +kernel) (by decide +kernel)) (goodIn_sub (fun _ h => List.mem_cons_of_mem _ (List.mem_append_left _ (List.mem_append_right _ h))) (by decide +kernel))
set_option maxRecDepth 20000 in
theorem gX3_behind_X3_find : GoodIn wsX3_behind (wsV RX3 74 RX3 yX3_find wsX3_find) := goodIn_app (goodIn_of _ (by decide +kernel)) ggX3_behind_X3_find
set_option maxRecDepth 20000 in
theorem ggX3_behind_X3_openPage : GoodIn wsX3_behind wsX3_openPage := goodIn_ca (goodIn_r _ [13, 14, 15, 1, 9, 31, 32, 33, 34, 35, 36, 37, 38] (by decide +kernel) (by decide +kernel)) (goodIn_sub (fun _ h => List.mem_cons_of_mem _ (List.mem_append_right _ h)) (by decide +kernel))
set_option maxRecDepth 20000 in
theorem gX3_behind_X3_openPage : GoodIn wsX3_behind (wsV RX3 66 RX3 yX3_openPage wsX3_openPage) := goodIn_app (goodIn_of _ (by decide +kernel)) ggX3_behind_X3_openPage
set_option maxRecDepth 20000 in
theorem ggX3_behind_X0_setBehind : GoodIn wsX3_behind wsX0_setBehind := goodIn_r _ [20, 21, 22, 23, 24, 19, 25, 26, 27, 28, 29, 30, 39, 40] (by decide +kernel) (by decide +kernel)
set_option maxRecDepth 20000 in
theorem gX3_behind_X0_setBehind : GoodIn wsX3_behind (wsV RX3 88 RX0 yX0_setBehind wsX0_setBehind) := goodIn_app (goodIn_of _ (by decide +kernel)) ggX3_behind_X0_setBehind
set_option maxRecDepth 20000 in
theorem ggX3_back_X3_find : GoodIn wsX3_back wsX3_find := goodIn_ca (goodIn_r _ [6, 7, 8, 9, 10, 38, 39, 40, 41, 42, 43, 44, 45] (by decide +kernel) (by decide +kernel)) (goodIn_sub (fun _ h => List.mem_cons_of_mem _ (List.mem_append_right _ h)) (by decide +kernel))
set_option maxRecDepth 20000 in
theorem gX3_back_X3_find : GoodIn wsX3_back (wsV RX3 74 RX3 yX3_find wsX3_find) := goodIn_app (goodIn_of _ (by decide +kernel)) ggX3_back_X3_find
set_option maxRecDepth 20000 in
theorem ggX3_back_X0_setBack : GoodIn wsX3_back wsX0_setBack := goodIn_r _ [15, 16, 17, 18, 19, 14, 20, 21, 22, 23, 24, 25, 46, 47] (by decide +kernel) (by decide +kernel)
set_option maxRecDepth 20000 in
theorem gX3_back_X0_setBack : GoodIn wsX3_back (wsV RX3 92 RX0 yX0_setBack wsX0_setBack) := goodIn_app (goodIn_of _ (by decide +kernel)) ggX3_back_X0_setBack
set_option maxRecDepth 20000 in
theorem ggX3_back_X0_setCopy : GoodIn wsX3_back wsX0_setCopy := goodIn_r _ [29, 16, 17, 18, 19, 14, 20, 21, 22, 23, 24, 25, 46, 47] (by decide +kernel) (by decide +kernel)
set_option maxRecDepth 20000 in
theorem gX3_back_X0_setCopy : GoodIn wsX3_back (wsV RX3 96 RX0 yX0_setCopy wsX0_setCopy) := goodIn_app (goodIn_of _ (by decide +kernel)) ggX3_back_X0_setCopy
set_option maxRecDepth 20000 in
theorem ggX3_back_X0_rank : GoodIn wsX3_back wsX0_rank := goodIn_r _ [33, 16, 34, 35, 36, 14, 37, 17, 18, 19, 20, 21, 46, 47] (by decide +kernel) (by decide +kernel)
set_option maxRecDepth 20000 in
theorem gX3_back_X0_rank : GoodIn wsX3_back (wsV RX3 84 RX0 yX0_rank wsX0_rank) := goodIn_app (goodIn_of _ (by decide +kernel)) ggX3_back_X0_rank
set_option maxRecDepth 20000 in
theorem ggX3_step_X1_isStep : GoodIn wsX3_step wsX1_isStep := goodIn_r _ [10, 11, 12, 9, 13] (by decide +kernel) (by decide +kernel)
set_option maxRecDepth 20000 in
theorem gX3_step_X1_isStep : GoodIn wsX3_step (va_wsS RX3 105 yX1_isStep wsX1_isStep) := goodIn_app (goodIn_of _ (by decide +kernel)) ggX3_step_X1_isStep
set_option maxRecDepth 20000 in
theorem ggX3_step_X1_length : GoodIn wsX3_step wsX1_length := goodIn_r _ [17, 18, 32, 33] (by decide +kernel) (by decide +kernel)
set_option maxRecDepth 20000 in
theorem gX3_step_X1_length : GoodIn wsX3_step (wsV RX3 111 RX1 yX1_length wsX1_length) := goodIn_app (goodIn_of _ (by decide +kernel)) ggX3_step_X1_length
set_option maxRecDepth 20000 in
theorem ggX3_step_X1_add : GoodIn wsX3_step wsX1_add := goodIn_r _ [22, 18, 23, 32, 33] (by decide +kernel) (by decide +kernel)
set_option maxRecDepth 20000 in
theorem gX3_step_X1_add : GoodIn wsX3_step (wsV RX3 119 RX1 yX1_add wsX1_add) := goodIn_app (goodIn_of _ (by decide +kernel)) ggX3_step_X1_add
set_option maxRecDepth 20000 in
theorem ggX3_ring_X3_find : GoodIn wsX3_ring wsX3_find := goodIn_ca (goodIn_r _ [7, 8, 9, 10, 11, 62, 63, 64, 65, 66, 67, 68, 69] (by decide +kernel) (by decide +kernel)) (goodIn_sub (fun _ h => List.mem_cons_of_mem _ (List.mem_append_left _ (List.mem_append_right _ h))) (by decide +kernel))
set_option maxRecDepth 20000 in
theorem gX3_ring_X3_find : GoodIn wsX3_ring (wsV RX3 74 RX3 yX3_find wsX3_find) := goodIn_app (goodIn_of _ (by decide +kernel)) ggX3_ring_X3_find
set_option maxRecDepth 20000 in
theorem ggX3_ring_X3_checkSteps : GoodIn wsX3_ring wsX3_checkSteps := goodIn_ca (goodIn_r _ [14, 15, 16] (by decide +kernel) (by decide +kernel)) (goodIn_sub (fun _ h => List.mem_cons_of_mem _ (List.mem_append_right _ h)) (by decide +kernel))
set_option maxRecDepth 20000 in
theorem gX3_ring_X3_checkSteps : GoodIn wsX3_ring (va_wsS RX3 122 yX3_checkSteps wsX3_checkSteps) := goodIn_app (goodIn_of _ (by decide +kernel)) ggX3_ring_X3_checkSteps
set_option maxRecDepth 20000 in
theorem ggX3_ring_X1_length : GoodIn wsX3_ring wsX1_length := goodIn_r _ [21, 22, 70, 71] (by decide +kernel) (by decide +kernel)
set_option maxRecDepth 20000 in
theorem gX3_ring_X1_length : GoodIn wsX3_ring (wsV RX3 111 RX1 yX1_length wsX1_length) := goodIn_app (goodIn_of _ (by decide +kernel)) ggX3_ring_X1_length
set_option maxRecDepth 20000 in
theorem ggX3_ring_X1_ringOn : GoodIn wsX3_ring wsX1_ringOn := goodIn_r _ [26, 22, 27, 28, 29, 20, 30, 31, 32, 33, 34, 35, 36, 37, 38, 39, 40, 41, 42, 43, 44, 45, 46, 47, 48, 49, 50, 51, 52, 53, 70, 71, 72, 73] (by decide +kernel) (by decide +kernel)
set_option maxRecDepth 20000 in
theorem gX3_ring_X1_ringOn : GoodIn wsX3_ring (wsV RX3 125 RX1 yX1_ringOn wsX1_ringOn) := goodIn_app (goodIn_of _ (by decide +kernel)) ggX3_ring_X1_ringOn
set_option maxRecDepth 20000 in
theorem ggX3_ring_X0_rank : GoodIn wsX3_ring wsX0_rank := goodIn_r _ [57, 37, 58, 59, 60, 35, 61, 45, 46, 47, 48, 49, 72, 73] (by decide +kernel) (by decide +kernel)
set_option maxRecDepth 20000 in
theorem gX3_ring_X0_rank : GoodIn wsX3_ring (wsV RX3 84 RX0 yX0_rank wsX0_rank) := goodIn_app (goodIn_of _ (by decide +kernel)) ggX3_ring_X0_rank
set_option maxRecDepth 20000 in
theorem ggX3_bell_X3_find : GoodIn wsX3_bell wsX3_find := goodIn_ca (goodIn_r _ [5, 6, 7, 8, 9, 21, 22, 23, 24, 25, 26, 27, 28] (by decide +kernel) (by decide +kernel)) (goodIn_sub (fun _ h => List.mem_cons_of_mem _ (List.mem_append_right _ h)) (by decide +kernel))
set_option maxRecDepth 20000 in
theorem gX3_bell_X3_find : GoodIn wsX3_bell (wsV RX3 74 RX3 yX3_find wsX3_find) := goodIn_app (goodIn_of _ (by decide +kernel)) ggX3_bell_X3_find
set_option maxRecDepth 20000 in
theorem ggX3_bell_X3_checkPlace : GoodIn wsX3_bell wsX3_checkPlace := goodIn_ca (goodIn_r _ [13, 6, 7, 14, 21, 22, 23, 24, 25, 26, 27, 28] (by decide +kernel) (by decide +kernel)) (goodIn_sub (fun _ h => List.mem_cons_of_mem _ (List.mem_append_right _ h)) (by decide +kernel))
set_option maxRecDepth 20000 in
theorem gX3_bell_X3_checkPlace : GoodIn wsX3_bell (wsV RX3 128 RX3 yX3_checkPlace wsX3_checkPlace) := goodIn_app (goodIn_of _ (by decide +kernel)) ggX3_bell_X3_checkPlace
set_option maxRecDepth 20000 in
theorem ggX3_bell_X0_bellAt : GoodIn wsX3_bell wsX0_bellAt := goodIn_r _ [19, 20, 29, 30] (by decide +kernel) (by decide +kernel)
set_option maxRecDepth 20000 in
theorem gX3_bell_X0_bellAt : GoodIn wsX3_bell (wsV RX3 131 RX0 yX0_bellAt wsX0_bellAt) := goodIn_app (goodIn_of _ (by decide +kernel)) ggX3_bell_X0_bellAt
set_option maxRecDepth 20000 in
theorem ggX3_told_X3_find : GoodIn wsX3_told wsX3_find := goodIn_ca (goodIn_r _ [7, 1, 2, 8, 9, 64, 65, 66, 67, 68, 69, 70, 71] (by decide +kernel) (by decide +kernel)) (goodIn_sub (fun _ h => List.mem_cons_of_mem _ (List.mem_append_right _ h)) (by decide +kernel))
set_option maxRecDepth 20000 in
theorem gX3_told_X3_find : GoodIn wsX3_told (wsV RX3 74 RX3 yX3_find wsX3_find) := goodIn_app (goodIn_of _ (by decide +kernel)) ggX3_told_X3_find
set_option maxRecDepth 20000 in
theorem ggX3_told_X0_rank : GoodIn wsX3_told wsX0_rank := goodIn_r _ [14, 15, 16, 17, 18, 13, 19, 20, 21, 22, 23, 24, 72, 73] (by decide +kernel) (by decide +kernel)
set_option maxRecDepth 20000 in
theorem gX3_told_X0_rank : GoodIn wsX3_told (wsV RX3 84 RX0 yX0_rank wsX0_rank) := goodIn_app (goodIn_of _ (by decide +kernel)) ggX3_told_X0_rank
set_option maxRecDepth 20000 in
theorem ggX3_told_X0_inversions : GoodIn wsX3_told wsX0_inversions := goodIn_r _ [28, 15, 16, 17, 18, 13, 19, 20, 21, 22, 23, 24, 72, 73] (by decide +kernel) (by decide +kernel)
set_option maxRecDepth 20000 in
theorem gX3_told_X0_inversions : GoodIn wsX3_told (wsV RX3 134 RX0 yX0_inversions wsX0_inversions) := goodIn_app (goodIn_of _ (by decide +kernel)) ggX3_told_X0_inversions
set_option maxRecDepth 20000 in
theorem ggX3_told_X0_ringCount : GoodIn wsX3_told wsX0_ringCount := goodIn_r _ [32, 15, 33, 34, 35, 13, 36, 20, 21, 22, 23, 24, 72, 73] (by decide +kernel) (by decide +kernel)
set_option maxRecDepth 20000 in
theorem gX3_told_X0_ringCount : GoodIn wsX3_told (wsV RX3 137 RX0 yX0_ringCount wsX0_ringCount) := goodIn_app (goodIn_of _ (by decide +kernel)) ggX3_told_X0_ringCount
set_option maxRecDepth 20000 in
theorem ggX3_told_X0_longestRing : GoodIn wsX3_told wsX0_longestRing := goodIn_r _ [40, 15, 41, 42, 43, 44, 45, 46, 47, 13, 48, 20, 21, 22, 23, 24, 72, 73] (by decide +kernel) (by decide +kernel)
set_option maxRecDepth 20000 in
theorem gX3_told_X0_longestRing : GoodIn wsX3_told (wsV RX3 140 RX0 yX0_longestRing wsX0_longestRing) := goodIn_app (goodIn_of _ (by decide +kernel)) ggX3_told_X0_longestRing
set_option maxRecDepth 20000 in
theorem ggX3_told_X0_order : GoodIn wsX3_told wsX0_order := goodIn_r _ [52, 15, 45, 46, 47, 13, 48, 20, 21, 22, 23, 24, 53, 54, 55, 72, 73] (by decide +kernel) (by decide +kernel)
set_option maxRecDepth 20000 in
theorem gX3_told_X0_order : GoodIn wsX3_told (wsV RX3 143 RX0 yX0_order wsX0_order) := goodIn_app (goodIn_of _ (by decide +kernel)) ggX3_told_X0_order
set_option maxRecDepth 20000 in
theorem ggX3_told_X0_ownPlaces : GoodIn wsX3_told wsX0_ownPlaces := goodIn_r _ [59, 15, 20, 21, 22, 13, 23, 24, 72, 73] (by decide +kernel) (by decide +kernel)
set_option maxRecDepth 20000 in
theorem gX3_told_X0_ownPlaces : GoodIn wsX3_told (wsV RX3 146 RX0 yX0_ownPlaces wsX0_ownPlaces) := goodIn_app (goodIn_of _ (by decide +kernel)) ggX3_told_X0_ownPlaces
set_option maxRecDepth 20000 in
theorem ggX3_told_X0_placeOf : GoodIn wsX3_told wsX0_placeOf := goodIn_r _ [63, 15, 20, 21, 22, 13, 23, 24, 72, 73] (by decide +kernel) (by decide +kernel)
set_option maxRecDepth 20000 in
theorem gX3_told_X0_placeOf : GoodIn wsX3_told (wsV RX3 149 RX0 yX0_placeOf wsX0_placeOf) := goodIn_app (goodIn_of _ (by decide +kernel)) ggX3_told_X0_placeOf
set_option maxRecDepth 20000 in
theorem ggX3_round_X3_find : GoodIn wsX3_round wsX3_find := goodIn_ca (goodIn_r _ [5, 6, 7, 8, 9, 26, 27, 28, 29, 30, 31, 32, 33] (by decide +kernel) (by decide +kernel)) (goodIn_sub (fun _ h => List.mem_cons_of_mem _ (List.mem_append_right _ h)) (by decide +kernel))
set_option maxRecDepth 20000 in
theorem gX3_round_X3_find : GoodIn wsX3_round (wsV RX3 74 RX3 yX3_find wsX3_find) := goodIn_app (goodIn_of _ (by decide +kernel)) ggX3_round_X3_find
set_option maxRecDepth 20000 in
theorem ggX3_round_X3_checkPlace : GoodIn wsX3_round wsX3_checkPlace := goodIn_ca (goodIn_r _ [13, 6, 7, 14, 26, 27, 28, 29, 30, 31, 32, 33] (by decide +kernel) (by decide +kernel)) (goodIn_sub (fun _ h => List.mem_cons_of_mem _ (List.mem_append_right _ h)) (by decide +kernel))
set_option maxRecDepth 20000 in
theorem gX3_round_X3_checkPlace : GoodIn wsX3_round (wsV RX3 128 RX3 yX3_checkPlace wsX3_checkPlace) := goodIn_app (goodIn_of _ (by decide +kernel)) ggX3_round_X3_checkPlace
set_option maxRecDepth 20000 in
theorem ggX3_round_X0_ringLength : GoodIn wsX3_round wsX0_ringLength := goodIn_r _ [19, 20, 21, 22, 23, 18, 24, 25, 34, 35] (by decide +kernel) (by decide +kernel)
set_option maxRecDepth 20000 in
theorem gX3_round_X0_ringLength : GoodIn wsX3_round (wsV RX3 154 RX0 yX0_ringLength wsX0_ringLength) := goodIn_app (goodIn_of _ (by decide +kernel)) ggX3_round_X0_ringLength
set_option maxRecDepth 20000 in
theorem ggX3_apart_X3_find : GoodIn wsX3_apart wsX3_find := goodIn_ca (goodIn_r _ [6, 7, 8, 9, 10, 23, 24, 25, 26, 27, 28, 29, 30] (by decide +kernel) (by decide +kernel)) (goodIn_sub (fun _ h => List.mem_cons_of_mem _ (List.mem_append_right _ h)) (by decide +kernel))
set_option maxRecDepth 20000 in
theorem gX3_apart_X3_find : GoodIn wsX3_apart (wsV RX3 74 RX3 yX3_find wsX3_find) := goodIn_app (goodIn_of _ (by decide +kernel)) ggX3_apart_X3_find
set_option maxRecDepth 20000 in
theorem ggX3_apart_X0_bellAt : GoodIn wsX3_apart wsX0_bellAt := goodIn_r _ [15, 16, 31, 32] (by decide +kernel) (by decide +kernel)
set_option maxRecDepth 20000 in
theorem gX3_apart_X0_bellAt : GoodIn wsX3_apart (wsV RX3 131 RX0 yX0_bellAt wsX0_bellAt) := goodIn_app (goodIn_of _ (by decide +kernel)) ggX3_apart_X0_bellAt
set_option maxRecDepth 20000 in
theorem ggX3_apart_X0_placeOf : GoodIn wsX3_apart wsX0_placeOf := goodIn_r _ [20, 21, 22, 12, 13, 14, 15, 16, 31, 32] (by decide +kernel) (by decide +kernel)
set_option maxRecDepth 20000 in
theorem gX3_apart_X0_placeOf : GoodIn wsX3_apart (wsV RX3 149 RX0 yX0_placeOf wsX0_placeOf) := goodIn_app (goodIn_of _ (by decide +kernel)) ggX3_apart_X0_placeOf
set_option maxRecDepth 20000 in
theorem ggX3_count_X3_changesOf : GoodIn wsX3_count wsX3_changesOf := goodIn_r _ [10] (by decide +kernel) (by decide +kernel)
set_option maxRecDepth 20000 in
theorem gX3_count_X3_changesOf : GoodIn wsX3_count (va_wsS RX3 57 yX3_changesOf wsX3_changesOf) := goodIn_app (goodIn_of _ (by decide +kernel)) ggX3_count_X3_changesOf
set_option maxRecDepth 20000 in
theorem ggX3_count_X3_differentInBook : GoodIn wsX3_count wsX3_differentInBook := goodIn_r _ [14, 15, 4, 16, 17, 18, 19, 20, 21, 22, 23, 24, 25, 26, 27, 28, 29, 30, 31, 32, 33, 34, 35, 36, 37, 38, 39, 40, 41, 42, 43, 44, 45, 46, 53, 54, 55, 56, 57, 58, 59, 60, 61, 62, 63, 64] (by decide +kernel) (by decide +kernel)
set_option maxRecDepth 20000 in
theorem gX3_count_X3_differentInBook : GoodIn wsX3_count (wsV RX3 157 RX3 yX3_differentInBook wsX3_differentInBook) := goodIn_app (goodIn_of _ (by decide +kernel)) ggX3_count_X3_differentInBook
set_option maxRecDepth 20000 in
theorem ggX3_count_X1_length : GoodIn wsX3_count wsX1_length := goodIn_r _ [51, 52, 65, 66] (by decide +kernel) (by decide +kernel)
set_option maxRecDepth 20000 in
theorem gX3_count_X1_length : GoodIn wsX3_count (wsV RX3 111 RX1 yX1_length wsX1_length) := goodIn_app (goodIn_of _ (by decide +kernel)) ggX3_count_X1_length
set_option maxRecDepth 20000 in
theorem ggX3_kept_X1_length : GoodIn wsX3_kept wsX1_length := goodIn_r _ [8, 9, 23, 24] (by decide +kernel) (by decide +kernel)
set_option maxRecDepth 20000 in
theorem gX3_kept_X1_length : GoodIn wsX3_kept (wsV RX3 111 RX1 yX1_length wsX1_length) := goodIn_app (goodIn_of _ (by decide +kernel)) ggX3_kept_X1_length
set_option maxRecDepth 20000 in
theorem ggX3_kept_X1_keptAt : GoodIn wsX3_kept wsX1_keptAt := goodIn_r _ [13, 14, 23, 24] (by decide +kernel) (by decide +kernel)
set_option maxRecDepth 20000 in
theorem gX3_kept_X1_keptAt : GoodIn wsX3_kept (wsV RX3 164 RX1 yX1_keptAt wsX1_keptAt) := goodIn_app (goodIn_of _ (by decide +kernel)) ggX3_kept_X1_keptAt
set_option maxRecDepth 20000 in
theorem ggX3_comes_X3_find : GoodIn wsX3_comes wsX3_find := goodIn_ca (goodIn_r _ [7, 8, 9, 10, 11, 57, 58, 59, 60, 61, 62, 63, 64] (by decide +kernel) (by decide +kernel)) (goodIn_sub (fun _ h => List.mem_cons_of_mem _ (List.mem_append_right _ h)) (by decide +kernel))
set_option maxRecDepth 20000 in
theorem gX3_comes_X3_find : GoodIn wsX3_comes (wsV RX3 74 RX3 yX3_find wsX3_find) := goodIn_app (goodIn_of _ (by decide +kernel)) ggX3_comes_X3_find
set_option maxRecDepth 20000 in
theorem ggX3_comes_X1_length : GoodIn wsX3_comes wsX1_length := goodIn_r _ [16, 17, 65, 66] (by decide +kernel) (by decide +kernel)
set_option maxRecDepth 20000 in
theorem gX3_comes_X1_length : GoodIn wsX3_comes (wsV RX3 111 RX1 yX1_length wsX1_length) := goodIn_app (goodIn_of _ (by decide +kernel)) ggX3_comes_X1_length
set_option maxRecDepth 20000 in
theorem ggX3_comes_X0_setCopy : GoodIn wsX3_comes wsX0_setCopy := goodIn_r _ [22, 23, 24, 25, 26, 21, 27, 28, 29, 30, 31, 32, 67, 68] (by decide +kernel) (by decide +kernel)
set_option maxRecDepth 20000 in
theorem gX3_comes_X0_setCopy : GoodIn wsX3_comes (wsV RX3 96 RX0 yX0_setCopy wsX0_setCopy) := goodIn_app (goodIn_of _ (by decide +kernel)) ggX3_comes_X0_setCopy
set_option maxRecDepth 20000 in
theorem ggX3_comes_X1_ringOn : GoodIn wsX3_comes wsX1_ringOn := goodIn_r _ [36, 17, 37, 38, 39, 15, 40, 41, 42, 43, 44, 21, 45, 23, 46, 47, 48, 49, 50, 51, 52, 24, 25, 26, 27, 28, 29, 30, 31, 32, 65, 66, 67, 68] (by decide +kernel) (by decide +kernel)
set_option maxRecDepth 20000 in
theorem gX3_comes_X1_ringOn : GoodIn wsX3_comes (wsV RX3 125 RX1 yX1_ringOn wsX1_ringOn) := goodIn_app (goodIn_of _ (by decide +kernel)) ggX3_comes_X1_ringOn
set_option maxRecDepth 20000 in
theorem ggX3_comes_X0_isSame : GoodIn wsX3_comes wsX0_isSame := goodIn_r _ [56, 23, 24, 25, 26, 21, 27, 28, 67, 68] (by decide +kernel) (by decide +kernel)
set_option maxRecDepth 20000 in
theorem gX3_comes_X0_isSame : GoodIn wsX3_comes (wsV RX3 167 RX0 yX0_isSame wsX0_isSame) := goodIn_app (goodIn_of _ (by decide +kernel)) ggX3_comes_X0_isSame
set_option maxRecDepth 20000 in
theorem ggX3_differ_X3_checkSteps : GoodIn wsX3_differ wsX3_checkSteps := goodIn_ca (goodIn_r _ [8, 9, 10] (by decide +kernel) (by decide +kernel)) (goodIn_sub (fun _ h => List.mem_cons_of_mem _ (List.mem_append_right _ h)) (by decide +kernel))
set_option maxRecDepth 20000 in
theorem gX3_differ_X3_checkSteps : GoodIn wsX3_differ (va_wsS RX3 122 yX3_checkSteps wsX3_checkSteps) := goodIn_app (goodIn_of _ (by decide +kernel)) ggX3_differ_X3_checkSteps
set_option maxRecDepth 20000 in
theorem ggX3_differ_X0_setRank : GoodIn wsX3_differ wsX0_setRank := goodIn_r _ [15, 16, 17, 18, 19, 14, 20, 21, 22, 23, 24, 25, 26, 27, 28, 29, 87, 88] (by decide +kernel) (by decide +kernel)
set_option maxRecDepth 20000 in
theorem gX3_differ_X0_setRank : GoodIn wsX3_differ (wsV RX3 70 RX0 yX0_setRank wsX0_setRank) := goodIn_app (goodIn_of _ (by decide +kernel)) ggX3_differ_X0_setRank
set_option maxRecDepth 20000 in
theorem ggX3_differ_X2_removeAll : GoodIn wsX3_differ wsX2_removeAll := goodIn_r _ [34, 35, 89, 90] (by decide +kernel) (by decide +kernel)
set_option maxRecDepth 20000 in
theorem gX3_differ_X2_removeAll : GoodIn wsX3_differ (wsV RX3 171 RX2 yX2_removeAll wsX2_removeAll) := goodIn_app (goodIn_of _ (by decide +kernel)) ggX3_differ_X2_removeAll
set_option maxRecDepth 20000 in
theorem ggX3_differ_X0_rank : GoodIn wsX3_differ wsX0_rank := goodIn_r _ [39, 16, 40, 41, 42, 14, 43, 26, 27, 28, 29, 25, 87, 88] (by decide +kernel) (by decide +kernel)
set_option maxRecDepth 20000 in
theorem gX3_differ_X0_rank : GoodIn wsX3_differ (wsV RX3 84 RX0 yX0_rank wsX0_rank) := goodIn_app (goodIn_of _ (by decide +kernel)) ggX3_differ_X0_rank
set_option maxRecDepth 20000 in
theorem ggX3_differ_X2_add : GoodIn wsX3_differ wsX2_add := goodIn_r _ [47, 35, 48, 89, 90] (by decide +kernel) (by decide +kernel)
set_option maxRecDepth 20000 in
theorem gX3_differ_X2_add : GoodIn wsX3_differ (wsV RX3 172 RX2 yX2_add wsX2_add) := goodIn_app (goodIn_of _ (by decide +kernel)) ggX3_differ_X2_add
set_option maxRecDepth 20000 in
theorem ggX3_differ_X1_length : GoodIn wsX3_differ wsX1_length := goodIn_r _ [53, 54, 91, 92] (by decide +kernel) (by decide +kernel)
set_option maxRecDepth 20000 in
theorem gX3_differ_X1_length : GoodIn wsX3_differ (wsV RX3 111 RX1 yX1_length wsX1_length) := goodIn_app (goodIn_of _ (by decide +kernel)) ggX3_differ_X1_length
set_option maxRecDepth 20000 in
theorem ggX3_differ_X1_ringOn : GoodIn wsX3_differ wsX1_ringOn := goodIn_r _ [58, 54, 59, 60, 61, 52, 62, 63, 64, 65, 66, 14, 67, 16, 68, 69, 70, 71, 72, 73, 74, 26, 27, 28, 29, 25, 21, 22, 23, 24, 91, 92, 87, 88] (by decide +kernel) (by decide +kernel)
set_option maxRecDepth 20000 in
theorem gX3_differ_X1_ringOn : GoodIn wsX3_differ (wsV RX3 125 RX1 yX1_ringOn wsX1_ringOn) := goodIn_app (goodIn_of _ (by decide +kernel)) ggX3_differ_X1_ringOn
set_option maxRecDepth 20000 in
theorem ggX3_differ_X2_size : GoodIn wsX3_differ wsX2_size := goodIn_r _ [78, 35, 89, 90] (by decide +kernel) (by decide +kernel)
set_option maxRecDepth 20000 in
theorem gX3_differ_X2_size : GoodIn wsX3_differ (wsV RX3 173 RX2 yX2_size wsX2_size) := goodIn_app (goodIn_of _ (by decide +kernel)) ggX3_differ_X2_size
set_option maxRecDepth 20000 in
theorem ggX3_advise_X3_find : GoodIn wsX3_advise wsX3_find := goodIn_ca (goodIn_r _ [8, 9, 10, 1, 3, 34, 35, 36, 37, 38, 39, 40, 41] (by decide +kernel) (by decide +kernel)) (goodIn_sub (fun _ h => List.mem_cons_of_mem _ (List.mem_append_right _ h)) (by decide +kernel))
set_option maxRecDepth 20000 in
theorem gX3_advise_X3_find : GoodIn wsX3_advise (wsV RX3 74 RX3 yX3_find wsX3_find) := goodIn_app (goodIn_of _ (by decide +kernel)) ggX3_advise_X3_find
set_option maxRecDepth 20000 in
theorem ggX3_advise_X0_setBehind : GoodIn wsX3_advise wsX0_setBehind := goodIn_r _ [15, 16, 17, 18, 19, 14, 20, 21, 22, 23, 24, 25, 42, 43] (by decide +kernel) (by decide +kernel)
set_option maxRecDepth 20000 in
theorem gX3_advise_X0_setBehind : GoodIn wsX3_advise (wsV RX3 88 RX0 yX0_setBehind wsX0_setBehind) := goodIn_app (goodIn_of _ (by decide +kernel)) ggX3_advise_X0_setBehind
set_option maxRecDepth 20000 in
theorem ggX3_advise_X0_inversions : GoodIn wsX3_advise wsX0_inversions := goodIn_r _ [29, 16, 30, 31, 32, 14, 33, 17, 18, 19, 20, 21, 42, 43] (by decide +kernel) (by decide +kernel)
set_option maxRecDepth 20000 in
theorem gX3_advise_X0_inversions : GoodIn wsX3_advise (wsV RX3 134 RX0 yX0_inversions wsX0_inversions) := goodIn_app (goodIn_of _ (by decide +kernel)) ggX3_advise_X0_inversions
set_option maxRecDepth 20000 in
theorem ggX3_digest_X3_count : GoodIn wsX3_digest wsX3_count := goodIn_ca (goodIn_r _ [10, 11, 12, 4, 3, 5, 13, 14, 15, 9, 16, 17, 18, 19, 20, 21, 22, 23, 24, 25, 26, 27, 28, 29, 30, 31, 32, 33, 34, 35, 36, 37, 38, 39, 40, 41, 42, 43, 44, 45, 46, 47, 48, 49, 50, 51, 52, 53, 54, 55, 56, 57, 58, 124, 125, 126, 127, 128, 129, 130, 131, 132, 133, 134, 135, 136, 137] (by decide +kernel) (by decide +kernel)) (goodIn_sub (fun _ h => List.mem_cons_of_mem _ (List.mem_append_right _ h)) (by decide +kernel))
set_option maxRecDepth 20000 in
theorem gX3_digest_X3_count : GoodIn wsX3_digest (wsV RX3 180 RX3 yX3_count wsX3_count) := goodIn_app (goodIn_of _ (by decide +kernel)) ggX3_digest_X3_count
set_option maxRecDepth 20000 in
theorem ggX3_digest_X3_told : GoodIn wsX3_digest wsX3_told := goodIn_ca (goodIn_r _ [62, 11, 12, 63, 64, 65, 9, 66, 3, 22, 29, 30, 31, 32, 33, 34, 35, 36, 37, 38, 39, 40, 41, 42, 43, 67, 68, 69, 70, 71, 72, 73, 74, 75, 76, 77, 78, 79, 80, 81, 82, 83, 84, 85, 86, 87, 88, 89, 90, 91, 92, 93, 94, 95, 96, 97, 98, 99, 100, 101, 102, 103, 104, 105, 124, 125, 126, 127, 128, 129, 130, 131, 134, 135] (by decide +kernel) (by decide +kernel)) (goodIn_sub (fun _ h => List.mem_cons_of_mem _ (List.mem_append_right _ h)) (by decide +kernel))
set_option maxRecDepth 20000 in
theorem gX3_digest_X3_told : GoodIn wsX3_digest (wsV RX3 183 RX3 yX3_told wsX3_told) := goodIn_app (goodIn_of _ (by decide +kernel)) ggX3_digest_X3_told
set_option maxRecDepth 20000 in
theorem ggX3_digest_X3_bell : GoodIn wsX3_digest wsX3_bell := goodIn_ca (goodIn_r _ [109, 63, 64, 65, 9, 66, 11, 12, 3, 22, 110, 111, 112, 113, 4, 114, 40, 41, 32, 42, 43, 124, 125, 126, 127, 128, 129, 130, 131, 134, 135] (by decide +kernel) (by decide +kernel)) (goodIn_sub (fun _ h => List.mem_cons_of_mem _ (List.mem_append_right _ h)) (by decide +kernel))
set_option maxRecDepth 20000 in
theorem gX3_digest_X3_bell : GoodIn wsX3_digest (wsV RX3 187 RX3 yX3_bell wsX3_bell) := goodIn_app (goodIn_of _ (by decide +kernel)) ggX3_digest_X3_bell
set_option maxRecDepth 20000 in
theorem ggX3_digest_X1_length : GoodIn wsX3_digest wsX1_length := goodIn_r _ [57, 58, 136, 137] (by decide +kernel) (by decide +kernel)
set_option maxRecDepth 20000 in
theorem gX3_digest_X1_length : GoodIn wsX3_digest (wsV RX3 111 RX1 yX1_length wsX1_length) := goodIn_app (goodIn_of _ (by decide +kernel)) ggX3_digest_X1_length
set_option maxRecDepth 20000 in
theorem ggX3_digest_X3_kept : GoodIn wsX3_digest wsX3_kept := goodIn_ca (goodIn_r _ [118, 11, 12, 5, 53, 54, 55, 56, 57, 58, 119, 120, 121, 122, 123, 124, 125, 126, 127, 128, 129, 130, 131, 136, 137] (by decide +kernel) (by decide +kernel)) (goodIn_sub (fun _ h => List.mem_cons_of_mem _ (List.mem_append_right _ h)) (by decide +kernel))
set_option maxRecDepth 20000 in
theorem gX3_digest_X3_kept : GoodIn wsX3_digest (wsV RX3 190 RX3 yX3_kept wsX3_kept) := goodIn_app (goodIn_of _ (by decide +kernel)) ggX3_digest_X3_kept
set_option maxRecDepth 20000 in
theorem ggX3_differentInBook_X2_removeAll : GoodIn wsX3_differentInBook wsX2_removeAll := goodIn_r _ [8, 9, 42, 43] (by decide +kernel) (by decide +kernel)
set_option maxRecDepth 20000 in
theorem gX3_differentInBook_X2_removeAll : GoodIn wsX3_differentInBook (wsV RX3 171 RX2 yX2_removeAll wsX2_removeAll) := goodIn_app (goodIn_of _ (by decide +kernel)) ggX3_differentInBook_X2_removeAll
set_option maxRecDepth 20000 in
theorem ggX3_differentInBook_X0_rank : GoodIn wsX3_differentInBook wsX0_rank := goodIn_r _ [14, 15, 16, 17, 18, 13, 19, 20, 21, 22, 23, 24, 44, 45] (by decide +kernel) (by decide +kernel)
set_option maxRecDepth 20000 in
theorem gX3_differentInBook_X0_rank : GoodIn wsX3_differentInBook (wsV RX3 84 RX0 yX0_rank wsX0_rank) := goodIn_app (goodIn_of _ (by decide +kernel)) ggX3_differentInBook_X0_rank
set_option maxRecDepth 20000 in
theorem ggX3_differentInBook_X2_add : GoodIn wsX3_differentInBook wsX2_add := goodIn_r _ [28, 9, 29, 42, 43] (by decide +kernel) (by decide +kernel)
set_option maxRecDepth 20000 in
theorem gX3_differentInBook_X2_add : GoodIn wsX3_differentInBook (wsV RX3 172 RX2 yX2_add wsX2_add) := goodIn_app (goodIn_of _ (by decide +kernel)) ggX3_differentInBook_X2_add
set_option maxRecDepth 20000 in
theorem ggX3_differentInBook_X2_size : GoodIn wsX3_differentInBook wsX2_size := goodIn_r _ [33, 9, 42, 43] (by decide +kernel) (by decide +kernel)
set_option maxRecDepth 20000 in
theorem gX3_differentInBook_X2_size : GoodIn wsX3_differentInBook (wsV RX3 173 RX2 yX2_size wsX2_size) := goodIn_app (goodIn_of _ (by decide +kernel)) ggX3_differentInBook_X2_size
end
section
/-! PERMUTATIONS, their rings and ranks -/
def Prm (n : Nat) (a : Nat → Nat) : Prop := (∀ i, i < n → a i < n) ∧ (∀ i j, i < n → j < n → a i = a j → i = j) ∧ (∀ v, v < n → ∃ i, i < n ∧ a i = v)
theorem pigeon : ∀ (n : Nat) (g : Nat → Nat), (∀ i, i ≤ n → g i < n) → ∃ i j, i < j ∧ j ≤ n ∧ g i = g j
  | 0, g, h => absurd (h 0 (Nat.le_refl _)) (Nat.not_lt_zero _)
  | n + 1, g, h => by
    by_cases hx : ∃ i, i ≤ n ∧ g i = g (n + 1)
    · obtain ⟨i, h1, h2⟩ := hx
      exact ⟨i, n + 1, by omega, Nat.le_refl _, h2⟩
    · have h0 : ∀ i, i ≤ n → g i ≠ g (n + 1) := fun i hi e => hx ⟨i, hi, e⟩
      have hn := h (n + 1) (Nat.le_refl _)
      obtain ⟨i, j, hij, hj, e⟩ := pigeon n (fun i => if g i = n then g (n + 1) else g i) (fun i hi => by
        have h1 := h0 i hi
        have h2 := h i (by omega)
        show (if g i = n then g (n + 1) else g i) < n
        split <;> omega)
      refine ⟨i, j, hij, by omega, ?_⟩
      have e : (if g i = n then g (n + 1) else g i) = (if g j = n then g (n + 1) else g j) := e
      have h1 := h0 i (by omega)
      have h2 := h0 j hj
      by_cases c1 : g i = n <;> by_cases c2 : g j = n
      · rw [c1, c2]
      · rw [if_pos c1, if_neg c2] at e; exact absurd e.symm h2
      · rw [if_neg c1, if_pos c2] at e; exact absurd e h1
      · rw [if_neg c1, if_neg c2] at e; exact e
theorem it_add (a : Nat → Nat) (k m j : Nat) : it a (k + m) j = it a k (it a m j) := by
  induction k with
  | zero => rw [Nat.zero_add]; rfl
  | succ k ih => rw [show k + 1 + m = (k + m) + 1 by omega]; show a (it a (k + m) j) = a (it a k (it a m j)); rw [ih]
theorem it_ltn {n : Nat} {a : Nat → Nat} (h : Prm n a) {j : Nat} (hj : j < n) : ∀ k, it a k j < n
  | 0 => hj
  | k + 1 => h.1 _ (it_ltn h hj k)
theorem it_inj {n : Nat} {a : Nat → Nat} (h : Prm n a) {x y : Nat} (hx : x < n) (hy : y < n) : ∀ k, it a k x = it a k y → x = y
  | 0, e => e
  | k + 1, e => it_inj h hx hy k (h.2.1 _ _ (it_ltn h hx k) (it_ltn h hy k) e)
theorem it_back {n : Nat} {a : Nat → Nat} (h : Prm n a) {j : Nat} (hj : j < n) : ∃ k, 1 ≤ k ∧ k ≤ n ∧ it a k j = j := by
  obtain ⟨i, k, hik, hk, e⟩ := pigeon n (fun i => it a i j) (fun i _ => it_ltn h hj i)
  refine ⟨k - i, by omega, by omega, ?_⟩
  have e : it a i j = it a k j := e
  rw [show k = i + (k - i) by omega, it_add] at e
  exact (it_inj h hj (it_ltn h hj _) i e).symm
theorem per_min {a : Nat → Nat} {n j i : Nat} (h1 : 1 ≤ i) (h2 : i < per a n j) : it a i j ≠ j := by
  have := (fnd_spec (fun k => it a (k + 1) j == j) (n - 1)).2.1 (i - 1) (by unfold per at h2; omega)
  rw [Nat.sub_add_cancel h1] at this
  simpa using this
theorem per_it {n : Nat} {a : Nat → Nat} (h : Prm n a) {j : Nat} (hj : j < n) : it a (per a n j) j = j := by
  obtain ⟨h1, h2, h3⟩ := fnd_spec (fun k => it a (k + 1) j == j) (n - 1)
  by_cases c : fnd (fun k => it a (k + 1) j == j) (n - 1) < n - 1
  · simpa [per] using h3 c
  · obtain ⟨k, k1, k2, k3⟩ := it_back h hj
    have e : per a n j = n := by unfold per; omega
    by_cases ck : k < n
    · exact absurd k3 (per_min k1 (by rw [e]; exact ck))
    · rw [e, show n = k by omega]; exact k3
theorem it_mul {a : Nat → Nat} {d j : Nat} (h : it a d j = j) : ∀ k, it a (d * k) j = j
  | 0 => rfl
  | k + 1 => by rw [Nat.mul_succ, it_add, h]; exact it_mul h k
theorem it_mod {a : Nat → Nat} {d j : Nat} (h : it a d j = j) (t : Nat) : it a t j = it a (t % d) j := by
  have e := Nat.mod_add_div t d
  rw [← e, it_add, it_mul h, Nat.add_mul_mod_self_left, Nat.mod_mod]
def fac : Nat → Nat
  | 0 => 1
  | k + 1 => (k + 1) * fac k
theorem fac_pos : ∀ k, 0 < fac k
  | 0 => Nat.one_pos
  | k + 1 => Nat.mul_pos (Nat.succ_pos k) (fac_pos k)
theorem fac_le : ∀ k, k ≤ 8 → fac k ≤ 40320 := by decide
theorem sm_add (F : Nat → Nat) (x : Nat) : ∀ y, sm F (x + y) = sm F x + sm (fun i => F (x + i)) y
  | 0 => rfl
  | y + 1 => by
    show sm F (x + y) + F (x + y) = sm F x + (sm (fun i => F (x + i)) y + F (x + y))
    rw [sm_add F x y, Nat.add_assoc]
theorem sm_plus (F G : Nat → Nat) : ∀ k, sm (fun q => F q + G q) k = sm F k + sm G k
  | 0 => rfl
  | k + 1 => by
    show sm (fun q => F q + G q) k + (F k + G k) = (sm F k + F k) + (sm G k + G k)
    rw [sm_plus F G k]; omega
theorem sm_one {F : Nat → Nat} {i : Nat} : ∀ {k : Nat}, i < k → (∀ q, q < k → q ≠ i → F q = 0) → sm F k = F i
  | 0, h, _ => absurd h (Nat.not_lt_zero _)
  | k + 1, h, h0 => by
    show sm F k + F k = F i
    by_cases c : i = k
    · subst c
      rw [sm_zero (fun q hq => h0 q (by omega) (by omega)), Nat.zero_add]
    · rw [sm_one (by omega) (fun q hq hn => h0 q (by omega) hn), h0 k (by omega) (Ne.symm c), Nat.add_zero]
/-- counting by values and by places -/
theorem sm_prm {n : Nat} {a : Nat → Nat} (h : Prm n a) (F : Nat → Nat) : ∀ v, v ≤ n → sm F v = sm (fun q => if a q < v then F (a q) else 0) n
  | 0, _ => (sm_zero (fun q _ => if_neg (Nat.not_lt_zero _))).symm
  | v + 1, hv => by
    obtain ⟨i, hi, e⟩ := h.2.2 v (by omega)
    have h1 : sm (fun q => if a q = v then F (a q) else 0) n = F v := by
      rw [sm_one hi (fun q hq hn => if_neg (fun z => hn (h.2.1 q i hq hi (z.trans e.symm))))]
      show (if a i = v then F (a i) else 0) = F v
      rw [if_pos e, e]
    have h2 : sm (fun q => if a q < v + 1 then F (a q) else 0) n = sm (fun q => (if a q < v then F (a q) else 0) + (if a q = v then F (a q) else 0)) n := sm_congr (fun q _ => by
      by_cases c1 : a q < v
      · rw [if_pos c1, if_neg (show ¬ a q = v by omega), if_pos (show a q < v + 1 by omega), Nat.add_zero]
      · by_cases c2 : a q = v
        · rw [if_neg c1, if_pos c2, if_pos (by omega), Nat.zero_add]
        · rw [if_neg c1, if_neg c2, if_neg (by omega)])
    show sm F v + F v = _
    rw [h2, sm_plus, h1, sm_prm h F v (by omega)]
theorem sm_const (c : Nat) : ∀ k, sm (fun _ => c) k = k * c
  | 0 => (Nat.zero_mul c).symm
  | k + 1 => by show sm (fun _ => c) k + c = _; rw [sm_const c k, Nat.succ_mul]
theorem sm_prm1 {n : Nat} {a : Nat → Nat} (h : Prm n a) {v : Nat} (hv : v ≤ n) : sm (fun q => if a q < v then 1 else 0) n = v := by
  have := sm_prm h (fun _ => 1) v hv
  rw [sm_const, Nat.mul_one] at this
  exact this.symm
/-! the rank -/
def mrk (f : Nat → Nat) (n : Nat) : Nat → Nat
  | 0 => 0
  | k + 1 => mrk f n k + lss f n k * fac (n - 1 - k)
theorem mrk_hrk (f : Nat → Nat) (n : Nat) : ∀ k, k ≤ n → mrk f n k = hrk f n k * fac (n - k)
  | 0, _ => (Nat.zero_mul _).symm
  | k + 1, h => by
    show mrk f n k + lss f n k * fac (n - 1 - k) = (hrk f n k * (n - k) + lss f n k) * fac (n - (k + 1))
    rw [mrk_hrk f n k (by omega), Nat.add_mul, Nat.mul_assoc, show n - (k + 1) = n - 1 - k by omega]
    have e : fac (n - k) = (n - k) * fac (n - 1 - k) := by
      rw [show n - k = (n - 1 - k) + 1 by omega]; rfl
    rw [e]
theorem mrk_eq (f : Nat → Nat) (n : Nat) : mrk f n n = hrk f n n := by
  rw [mrk_hrk f n n (Nat.le_refl _), Nat.sub_self]; exact Nat.mul_one _
theorem sm_lsf_le (f : Nat → Nat) (j : Nat) : ∀ k, sm (lsf f j) k ≤ k - (j + 1)
  | 0 => Nat.zero_le _
  | k + 1 => by
    show sm (lsf f j) k + lsf f j k ≤ k + 1 - (j + 1)
    have h1 := sm_lsf_le f j k
    by_cases c : j < k
    · have h2 : lsf f j k ≤ 1 := by unfold lsf; split <;> decide
      omega
    · rw [lsf_le (by omega), sm_zero (fun q hq => lsf_le (by omega))]
      omega
theorem lss_le (f : Nat → Nat) (n j : Nat) : lss f n j ≤ n - (j + 1) := sm_lsf_le f j n
/-- the last t digits -/
def trk (f : Nat → Nat) (n : Nat) : Nat → Nat
  | 0 => 0
  | t + 1 => lss f n (n - 1 - t) * fac t + trk f n t
theorem trk_lt (f : Nat → Nat) (n : Nat) : ∀ t, t ≤ n → trk f n t < fac t
  | 0, _ => Nat.one_pos
  | t + 1, h => by
    have h1 := trk_lt f n t (by omega)
    have h2 : lss f n (n - 1 - t) ≤ t := Nat.le_trans (lss_le f n _) (by omega)
    have h3 := Nat.mul_le_mul_right (fac t) h2
    show lss f n (n - 1 - t) * fac t + trk f n t < (t + 1) * fac t
    rw [Nat.succ_mul]
    omega
theorem mrk_trk (f : Nat → Nat) (n : Nat) : ∀ k, k ≤ n → mrk f n k + trk f n (n - k) = trk f n n
  | 0, _ => by rw [Nat.sub_zero]; exact Nat.zero_add _
  | k + 1, h => by
    rw [← mrk_trk f n k (by omega), show n - k = (n - (k + 1)) + 1 by omega]
    show mrk f n k + lss f n k * fac (n - 1 - k) + trk f n (n - (k + 1)) = mrk f n k + (lss f n (n - 1 - (n - (k + 1))) * fac (n - (k + 1)) + trk f n (n - (k + 1)))
    rw [show n - 1 - (n - (k + 1)) = k by omega, show n - 1 - k = n - (k + 1) by omega]
    omega
theorem trk_hrk (f : Nat → Nat) (n : Nat) : trk f n n = hrk f n n := by
  have := mrk_trk f n n (Nat.le_refl _)
  rw [Nat.sub_self] at this
  rw [← mrk_eq]
  exact this.symm
theorem hrk_lt (f : Nat → Nat) (n : Nat) : hrk f n n < fac n := by
  rw [← trk_hrk]; exact trk_lt f n n (Nat.le_refl _)
theorem trk_div (f : Nat → Nat) {n t : Nat} (h : t < n) : trk f n (t + 1) / fac t = lss f n (n - 1 - t) ∧ trk f n (t + 1) % fac t = trk f n t := by
  have h1 := trk_lt f n t (by omega)
  show (lss f n (n - 1 - t) * fac t + trk f n t) / fac t = _ ∧ (lss f n (n - 1 - t) * fac t + trk f n t) % fac t = _
  rw [Nat.mul_comm]
  refine ⟨?_, ?_⟩
  · rw [Nat.mul_add_div (fac_pos t), Nat.div_eq_of_lt h1, Nat.add_zero]
  · rw [Nat.mul_add_mod, Nat.mod_eq_of_lt h1]
/-- which bells below a place's own one stand behind it: all that don't stand ahead -/
theorem lss_free {n : Nat} {a : Nat → Nat} (h : Prm n a) {j : Nat} (hj : j < n) {F : Nat → Nat} (h0 : ∀ q, q < j → F (a q) = 0) (h1 : ∀ q, j ≤ q → q < n → F (a q) = 1) : sm F (a j) = lss a n j := by
  rw [sm_prm h F (a j) (Nat.le_of_lt (h.1 j hj))]
  refine sm_congr (fun q hq => ?_)
  by_cases c : a q < a j
  · rw [if_pos c]
    by_cases c2 : j < q
    · rw [h1 q (by omega) hq, lsf1 c2 c]
    · have c3 : q ≠ j := fun e => by rw [e] at c; omega
      rw [h0 q (by omega), lsf_le (by omega)]
  · rw [if_neg c, lsf0 (by omega)]
theorem lss_congr {a b : Nat → Nat} {n j : Nat} (hj : j < n) (h : ∀ i, i < n → a i = b i) : lss a n j = lss b n j := sm_congr (fun q hq => by unfold lsf; rw [h q hq, h j hj])
theorem hrk_congr {a b : Nat → Nat} {n : Nat} (h : ∀ i, i < n → a i = b i) : ∀ k, k ≤ n → hrk a n k = hrk b n k
  | 0, _ => rfl
  | k + 1, hk => by
    show hrk a n k * (n - k) + lss a n k = hrk b n k * (n - k) + lss b n k
    rw [hrk_congr h k (by omega), lss_congr (by omega) h]
theorem trk_dig {a b : Nat → Nat} {n : Nat} : ∀ t, t ≤ n → trk a n t = trk b n t → ∀ i, n - t ≤ i → i < n → lss a n i = lss b n i
  | 0, _, _, i, h1, h2 => absurd h1 (by omega)
  | t + 1, ht, e, i, h1, h2 => by
    have d1 := trk_div a (n := n) (t := t) (by omega)
    have d2 := trk_div b (n := n) (t := t) (by omega)
    rw [e] at d1
    by_cases c : i = n - 1 - t
    · rw [c, ← d1.1, d2.1]
    · exact trk_dig t (by omega) (by rw [← d1.2, d2.2]) i (by omega) h2
theorem hrk_inj {a b : Nat → Nat} {n : Nat} (ha : Prm n a) (hb : Prm n b) (e : hrk a n n = hrk b n n) : ∀ j, j < n → a j = b j := by
  have hd := trk_dig (a := a) (b := b) n (Nat.le_refl n) (by rw [trk_hrk, trk_hrk, e])
  intro j
  induction j using Nat.strongRecOn with
  | _ j ih =>
    intro hj
    have fa : ∀ (c : Nat → Nat), Prm n c → (∀ q, q < j → a q = c q) → sm (fun x => if ∃ q, q < j ∧ a q = x then 0 else 1) (c j) = lss c n j := fun c hc hq => by
      refine lss_free hc hj (fun q h => if_pos ⟨q, h, hq q h⟩) (fun q h1 h2 => if_neg (fun z => ?_))
      obtain ⟨x, hx, ex⟩ := z
      have := hc.2.1 x q (by omega) h2 ((hq x hx).symm.trans ex)
      omega
    have e1 := fa a ha (fun q _ => rfl)
    have e2 := fa b hb (fun q hq => ih q hq (by omega))
    rw [hd j (by omega) hj, ← e2] at e1
    have mono : ∀ x y, x < y → (¬ ∃ q, q < j ∧ a q = x) → sm (fun x => if ∃ q, q < j ∧ a q = x then 0 else 1) x < sm (fun x => if ∃ q, q < j ∧ a q = x then 0 else 1) y := by
      intro x y hxy hn
      rw [show y = (x + 1) + (y - (x + 1)) by omega, sm_add, sm_succ]
      have : (if ∃ q, q < j ∧ a q = x then 0 else 1) = 1 := if_neg hn
      omega
    rcases Nat.lt_trichotomy (a j) (b j) with c | c | c
    · have := mono _ _ c (fun z => by
        obtain ⟨x, hx, ex⟩ := z
        have := ha.2.1 x j (by omega) hj ex
        omega)
      omega
    · exact c
    · have := mono _ _ c (fun z => by
        obtain ⟨x, hx, ex⟩ := z
        have := hb.2.1 x j (by omega) hj ((ih x hx (by omega)).symm.trans ex)
        omega)
      omega
end
section
/-! MORE ROWS: new arrays, what only some cells changed, numbers in a range; masks, orders -/
theorem xrow_congr {D : va_G} {cI : ClassId} {a n : Nat} {f g : Nat → Nat} {H : Heap} (h : ∀ j, j < n → f j = g j) (hat : va_at D vwCl (a, .inl (cI, n, .inl (xA f))) H) : va_at D vwCl (a, .inl (cI, n, .inl (xA g))) H := by
  have e : vp_cell cI (n, .inl (xA f)) = vp_cell cI (n, .inl (xA g)) := by
    rw [vp_cell_i, vp_cell_i]
    unfold arrV
    congr 1
    apply Array.ext
    · simp
    · intro i h1 h2
      have hi : i < n := by simpa using h1
      simp [xA, h i hi]
  have h1 : H[a]? = some (vp_cell cI (n, .inl (xA f))) := hat
  rw [e] at h1
  exact h1
def xRow (D : va_G) (cI : ClassId) (q n : Nat) (f : Nat → Nat) (H : Heap) : Prop := va_at D vwCl (q, .inl (cI, n, .inl (xA f))) H
theorem xat_old {D : va_G} {q : Nat × va_E} {H H1 : Heap} (h : va_at D vwCl q H) (hk : ∀ x : Nat, x < H.size → H1[x]? = H[x]?) : va_at D vwCl q H1 := h.kept (hk q.1 h.lt)
theorem xk_old {H H1 : Heap} (hk : ∀ q : Nat, q < H.size → ¬ H.size ≤ q → H1[q]? = H[q]?) : ∀ x : Nat, x < H.size → H1[x]? = H[x]? := fun x hx => hk x hx (Nat.not_le.mpr hx)
section XL2
variable {p : Program} {l : Launch} {e : Env} {R : Room} {s : State} {m : MethodId} {args : Array Value} {below : List Frame} {meth : Method} {c : Code} {H : Heap} {locs : List Loc} {cells slots : Nat} {Q : State → Prop}
variable {cc : ByteArray} {pc : Nat} {ls : Array Slot} {rest : List Value}
theorem x_newa {D : va_G} {cI cC : ClassId} {A : Nat → Prop} {H0 : Heap} (hx : p.tables.exec = Jvm.exec) (hb : c.code = cc) (harr : (Cond.arrayClass .int).before args s = true) (hK : xK D cI cC s) (hS : va_S A H0 H locs) {n : Nat} (hn : n < 1000) (hcells : cells + 1 ≤ R.cells) (hslots : slots + n ≤ R.slots) (hdg : decode cc pc = .ok (.newarray .int, 2))
    (kk : ∀ (q : Nat) (H1 : Heap), q = H.size → xRow D cI q n (fun _ => 0) H1 → H1.size = H.size + 1 → (∀ x, x < H.size → H1[x]? = H[x]?) → va_S A H0 H1 locs → W p l e R s m args below meth c H1 locs (cells + 1) (slots + n) Q (F0 m (pc + 2) ls (.ref q :: rest))) : W p l e R s m args below meth c H locs cells slots Q (F0 m pc ls (.int (nI n) :: rest)) := by
  have hb31 : n < 2 ^ 31 := Nat.lt_trans hn (by decide)
  refine va_newaK (atype := .int) (N := n) hx hb harr rfl hdg rfl (nI_pos hb31) (nI_clamp hb31) (by show n * 4 ≤ _; omega) hcells hslots rfl fun H1 cA e1 z1 o1 hAr hNm => ?_
  have hcA : cA = cI := Option.some.inj (hNm.symm.trans (hK.2 0 _ rfl).2)
  subst hcA
  exact kk H.size H1 rfl e1 z1 o1 ⟨Nat.le_trans hS.1 (by omega), fun x h1 h2 => (o1 x (Nat.lt_of_lt_of_le h1 hS.1)).trans (hS.2.1 x h1 h2), hS.2.2⟩
end XL2
/-- a number in a range -/
abbrev inR (x : Int32) (N : Nat) : Prop := ¬ x < 0 ∧ x.toNatClampNeg < N
theorem inR_nI {j N : Nat} (hj : j < 2 ^ 31) : inR (nI j) N ↔ j < N := by
  unfold inR
  rw [nI_clamp hj]
  exact ⟨fun h => h.2, fun h => ⟨nI_pos hj, h⟩⟩
theorem inR_of {x : Int32} {N : Nat} (h : inR x N) : ∃ j, j < N ∧ j < 2 ^ 31 ∧ x = nI j := by
  obtain ⟨j, hj, rfl⟩ := nI_of h.1
  exact ⟨j, (inR_nI hj).mp h, hj, rfl⟩
theorem inR_in {x : Int32} {N : Nat} (hN : N < 2 ^ 30) : (nI 0 ≤ x ∧ x ≤ nI N - nI 1) ↔ inR x N := by
  by_cases h : x < 0
  · exact ⟨fun z => absurd h (Int32.not_lt.mpr z.1), fun z => absurd h z.1⟩
  · obtain ⟨j, hj, rfl⟩ := nI_of h
    rw [inR_nI hj]
    by_cases c : N = 0
    · subst c
      refine ⟨fun z => absurd z.2 (fun q => ?_), fun z => absurd z (Nat.not_lt_zero _)⟩
      have h1 : nI j ≤ (-1 : Int32) := q
      have h2 : (0 : Int32) ≤ -1 := Int32.le_trans (nI_pos' hj) h1
      exact absurd h2 (by decide)
    · rw [pk_sub (by omega), nI_leI hj (by omega)]
      exact ⟨fun z => by have := z.2; omega, fun z => ⟨nI_le (Nat.zero_le _) hj, by omega⟩⟩
theorem ite10 {P Q : Prop} [Decidable P] [Decidable Q] (h : P ↔ Q) : (if P then 1 else 0 : Nat) = if Q then 1 else 0 := by
  by_cases q : Q
  · rw [if_pos q, if_pos (h.mpr q)]
  · rw [if_neg q, if_neg (fun z => q (h.mp z))]
/-! masks -/
set_option maxRecDepth 100000 in
theorem msk_off : ∀ w, w < 256 → ∀ b, b < 8 → bitN w b = 1 → nI w &&& ((nI 1 <<< (nI b &&& 31)) ^^^ (-1)) = nI (w - 2 ^ b) := by decide +kernel
set_option maxRecDepth 100000 in
theorem msk_bit : ∀ w, w < 256 → ∀ b, b < 8 → bitN w b = 1 → w - 2 ^ b < 256 ∧ ∀ i, i < 8 → bitN (w - 2 ^ b) i = if i = b then 0 else bitN w i := by decide +kernel
theorem msk_all : ∀ n, n ≤ 8 → 2 ^ n - 1 < 256 ∧ ∀ i, i < 8 → bitN (2 ^ n - 1) i = if i < n then 1 else 0 := by decide +kernel
/-! orders -/
def lmuT (a b : Nat) : Bool := a == 0 || b == 0 || !(840 % a == 0) || (lmu a b == a / Nat.gcd b a * b && lmu a b % a == 0 && lmu a b % b == 0 && 840 % lmu a b == 0 && decide (0 < lmu a b) && decide (lmu a b < 841) && decide (0 < Nat.gcd b a) && decide (Nat.gcd b a < 9))
set_option maxRecDepth 100000 in
theorem lmu_tabB : ∀ a, a < 841 → ∀ b, b < 9 → lmuT a b = true := by decide +kernel
theorem lmu_tab (a : Nat) (ha : a < 841) (b : Nat) (hb : b < 9) (h1 : 0 < a) (h2 : 0 < b) (h3 : 840 % a = 0) : lmu a b = a / Nat.gcd b a * b ∧ lmu a b % a = 0 ∧ lmu a b % b = 0 ∧ 840 % lmu a b = 0 ∧ 0 < lmu a b ∧ lmu a b < 841 ∧ 0 < Nat.gcd b a ∧ Nat.gcd b a < 9 := by
  have h := lmu_tabB a ha b hb
  unfold lmuT at h
  have e1 : (a == 0) = false := by simp; omega
  have e2 : (b == 0) = false := by simp; omega
  have e3 : (840 % a == 0) = true := by simp [h3]
  rw [e1, e2, e3] at h
  simp only [Bool.false_or, Bool.not_true, Bool.and_eq_true, beq_iff_eq, decide_eq_true_eq] at h
  obtain ⟨⟨⟨⟨⟨⟨⟨q1, q2⟩, q3⟩, q4⟩, q5⟩, q6⟩, q7⟩, q8⟩ := h
  exact ⟨q1, q2, q3, q4, q5, q6, q7, q8⟩
theorem ord_ok {a : Nat → Nat} {n : Nat} (hn : n ≤ 8) : ∀ k, k ≤ n → 0 < ord a n k ∧ ord a n k < 841 ∧ 840 % ord a n k = 0
  | 0, _ => ⟨Nat.one_pos, show 1 < 841 by decide, show 840 % 1 = 0 by decide⟩
  | k + 1, hk => by
    obtain ⟨h1, h2, h3⟩ := ord_ok (a := a) hn k (by omega)
    have h4 := per_le (f := a) (show k < n by omega) k
    obtain ⟨-, -, -, g1, g2, g3, -⟩ := lmu_tab (ord a n k) h2 (per a n k) (by omega) h1 (per_1 _ _ _) h3
    exact ⟨g2, g3, g1⟩
theorem ord_dvd {a : Nat → Nat} {n : Nat} (hn : n ≤ 8) : ∀ k, k ≤ n → ∀ j, j < k → ord a n k % per a n j = 0
  | 0, _, j, hj => absurd hj (Nat.not_lt_zero _)
  | k + 1, hk, j, hj => by
    obtain ⟨h1, h2, h3⟩ := ord_ok (a := a) hn k (by omega)
    have h4 := per_le (f := a) (show k < n by omega) k
    obtain ⟨-, g0, g1, -⟩ := lmu_tab (ord a n k) h2 (per a n k) (by omega) h1 (per_1 _ _ _) h3
    show lmu (ord a n k) (per a n k) % per a n j = 0
    by_cases c : j = k
    · rw [c]; exact g1
    · have h5 := ord_dvd hn k (by omega) j (by omega) (a := a)
      exact Nat.mod_eq_zero_of_dvd (Nat.dvd_trans (Nat.dvd_of_mod_eq_zero h5) (Nat.dvd_of_mod_eq_zero g0))
theorem it_ord {a : Nat → Nat} {n j : Nat} (hn : n ≤ 8) (h : Prm n a) (hj : j < n) (t : Nat) : it a (t % ord a n n) j = it a (t % per a n j) j := by
  rw [it_mod (per_it h hj) (t % ord a n n), Nat.mod_mod_of_dvd _ (Nat.dvd_of_mod_eq_zero (ord_dvd hn n (Nat.le_refl _) j hj))]
/-! the least of a ring, told by the whole ring -/
def isf (f : Nat → Nat) (j : Nat) : Nat → Nat
  | 0 => 1
  | k + 1 => isf f j k * (if j < it f (k + 1) j then 1 else 0)
theorem isf_le (f : Nat → Nat) (j : Nat) : ∀ k, isf f j k < 2
  | 0 => Nat.one_lt_two
  | k + 1 => by
    have := isf_le f j k
    show isf f j k * (if j < it f (k + 1) j then 1 else 0) < 2
    split <;> omega
theorem isf_1 {f : Nat → Nat} {j : Nat} : ∀ {k : Nat}, (∀ i, i < k → j < it f (i + 1) j) → isf f j k = 1
  | 0, _ => rfl
  | k + 1, h => by
    show isf f j k * (if j < it f (k + 1) j then 1 else 0) = 1
    rw [isf_1 (fun i hi => h i (by omega)), if_pos (h k (by omega))]
theorem isf_0 {f : Nat → Nat} {j i : Nat} (hi : it f (i + 1) j ≤ j) : ∀ {k : Nat}, i < k → isf f j k = 0
  | 0, h => absurd h (Nat.not_lt_zero _)
  | k + 1, h => by
    show isf f j k * (if j < it f (k + 1) j then 1 else 0) = 0
    by_cases c : i = k
    · subst c; rw [if_neg (by omega)]; rfl
    · rw [isf_0 hi (show i < k by omega), Nat.zero_mul]
theorem isf_lst {n : Nat} {a : Nat → Nat} (h : Prm n a) {j : Nat} (hj : j < n) : isf a j (per a n j - 1) = lst a n j := by
  have hp := per_it h hj
  have h1 := per_1 a n j
  have h2 := per_le (f := a) hj j
  obtain ⟨u1, u2, u3⟩ := fnd_spec (fun i => decide (it a (i + 1) j ≤ j)) n
  generalize hu : fnd (fun i => decide (it a (i + 1) j ≤ j)) n = u at u1 u2 u3
  have hl : lst a n j = if it a (u + 1) j = j then 1 else 0 := by unfold lst; rw [hu]
  have hle : u ≤ per a n j - 1 := by
    rcases Nat.lt_or_ge (per a n j - 1) u with c | c
    · have := u2 (per a n j - 1) c
      rw [Nat.sub_add_cancel h1, hp] at this
      simp at this
    · exact c
  rw [hl]
  by_cases c : u = per a n j - 1
  · rw [if_pos (by rw [c, Nat.sub_add_cancel h1]; exact hp)]
    exact isf_1 (fun i hi => by have := u2 i (by omega); simpa using this)
  · have h3 : it a (u + 1) j ≤ j := by simpa using u3 (by omega)
    rw [if_neg (per_min (by omega) (show u + 1 < per a n j by omega))]
    exact isf_0 h3 (by omega)
/-! a step's check, told the other way -/
def msp (k n : Nat) : Nat → Nat → Nat
  | 0, op => if op % 2 = 0 then 1 else 0
  | t + 1, op => if bitN k (n - (t + 1)) = 1 then (if op % 2 = 1 then 0 else msp k n t 0) else msp k n t (op + 1)
set_option maxRecDepth 100000 in
theorem msp_stp : ∀ n, n ≤ 8 → ∀ k, k < 2 ^ n → msp k n n 0 = stp k n n 0 := by decide +kernel
end
section
theorem xand01 : ∀ (w : Nat), w < 2 → ∀ v, v < 2 → nI w &&& nI v = nI (w * v) := by decide
end
section
/-! THE MODEL: its leaves that make rows or write -/
theorem rst_k2 {k n u i : Nat} {f : Nat → Nat} (h : i < n) (hb : bitN k i = 1) : rst k n (u + 1) i f = rst k n u (i + 1) f := by
  by_cases c : i + 1 < n
  · exact rst_k c hb
  · rw [rst_end (by omega), rst_end (by omega)]
theorem stp_inv {k n u i : Nat} (h : i < n) (hb : bitN k i = 0) (hs : stp k n (u + 1) i = 1) : i + 1 < n ∧ bitN k (i + 1) = 0 ∧ stp k n u (i + 2) = 1 := by
  by_cases c : i + 1 < n ∧ bitN k (i + 1) = 0
  · rw [stp_x h hb c.1 c.2] at hs
    exact ⟨c.1, c.2, hs⟩
  · rw [stp_0 h hb c] at hs
    exact absurd hs (by decide)
/-- 1, if a value is none of the first i -/
def nwg (g : Nat → Nat) (k : Nat) : Nat → Nat
  | 0 => 1
  | i + 1 => nwg g k i * (if g i = g k then 0 else 1)
def nwf (g : Nat → Nat) (k : Nat) : Nat := nwg g k k
theorem nwg_lt (g : Nat → Nat) (k : Nat) : ∀ i, nwg g k i < 2
  | 0 => Nat.one_lt_two
  | i + 1 => by
    have := nwg_lt g k i
    show nwg g k i * (if g i = g k then 0 else 1) < 2
    split <;> omega
def cvl (n ch st rg d : Nat) : Nat → Nat
  | 0 => n
  | 1 => fac n
  | 2 => ch
  | 3 => d
  | 4 => st
  | _ => rg
def tld (f : Nat → Nat) (n : Nat) : Nat → Nat
  | 0 => hrk f n n
  | 1 => ivs f n
  | 2 => ivs f n % 2
  | 3 => sm (lst f n) n
  | 4 => mxr f n n
  | 5 => ord f n n
  | 6 => sm (own f) n
  | _ => pos f n 0
theorem ivs_le (f : Nat → Nat) (n : Nat) : ivs f n ≤ n * n := sm_le (fun q _ => Nat.le_trans (lss_le f n q) (by omega))
theorem bck_at {n : Nat} {f g : Nat → Nat} (h : Prm n g) : ∀ t, t ≤ n → ∀ i, i < t → bck f g t (g i) = i
  | 0, _, i, hi => absurd hi (Nat.not_lt_zero _)
  | t + 1, ht, i, hi => by
    show va_up (bck f g t) (g t) t (g i) = i
    by_cases c : i = t
    · rw [c]; exact va_up_self _ _ _
    · rw [va_up_ne _ _ (fun e => c (h.2.1 i t (by omega) (by omega) e))]
      exact bck_at h t (by omega) i (by omega)
theorem bck_inv {n : Nat} {f g : Nat → Nat} (h : Prm n g) {v : Nat} (hv : v < n) : bck f g n v = pos g n v := by
  obtain ⟨i, hi, e⟩ := h.2.2 v hv
  rw [← e, bck_at h n (Nat.le_refl _) i hi]
  exact (fnd_eq (Nat.le_of_lt hi) (fun q hq => by
    have : g q ≠ g i := fun z => by have := h.2.1 q i (by omega) hi z; omega
    simpa using this) (fun _ => by simp)).symm
theorem bck_pos {n : Nat} {f g : Nat → Nat} (h : Prm n g) (hn : 0 < n) : bck f g n 0 = pos g n 0 := bck_inv h hn
end
section
/-! MORE OF PERMUTATIONS: what the calls make of them -/
theorem Prm.congr {n : Nat} {a b : Nat → Nat} (h : Prm n a) (e : ∀ i, i < n → a i = b i) : Prm n b :=
  ⟨fun i hi => by rw [← e i hi]; exact h.1 i hi, fun i j hi hj z => h.2.1 i j hi hj (by rw [e i hi, e j hj]; exact z), fun v hv => by
    obtain ⟨i, hi, z⟩ := h.2.2 v hv
    exact ⟨i, hi, by rw [← e i hi]; exact z⟩⟩
theorem Prm.comp {n : Nat} {a b : Nat → Nat} (ha : Prm n a) (hb : Prm n b) : Prm n (fun q => a (b q)) :=
  ⟨fun i hi => ha.1 _ (hb.1 i hi), fun i j hi hj z => hb.2.1 i j hi hj (ha.2.1 _ _ (hb.1 i hi) (hb.1 j hj) z), fun v hv => by
    obtain ⟨x, hx, e⟩ := ha.2.2 v hv
    obtain ⟨i, hi, e2⟩ := hb.2.2 x hx
    exact ⟨i, hi, by show a (b i) = v; rw [e2, e]⟩⟩
theorem Prm.id (n : Nat) : Prm n (fun i => i) := ⟨fun _ h => h, fun _ _ _ _ e => e, fun v hv => ⟨v, hv, rfl⟩⟩
theorem xch_at (f : Nat → Nat) (j i : Nat) : xch f j i = if i = j + 1 then f j else if i = j then f (j + 1) else f i := rfl
theorem xch_as (f : Nat → Nat) (j i : Nat) : xch f j i = f (if i = j + 1 then j else if i = j then j + 1 else i) := by
  rw [xch_at]
  by_cases h : i = j + 1
  · rw [if_pos h, if_pos h]
  · rw [if_neg h, if_neg h]
    by_cases h2 : i = j
    · rw [if_pos h2, if_pos h2]
    · rw [if_neg h2, if_neg h2]
theorem Prm.tr {n j : Nat} (h : j + 1 < n) : Prm n (fun i => if i = j + 1 then j else if i = j then j + 1 else i) :=
  ⟨fun i hi => by
    show (if i = j + 1 then j else if i = j then j + 1 else i) < n
    split
    · omega
    · split <;> omega, fun x y hx hy e => by
    have e : (if x = j + 1 then j else if x = j then j + 1 else x) = (if y = j + 1 then j else if y = j then j + 1 else y) := e
    by_cases a1 : x = j + 1 <;> by_cases a2 : x = j <;> by_cases b1 : y = j + 1 <;> by_cases b2 : y = j <;> simp only [a1, a2, b1, b2, if_true, if_false, if_pos, if_neg] at e <;> first | omega | (split at e <;> omega), fun v hv => by
    by_cases a1 : v = j
    · exact ⟨j + 1, h, by show (if j + 1 = j + 1 then j else _) = v; rw [if_pos rfl, a1]⟩
    · by_cases a2 : v = j + 1
      · exact ⟨j, by omega, by show (if j = j + 1 then j else if j = j then j + 1 else j) = v; rw [if_neg (by omega), if_pos rfl, a2]⟩
      · exact ⟨v, hv, by show (if v = j + 1 then j else if v = j then j + 1 else v) = v; rw [if_neg a2, if_neg a1]⟩⟩
theorem Prm.xch {n j : Nat} {f : Nat → Nat} (h : Prm n f) (hj : j + 1 < n) : Prm n (xch f j) := (h.comp (Prm.tr hj)).congr (fun i _ => (xch_as f j i).symm)
theorem Prm.rst {k n : Nat} : ∀ (u i : Nat) (f : Nat → Nat), Prm n f → Prm n (rst k n u i f)
  | 0, _, _, h => h
  | u + 1, i, f, h => by
    by_cases c : i + 1 < n
    · by_cases b : bitN k i = 1
      · rw [rst_k c b]; exact Prm.rst u _ _ h
      · rw [rst_x c (by have := bitN_lt k i; omega)]; exact Prm.rst u _ _ (h.xch c)
    · rw [rst_end (by omega)]; exact h
theorem xch_congr {n j : Nat} {f g : Nat → Nat} (hj : j + 1 < n) (e : ∀ i, i < n → f i = g i) : ∀ i, i < n → xch f j i = xch g j i := fun i hi => by
  rw [xch_as, xch_as]
  exact e _ (by split <;> (try split) <;> omega)
theorem rst_congr {k n : Nat} : ∀ (u i : Nat) (f g : Nat → Nat), (∀ x, x < n → f x = g x) → ∀ x, x < n → rst k n u i f x = rst k n u i g x
  | 0, _, _, _, e => e
  | u + 1, i, f, g, e => by
    by_cases c : i + 1 < n
    · by_cases b : bitN k i = 1
      · rw [rst_k c b, rst_k c b]; exact rst_congr u _ _ _ e
      · have b0 : bitN k i = 0 := by have := bitN_lt k i; omega
        rw [rst_x c b0, rst_x c b0]; exact rst_congr u _ _ _ (xch_congr c e)
    · rw [rst_end (by omega), rst_end (by omega)]; exact e
theorem xch_bd {f : Nat → Nat} {j b : Nat} (h : ∀ i, f i < b) (i : Nat) : xch f j i < b := by rw [xch_as]; exact h _
theorem rst_bd {k n b : Nat} : ∀ (u i : Nat) (f : Nat → Nat), (∀ x, f x < b) → ∀ x, rst k n u i f x < b
  | 0, _, _, h => h
  | u + 1, i, f, h => by
    by_cases c : i + 1 < n
    · by_cases q : bitN k i = 1
      · rw [rst_k c q]; exact rst_bd u _ _ h
      · rw [rst_x c (by have := bitN_lt k i; omega)]; exact rst_bd u _ _ (xch_bd h)
    · rw [rst_end (by omega)]; exact h
/-- rung on by so many steps -/
def rgs (kf : Nat → Nat) (st n : Nat) (f : Nat → Nat) : Nat → (Nat → Nat)
  | 0 => f
  | k + 1 => rst (kf (k % st)) n n 0 (rgs kf st n f k)
theorem Prm.rgs {kf : Nat → Nat} {st n : Nat} {f : Nat → Nat} (h : Prm n f) : ∀ k, Prm n (rgs kf st n f k)
  | 0 => h
  | k + 1 => Prm.rst _ _ _ (Prm.rgs h k)
theorem rgs_congr {kf : Nat → Nat} {st n : Nat} {f g : Nat → Nat} (e : ∀ x, x < n → f x = g x) : ∀ k x, x < n → rgs kf st n f k x = rgs kf st n g k x
  | 0, x, hx => e x hx
  | k + 1, x, hx => rst_congr _ _ _ _ (rgs_congr e k) x hx
theorem rgs_bd {kf : Nat → Nat} {st n b : Nat} {f : Nat → Nat} (h : ∀ x, f x < b) : ∀ k x, rgs kf st n f k x < b
  | 0, x => h x
  | k + 1, x => rst_bd _ _ _ (rgs_bd h k) x
theorem cpy_lt {f g : Nat → Nat} {t i : Nat} (h : i < t) : cpy f g t i = g i := if_pos h
theorem Prm.cpy {n : Nat} {f g : Nat → Nat} (h : Prm n g) : Prm n (cpy f g n) := h.congr (fun i hi => (cpy_lt hi).symm)
theorem cpy_bd {f g : Nat → Nat} {t b : Nat} (hf : ∀ i, f i < b) (hg : ∀ i, i < t → g i < b) (i : Nat) : cpy f g t i < b := by
  unfold cpy
  split
  · exact hg i (by assumption)
  · exact hf i
theorem cpy_eq {f g g' : Nat → Nat} {t : Nat} (h : ∀ i, i < t → g i = g' i) : cpy f g t = cpy f g' t := by
  funext i
  unfold cpy
  by_cases c : i < t
  · rw [if_pos c, if_pos c, h i c]
  · rw [if_neg c, if_neg c]
theorem cpy_cpy (f m g : Nat → Nat) (t : Nat) : cpy f (cpy m g t) t = cpy f g t := cpy_eq (fun _ h => cpy_lt h)
theorem pos_lt {n : Nat} {g : Nat → Nat} (h : Prm n g) {v : Nat} (hv : v < n) : pos g n v < n ∧ g (pos g n v) = v := by
  obtain ⟨i, hi, e⟩ := h.2.2 v hv
  obtain ⟨h1, h2, h3⟩ := fnd_spec (fun i => g i == v) n
  have hlt : fnd (fun i => g i == v) n < n := by
    rcases Nat.lt_or_ge (fnd (fun i => g i == v) n) n with c | c
    · exact c
    · have := h2 i (by omega)
      simp [e] at this
  have h4 := h3 hlt
  exact ⟨hlt, by unfold pos; simpa using h4⟩
theorem Prm.pos {n : Nat} {g : Nat → Nat} (h : Prm n g) : Prm n (pos g n) :=
  ⟨fun v hv => (pos_lt h hv).1, fun v w hv hw e => by rw [← (pos_lt h hv).2, ← (pos_lt h hw).2, e], fun i hi => ⟨g i, h.1 i hi, h.2.1 _ _ (pos_lt h (h.1 i hi)).1 hi (pos_lt h (h.1 i hi)).2⟩⟩
theorem Prm.bck {n : Nat} {f g : Nat → Nat} (h : Prm n g) : Prm n (bck f g n) := (Prm.pos h).congr (fun _ hv => (bck_inv h hv).symm)
theorem Prm.it {n : Nat} {g : Nat → Nat} (h : Prm n g) : ∀ k, Prm n (it g k)
  | 0 => Prm.id n
  | k + 1 => h.comp (Prm.it h k)
theorem rpF_it {n : Nat} {g : Nat → Nat} (h : Prm n g) (t : Nat) {i : Nat} (hi : i < n) : rpF g n t i = it g t i := (it_mod (per_it h hi) t).symm
theorem Prm.rpF {n : Nat} {g : Nat → Nat} (h : Prm n g) (t : Nat) : Prm n (rpF g n t) := (Prm.it h t).congr (fun i hi => (rpF_it h t hi).symm)
/-! the row of a rank -/
def bmp (v x : Nat) : Nat := if v ≤ x then x + 1 else x
theorem bmp_lt {v x y : Nat} : bmp v x < bmp v y ↔ x < y := by
  unfold bmp
  by_cases a : v ≤ x <;> by_cases b : v ≤ y
  · rw [if_pos a, if_pos b]; omega
  · rw [if_pos a, if_neg b]; omega
  · rw [if_neg a, if_pos b]; omega
  · rw [if_neg a, if_neg b]
theorem bmp_v {v x : Nat} : bmp v x < v ↔ x < v := by
  unfold bmp
  by_cases a : v ≤ x
  · rw [if_pos a]; omega
  · rw [if_neg a]
theorem bmp_ne {v x : Nat} : bmp v x ≠ v := by
  unfold bmp
  by_cases a : v ≤ x
  · rw [if_pos a]; omega
  · rw [if_neg a]; omega
theorem bmp_inj {v x y : Nat} (h : bmp v x = bmp v y) : x = y := by
  rcases Nat.lt_trichotomy x y with c | c | c
  · have := (bmp_lt (v := v)).mpr c; omega
  · exact c
  · have := (bmp_lt (v := v)).mpr c; omega
theorem srG_0 {f : Nat → Nat} {n rk t : Nat} : srG f n rk (t + 1) (n - (t + 1)) = srR rk t % (t + 1) := if_pos rfl
theorem srG_s {f : Nat → Nat} {n rk t q : Nat} (h1 : n - (t + 1) < q) (h2 : q < n) : srG f n rk (t + 1) q = bmp (srR rk t % (t + 1)) (srG f n rk t q) := by
  show insA (srG f n rk t) n (n - (t + 1)) (srR rk t % (t + 1)) q = _
  unfold insA bmp
  rw [if_neg (by omega)]
  by_cases c : srR rk t % (t + 1) ≤ srG f n rk t q
  · rw [if_pos ⟨h1, h2, c⟩, if_pos c]
  · rw [if_neg (fun z => c z.2.2), if_neg c]
theorem srG_prm {f : Nat → Nat} {n rk : Nat} : ∀ t, t ≤ n → Prm t (fun i => srG f n rk t (n - t + i))
  | 0, _ => ⟨fun i h => absurd h (Nat.not_lt_zero _), fun i _ h => absurd h (Nat.not_lt_zero _), fun v h => absurd h (Nat.not_lt_zero _)⟩
  | t + 1, ht => by
    have ih := srG_prm (f := f) (n := n) (rk := rk) t (by omega)
    have hv : srR rk t % (t + 1) < t + 1 := Nat.mod_lt _ (by omega)
    have e0 : srG f n rk (t + 1) (n - (t + 1) + 0) = srR rk t % (t + 1) := srG_0
    have es : ∀ i, i < t → srG f n rk (t + 1) (n - (t + 1) + (i + 1)) = bmp (srR rk t % (t + 1)) (srG f n rk t (n - t + i)) := fun i hi => by
      rw [srG_s (by omega) (by omega), show n - (t + 1) + (i + 1) = n - t + i by omega]
    generalize srR rk t % (t + 1) = v at hv e0 es
    refine ⟨fun i hi => ?_, fun i j hi hj e => ?_, fun w hw => ?_⟩
    · cases i with
      | zero => show srG f n rk (t + 1) (n - (t + 1) + 0) < t + 1; rw [e0]; exact hv
      | succ i =>
        show srG f n rk (t + 1) (n - (t + 1) + (i + 1)) < t + 1
        rw [es i (by omega)]
        have : srG f n rk t (n - t + i) < t := ih.1 i (by omega)
        unfold bmp
        split <;> omega
    · have e : srG f n rk (t + 1) (n - (t + 1) + i) = srG f n rk (t + 1) (n - (t + 1) + j) := e
      cases i with
      | zero =>
        cases j with
        | zero => rfl
        | succ j => rw [e0, es j (by omega)] at e; exact absurd e.symm bmp_ne
      | succ i =>
        cases j with
        | zero => rw [e0, es i (by omega)] at e; exact absurd e bmp_ne
        | succ j =>
          rw [es i (by omega), es j (by omega)] at e
          rw [ih.2.1 i j (by omega) (by omega) (bmp_inj e)]
    · rcases Nat.lt_trichotomy w v with c | c | c
      · obtain ⟨i, hi, e⟩ := ih.2.2 w (by omega)
        have e : srG f n rk t (n - t + i) = w := e
        refine ⟨i + 1, by omega, ?_⟩
        show srG f n rk (t + 1) (n - (t + 1) + (i + 1)) = w
        rw [es i hi, e]; unfold bmp; rw [if_neg (by omega)]
      · exact ⟨0, by omega, by show srG f n rk (t + 1) (n - (t + 1) + 0) = w; rw [e0, c]⟩
      · obtain ⟨i, hi, e⟩ := ih.2.2 (w - 1) (by omega)
        have e : srG f n rk t (n - t + i) = w - 1 := e
        refine ⟨i + 1, by omega, ?_⟩
        show srG f n rk (t + 1) (n - (t + 1) + (i + 1)) = w
        rw [es i hi, e]; unfold bmp; rw [if_pos (by omega)]; omega
theorem srG_dig {f : Nat → Nat} {n rk : Nat} : ∀ t, t ≤ n → ∀ j, n - t ≤ j → j < n → lss (srG f n rk t) n j = srR rk (n - 1 - j) % (n - j)
  | 0, _, j, h1, h2 => absurd h1 (by omega)
  | t + 1, ht, j, h1, h2 => by
    by_cases c : j = n - (t + 1)
    · have hv : srR rk t % (t + 1) ≤ t := Nat.le_of_lt_succ (Nat.mod_lt _ (by omega))
      have hp := srG_prm (f := f) (rk := rk) t (by omega : t ≤ n)
      rw [show n - 1 - j = t by omega, show n - j = t + 1 by omega]
      have e : sm (lsf (srG f n rk (t + 1)) j) n = sm (lsf (srG f n rk (t + 1)) j) (n - t) + sm (fun i => lsf (srG f n rk (t + 1)) j (n - t + i)) t := by
        rw [← sm_add, show n - t + t = n by omega]
      show sm (lsf (srG f n rk (t + 1)) j) n = _
      rw [e, sm_zero (fun q hq => lsf_le (by omega)), Nat.zero_add]
      refine Eq.trans (sm_congr (fun i hi => ?_)) (sm_prm1 hp hv)
      show lsf (srG f n rk (t + 1)) j (n - t + i) = if srG f n rk t (n - t + i) < srR rk t % (t + 1) then 1 else 0
      unfold lsf
      rw [c, srG_0, srG_s (by omega) (by omega)]
      by_cases d : srG f n rk t (n - t + i) < srR rk t % (t + 1)
      · rw [if_pos ⟨by omega, bmp_v.mpr d⟩, if_pos d]
      · rw [if_neg (fun z => d (bmp_v.mp z.2)), if_neg d]
    · rw [← srG_dig t (by omega) j (by omega) h2]
      refine sm_congr (fun q hq => ?_)
      unfold lsf
      by_cases d : j < q
      · rw [srG_s (by omega) hq, srG_s (by omega) h2]
        by_cases z : srG f n rk t q < srG f n rk t j
        · rw [if_pos ⟨d, bmp_lt.mpr z⟩, if_pos ⟨d, z⟩]
        · rw [if_neg (fun y => z (bmp_lt.mp y.2)), if_neg (fun y => z y.2)]
      · rw [if_neg (fun y => d y.1), if_neg (fun y => d y.1)]
theorem srR_fac (rk : Nat) : ∀ t, srR rk t * fac t ≤ rk
  | 0 => by show rk * 1 ≤ rk; omega
  | t + 1 => by
    show srR rk t / (t + 1) * ((t + 1) * fac t) ≤ rk
    rw [← Nat.mul_assoc]
    exact Nat.le_trans (Nat.mul_le_mul_right _ (Nat.div_mul_le_self _ _)) (srR_fac rk t)
theorem srG_hrk {f : Nat → Nat} {n rk : Nat} (h : rk < fac n) : Prm n (srG f n rk n) ∧ hrk (srG f n rk n) n n = rk := by
  refine ⟨(srG_prm n (Nat.le_refl _)).congr (fun i _ => by rw [Nat.sub_self, Nat.zero_add]), ?_⟩
  have key : ∀ k, k ≤ n → hrk (srG f n rk n) n k = srR rk (n - k) := by
    intro k
    induction k with
    | zero =>
      intro _
      have h1 := srR_fac rk n
      show 0 = srR rk n
      rcases Nat.eq_zero_or_pos (srR rk n) with c | c
      · exact c.symm
      · have := Nat.mul_le_mul_right (fac n) c
        omega
    | succ k ih =>
      intro hk
      show hrk (srG f n rk n) n k * (n - k) + lss (srG f n rk n) n k = srR rk (n - (k + 1))
      rw [ih (by omega), srG_dig n (Nat.le_refl _) k (by omega) (by omega), show n - 1 - k = n - (k + 1) by omega]
      have e : srR rk (n - k) = srR rk (n - (k + 1)) / (n - k) := by
        have : n - k = n - (k + 1) + 1 := by omega
        rw [this]; rfl
      rw [e, Nat.mul_comm]
      exact Nat.div_add_mod _ _
  have := key n (Nat.le_refl _)
  rw [Nat.sub_self] at this
  exact this
theorem srG_bd8 {f : Nat → Nat} {n rk : Nat} (hn : n ≤ 8) (hf : ∀ i, f i < 8) (h : rk < fac n) (i : Nat) : srG f n rk n i < 8 := by
  by_cases c : i < n
  · have := (srG_hrk (f := f) h).1.1 i c; omega
  · have key : ∀ t, t ≤ n → srG f n rk t i = f i := by
      intro t
      induction t with
      | zero => intro _; rfl
      | succ t ih =>
        intro ht
        show insA (srG f n rk t) n (n - (t + 1)) (srR rk t % (t + 1)) i = f i
        unfold insA
        by_cases d : i = n - (t + 1)
        · omega
        · rw [if_neg d, if_neg (fun z => absurd z.2.1 (by omega))]; exact ih (by omega)
    rw [key n (Nat.le_refl _)]; exact hf i
theorem hrk_id {n : Nat} : hrk (fun i => i) n n = 0 := by
  have h0 : ∀ j, lss (fun i => i) n j = 0 := fun j => sm_zero (fun q _ => by
    unfold lsf
    rw [if_neg (fun z => absurd z.1 (Nat.not_lt.mpr (Nat.le_of_lt (show q < j from z.2))))])
  have : ∀ k, hrk (fun i => i) n k = 0 := by
    intro k
    induction k with
    | zero => rfl
    | succ k ih => show hrk (fun i => i) n k * (n - k) + lss (fun i => i) n k = 0; rw [ih, h0, Nat.zero_mul]
  exact this n
end
section
/-! THE STATE that class and reference share, and what each call makes of it: bells, changes written, their rows, steps, their bits, steps rung -/
abbrev AS : Type := Nat × Nat × (Nat → Nat → Nat) × Nat × (Nat → Nat) × Nat
def AI (S : AS) : Prop := (2 ≤ S.1 ∧ S.1 ≤ 8) ∧ S.2.1 ≤ 16 ∧ S.2.2.2.1 ≤ 10 ∧ (∀ k i, S.2.2.1 k i < 8) ∧ (∀ k, k < S.2.1 → Prm S.1 (S.2.2.1 k)) ∧ (∀ j, j < S.2.2.2.1 → stp (S.2.2.2.2.1 j) S.1 S.1 0 = 1) ∧ (∀ j, S.2.2.2.2.1 j < 2 ^ 31)
def rkS (S : AS) (k : Nat) : Nat := hrk (S.2.2.1 k) S.1 S.1
def upP (S : AS) (k : Nat) (f : Nat → Nat) : AS := (S.1, S.2.1, va_up S.2.2.1 k f, S.2.2.2)
def adP (S : AS) (f : Nat → Nat) : AS := (S.1, S.2.1 + 1, va_up S.2.2.1 S.2.1 f, S.2.2.2)
theorem AI_upP {S : AS} (h : AI S) {k : Nat} {f : Nat → Nat} (h8 : ∀ i, f i < 8) (hp : Prm S.1 f) : AI (upP S k f) := by
  obtain ⟨h1, h2, h3, h4, h5, h6, h7⟩ := h
  refine ⟨h1, h2, h3, fun q i => ?_, fun q hq => ?_, h6, h7⟩
  · show va_up S.2.2.1 k f q i < 8
    by_cases c : q = k
    · rw [c, va_up_self]; exact h8 i
    · rw [va_up_ne _ _ c]; exact h4 q i
  · show Prm S.1 (va_up S.2.2.1 k f q)
    by_cases c : q = k
    · rw [c, va_up_self]; exact hp
    · rw [va_up_ne _ _ c]; exact h5 q hq
theorem AI_adP {S : AS} (h : AI S) (hc : S.2.1 < 16) {f : Nat → Nat} (h8 : ∀ i, f i < 8) (hp : Prm S.1 f) : AI (adP S f) := by
  obtain ⟨h1, h2, h3, h4, h5, h6, h7⟩ := h
  refine ⟨h1, hc, h3, fun q i => ?_, fun q hq => ?_, h6, h7⟩
  · show va_up S.2.2.1 S.2.1 f q i < 8
    by_cases c : q = S.2.1
    · rw [c, va_up_self]; exact h8 i
    · rw [va_up_ne _ _ c]; exact h4 q i
  · have hq : q < S.2.1 + 1 := hq
    show Prm S.1 (va_up S.2.2.1 S.2.1 f q)
    by_cases c : q = S.2.1
    · rw [c, va_up_self]; exact hp
    · rw [va_up_ne _ _ c]; exact h5 q (by omega)
abbrev xN (x : Int32) : Nat := x.toNatClampNeg
/-! what is thrown (0: nothing), the state behind, the answer -/
def tSet (_ : AS) (x : Int32) : Nat := if inR x 9 ∧ 2 ≤ xN x then 0 else 1
def nSet (S : AS) (x : Int32) : AS := if tSet S x = 0 then (xN x, 0, S.2.2.1, 0, S.2.2.2.2.1, S.2.2.2.2.2) else S
def rSet (S : AS) (_ : Int32) : Int32 := nI S.1
def tWrite (S : AS) (x : Int32) : Nat := if inR x (fac S.1) then (if S.2.1 = 16 then 2 else 0) else 1
def nWrite (S : AS) (x : Int32) : AS := if tWrite S x = 0 then adP S (srG (S.2.2.1 S.2.1) S.1 (xN x) S.1) else S
def rWrite (S : AS) (_ : Int32) : Int32 := nI S.2.1
def tSwap (S : AS) (x y : Int32) : Nat := if inR x S.2.1 ∧ inR y (S.1 - 1) then 0 else 1
def nSwap (S : AS) (x y : Int32) : AS := if tSwap S x y = 0 then upP S (xN x) (xch (S.2.2.1 (xN x)) (xN y)) else S
def rSwap (S : AS) (x y : Int32) : Int32 := nI (hrk (xch (S.2.2.1 (xN x)) (xN y)) S.1 S.1)
def tIn (S : AS) (x : Int32) : Nat := if inR x S.2.1 then 0 else 1
def nxr (S : AS) (k : Nat) : Nat := (rkS S k + 1) % fac S.1
def nNext (S : AS) (x : Int32) : AS := if tIn S x = 0 then upP S (xN x) (srG (S.2.2.1 (xN x)) S.1 (nxr S (xN x)) S.1) else S
def rNext (S : AS) (x : Int32) : Int32 := nI (nxr S (xN x))
def tBehind (S : AS) (x y : Int32) : Nat := if inR x S.2.1 ∧ inR y S.2.1 then (if S.2.1 = 16 then 2 else 0) else 1
def bhF (S : AS) (a b : Nat) : Nat → Nat := fun q9 => S.2.2.1 a (S.2.2.1 b q9)
def nBehind (S : AS) (x y : Int32) : AS := if tBehind S x y = 0 then adP S (cpy (S.2.2.1 S.2.1) (bhF S (xN x) (xN y)) S.1) else S
def rBehind (S : AS) (_ _ : Int32) : Int32 := nI S.2.1
def bkF (S : AS) (k : Nat) : Nat → Nat := cpy (S.2.2.1 k) (bck (fun _ => 0) (S.2.2.1 k) S.1) S.1
def nBack (S : AS) (x : Int32) : AS := if tIn S x = 0 then upP S (xN x) (bkF S (xN x)) else S
def rBack (S : AS) (x : Int32) : Int32 := nI (hrk (bkF S (xN x)) S.1 S.1)
def tRepeat (S : AS) (x y : Int32) : Nat := if inR x S.2.1 then (if inR y 10000 then 0 else 2) else 1
def reF (S : AS) (k t : Nat) : Nat → Nat := cpy (S.2.2.1 k) (rpF (S.2.2.1 k) S.1 t) S.1
def nRepeat (S : AS) (x y : Int32) : AS := if tRepeat S x y = 0 then upP S (xN x) (reF S (xN x) (xN y)) else S
def rRepeat (S : AS) (x y : Int32) : Int32 := nI (hrk (reF S (xN x) (xN y)) S.1 S.1)
def tStep (S : AS) (x : Int32) : Nat := if inR x (2 ^ S.1) ∧ stp (xN x) S.1 S.1 0 = 1 then (if S.2.2.2.1 = 10 then 2 else 0) else 1
def nStep (S : AS) (x : Int32) : AS := if tStep S x = 0 then (S.1, S.2.1, S.2.2.1, S.2.2.2.1 + 1, va_up S.2.2.2.2.1 S.2.2.2.1 (xN x), S.2.2.2.2.2) else S
def rStep (S : AS) (_ : Int32) : Int32 := nI (S.2.2.2.1 + 1)
def nClear (S : AS) : AS := (S.1, S.2.1, S.2.2.1, 0, S.2.2.2.2.1, S.2.2.2.2.2)
def rClear (S : AS) : Int32 := nI S.2.2.2.1
def tRing (S : AS) (x y : Int32) : Nat := if inR x S.2.1 then (if inR y 201 ∧ 1 ≤ xN y then 0 else 2) else 1
def rgF (S : AS) (k t : Nat) : Nat → Nat := if S.2.2.2.1 = 0 then S.2.2.1 k else rgs S.2.2.2.2.1 S.2.2.2.1 S.1 (S.2.2.1 k) t
def nRing (S : AS) (x y : Int32) : AS := if tRing S x y = 0 then (S.1, S.2.1, va_up S.2.2.1 (xN x) (rgF S (xN x) (xN y)), S.2.2.2.1, S.2.2.2.2.1, if S.2.2.2.1 = 0 then S.2.2.2.2.2 else S.2.2.2.2.2 + xN y) else S
def rRing (S : AS) (x y : Int32) : Int32 := nI (hrk (rgF S (xN x) (xN y)) S.1 S.1)
def tBell (S : AS) (x y : Int32) : Nat := if inR x S.2.1 ∧ inR y S.1 then 0 else 1
def rBell (S : AS) (x y : Int32) : Int32 := nI (S.2.2.1 (xN x) (xN y))
def tTold (S : AS) (x y : Int32) : Nat := if inR x S.2.1 ∧ inR y 8 then 0 else 1
def rTold (S : AS) (x y : Int32) : Int32 := nI (tld (S.2.2.1 (xN x)) S.1 (xN y))
def rRound (S : AS) (x y : Int32) : Int32 := nI (per (S.2.2.1 (xN x)) S.1 (xN y))
def tTwo (S : AS) (x y : Int32) : Nat := if inR x S.2.1 ∧ inR y S.2.1 then 0 else 1
def apF (S : AS) (a b : Nat) : Nat → Nat := fun q9 => pos (S.2.2.1 b) S.1 (S.2.2.1 a q9)
def rApart (S : AS) (x y : Int32) : Int32 := nI (ivs (apF S (xN x) (xN y)) S.1)
def dsS (S : AS) : Nat := sm (nwf (rkS S)) S.2.1
def cvS (S : AS) (w : Nat) : Nat := cvl S.1 S.2.1 S.2.2.2.1 S.2.2.2.2.2 (dsS S) w
def tCount (_ : AS) (x : Int32) : Nat := if inR x 6 then 0 else 1
def rCount (S : AS) (x : Int32) : Int32 := nI (cvS S (xN x))
def tKept (S : AS) (x : Int32) : Nat := if inR x S.2.2.2.1 then 0 else 1
def rKept (S : AS) (x : Int32) : Int32 := nI (S.2.2.2.2.1 (xN x))
def cmP (S : AS) (k : Nat) : Nat → Bool := fun i => hrk (rgs S.2.2.2.2.1 S.2.2.2.1 S.1 (S.2.2.1 k) (i + 1)) S.1 S.1 == rkS S k
def cmF (S : AS) (k : Nat) : Int32 := if S.2.2.2.1 = 0 then -1 else if fnd (cmP S k) 400 < 400 then nI (fnd (cmP S k) 400 + 1) else -1
def rComes (S : AS) (x : Int32) : Int32 := cmF S (xN x)
def tDiffer (_ : AS) (x : Int32) : Nat := if inR x 201 ∧ 1 ≤ xN x then 0 else 1
def dfG (S : AS) (k : Nat) : Nat := hrk (rgs S.2.2.2.2.1 S.2.2.2.1 S.1 (fun i => i) k) S.1 S.1
def rDiffer (S : AS) (x : Int32) : Int32 := nI (if S.2.2.2.1 = 0 then 1 else sm (nwf (dfG S)) (xN x + 1))
def adG (S : AS) (a k : Nat) : Nat := ivs (bhF S a k) S.1
def adB (g : Nat → Nat) : Nat → Nat
  | 0 => 0
  | k + 1 => if g (k + 1) < g (adB g k) then k + 1 else adB g k
def rAdvise (S : AS) (x : Int32) : Int32 := nI (adB (adG S (xN x)) (S.2.1 - 1))
def mnS (S : AS) : Nat := sm (rkS S) S.2.1
/-! the checksum: counts, then of each change what is told of it and its bells, then the steps -/
def dgR (g : Nat → Nat) (d : Int64) : Nat → Int64
  | 0 => d
  | k + 1 => dgR g d k * 31 + (nI (g k)).toInt64
def dgB (S : AS) (d : Int64) : Nat → Int64
  | 0 => d
  | k + 1 => dgR (S.2.2.1 k) (dgR (tld (S.2.2.1 k) S.1) (dgB S d k) 8) S.1
def dgS (S : AS) : Int64 := dgR S.2.2.2.2.1 (dgB S (dgR (cvS S) 1579 6) S.2.1) S.2.2.2.1
/-! the state stays sound -/
theorem AI_set {S : AS} (h : AI S) (x : Int32) : AI (nSet S x) := by
  unfold nSet
  by_cases c : tSet S x = 0
  · rw [if_pos c]
    have c2 : inR x 9 ∧ 2 ≤ xN x := by
      unfold tSet at c
      by_cases z : inR x 9 ∧ 2 ≤ xN x
      · exact z
      · rw [if_neg z] at c; exact absurd c (by decide)
    obtain ⟨h1, h2, h3, h4, h5, h6, h7⟩ := h
    refine ⟨⟨c2.2, ?_⟩, Nat.zero_le _, Nat.zero_le _, h4, fun k hk => absurd hk (Nat.not_lt_zero _), fun j hj => absurd hj (Nat.not_lt_zero _), h7⟩
    have h9 : xN x < 9 := c2.1.2
    show xN x ≤ 8
    omega
  · rw [if_neg c]; exact h
theorem inR_lt {x : Int32} {N : Nat} (h : inR x N) : xN x < N := h.2
theorem t2_in {P Q : Prop} [Decidable P] [Decidable Q] (h : (if P then (if Q then 2 else 0) else 1 : Nat) = 0) : P ∧ ¬ Q := by
  by_cases p : P
  · by_cases q : Q
    · rw [if_pos p, if_pos q] at h; exact absurd h (by decide)
    · exact ⟨p, q⟩
  · rw [if_neg p] at h; exact absurd h (by decide)
theorem t3_in {P Q : Prop} [Decidable P] [Decidable Q] (h : (if P then (if Q then 0 else 2) else 1 : Nat) = 0) : P ∧ Q := by
  by_cases p : P
  · by_cases q : Q
    · exact ⟨p, q⟩
    · rw [if_pos p, if_neg q] at h; exact absurd h (by decide)
  · rw [if_neg p] at h; exact absurd h (by decide)
theorem t1_in {P : Prop} [Decidable P] (h : (if P then 0 else 1 : Nat) = 0) : P := by
  by_cases p : P
  · exact p
  · rw [if_neg p] at h; exact absurd h (by decide)
theorem AI_write {S : AS} (h : AI S) (x : Int32) : AI (nWrite S x) := by
  unfold nWrite
  by_cases c : tWrite S x = 0
  · rw [if_pos c]
    obtain ⟨c1, c2⟩ := t2_in c
    exact AI_adP h (by have := h.2.1; omega) (srG_bd8 h.1.2 (h.2.2.2.1 _) (inR_lt c1)) (srG_hrk (inR_lt c1)).1
  · rw [if_neg c]; exact h
theorem AI_swap {S : AS} (h : AI S) (x y : Int32) : AI (nSwap S x y) := by
  unfold nSwap
  by_cases c : tSwap S x y = 0
  · rw [if_pos c]
    obtain ⟨c1, c2⟩ := t1_in c
    exact AI_upP h (xch_bd (h.2.2.2.1 _)) ((h.2.2.2.2.1 _ (inR_lt c1)).xch (by have := inR_lt c2; omega))
  · rw [if_neg c]; exact h
theorem AI_next {S : AS} (h : AI S) (x : Int32) : AI (nNext S x) := by
  unfold nNext
  by_cases c : tIn S x = 0
  · rw [if_pos c]
    have hlt : nxr S (xN x) < fac S.1 := Nat.mod_lt _ (fac_pos _)
    exact AI_upP h (srG_bd8 h.1.2 (h.2.2.2.1 _) hlt) (srG_hrk hlt).1
  · rw [if_neg c]; exact h
theorem Prm_bh {S : AS} (h : AI S) {a b : Nat} (ha : a < S.2.1) (hb : b < S.2.1) : Prm S.1 (bhF S a b) := (h.2.2.2.2.1 a ha).comp (h.2.2.2.2.1 b hb)
theorem AI_behind {S : AS} (h : AI S) (x y : Int32) : AI (nBehind S x y) := by
  unfold nBehind
  by_cases c : tBehind S x y = 0
  · rw [if_pos c]
    obtain ⟨⟨c1, c2⟩, c3⟩ := t2_in c
    exact AI_adP h (by have := h.2.1; omega) (cpy_bd (h.2.2.2.1 _) (fun i _ => h.2.2.2.1 _ _)) (Prm_bh h (inR_lt c1) (inR_lt c2)).cpy
  · rw [if_neg c]; exact h
theorem AI_back {S : AS} (h : AI S) (x : Int32) : AI (nBack S x) := by
  unfold nBack
  by_cases c : tIn S x = 0
  · rw [if_pos c]
    have hp := h.2.2.2.2.1 _ (inR_lt (t1_in c))
    exact AI_upP h (cpy_bd (h.2.2.2.1 _) (fun i hi => by have := (Prm.bck (f := fun _ => 0) hp).1 i hi; have := h.1.2; omega)) (Prm.bck hp).cpy
  · rw [if_neg c]; exact h
theorem AI_repeat {S : AS} (h : AI S) (x y : Int32) : AI (nRepeat S x y) := by
  unfold nRepeat
  by_cases c : tRepeat S x y = 0
  · rw [if_pos c]
    have hp := h.2.2.2.2.1 _ (inR_lt (t3_in c).1)
    exact AI_upP h (cpy_bd (h.2.2.2.1 _) (fun i hi => by have := (hp.rpF (xN y)).1 i hi; have := h.1.2; omega)) (hp.rpF _).cpy
  · rw [if_neg c]; exact h
theorem AI_step {S : AS} (h : AI S) (x : Int32) : AI (nStep S x) := by
  unfold nStep
  by_cases c : tStep S x = 0
  · rw [if_pos c]
    obtain ⟨⟨c1, c2⟩, c3⟩ := t2_in c
    obtain ⟨h1, h2, h3, h4, h5, h6, h7⟩ := h
    refine ⟨h1, h2, ?_, h4, h5, fun j hj => ?_, fun j => ?_⟩
    · show S.2.2.2.1 + 1 ≤ 10; omega
    · have hj : j < S.2.2.2.1 + 1 := hj
      show stp (va_up S.2.2.2.2.1 S.2.2.2.1 (xN x) j) S.1 S.1 0 = 1
      by_cases z : j = S.2.2.2.1
      · rw [z, va_up_self]; exact c2
      · rw [va_up_ne _ _ z]; exact h6 j (by omega)
    · show va_up S.2.2.2.2.1 S.2.2.2.1 (xN x) j < 2 ^ 31
      by_cases z : j = S.2.2.2.1
      · rw [z, va_up_self]
        exact Nat.lt_trans (inR_lt c1) (Nat.pow_lt_pow_right (by decide) (by omega))
      · rw [va_up_ne _ _ z]; exact h7 j
  · rw [if_neg c]; exact h
theorem AI_clear {S : AS} (h : AI S) : AI (nClear S) := by
  obtain ⟨h1, h2, h3, h4, h5, h6, h7⟩ := h
  exact ⟨h1, h2, Nat.zero_le _, h4, h5, fun j hj => absurd hj (Nat.not_lt_zero _), h7⟩
theorem rgF_bd {S : AS} (h : AI S) (k t i : Nat) : rgF S k t i < 8 := by
  unfold rgF
  split
  · exact h.2.2.2.1 k i
  · exact rgs_bd (h.2.2.2.1 k) t i
theorem rgF_prm {S : AS} (h : AI S) {k : Nat} (hk : k < S.2.1) (t : Nat) : Prm S.1 (rgF S k t) := by
  unfold rgF
  split
  · exact h.2.2.2.2.1 k hk
  · exact Prm.rgs (h.2.2.2.2.1 k hk) t
theorem AI_ring {S : AS} (h : AI S) (x y : Int32) : AI (nRing S x y) := by
  unfold nRing
  by_cases c : tRing S x y = 0
  · rw [if_pos c]
    exact AI_upP (S := (S.1, S.2.1, S.2.2.1, S.2.2.2.1, S.2.2.2.2.1, _)) h (rgF_bd h _ _) (rgF_prm h (inR_lt (t3_in c).1) _)
  · rw [if_neg c]; exact h
end
section
abbrev xMA (o bk kp sz : Nat) : Nat → Prop := fun q9 => q9 = o ∨ q9 = bk ∨ q9 = kp ∨ sz ≤ q9
theorem ite_pos1 {P : Prop} [Decidable P] (h : 0 < (if P then 1 else 0 : Nat)) : P := by
  by_cases p : P
  · exact p
  · rw [if_neg p] at h; exact absurd h (Nat.lt_irrefl _)
theorem ite_zero1 {P : Prop} [Decidable P] (h : (if P then 1 else 0 : Nat) = 0) : ¬ P := fun p => by rw [if_pos p] at h; exact absurd h (by decide)
theorem xin_rng {x : Int32} {lo hi : Nat} (hh : hi < 2 ^ 30) (hl : lo < 2 ^ 30) : (nI lo ≤ x ∧ x ≤ nI hi) ↔ (inR x (hi + 1) ∧ lo ≤ xN x) := by
  by_cases h : x < 0
  · exact ⟨fun z => absurd (Int32.le_trans (nI_pos' (by omega)) z.1) (Int32.not_le.mpr h), fun z => absurd h z.1.1⟩
  · obtain ⟨j, hj, rfl⟩ := nI_of h
    rw [inR_nI hj, nI_leI (by omega) hj, nI_leI hj (by omega)]
    show lo ≤ j ∧ j ≤ hi ↔ j < hi + 1 ∧ lo ≤ (nI j).toNatClampNeg
    rw [nI_clamp hj]
    omega
theorem hrk_bd {f : Nat → Nat} {n : Nat} (hn : n ≤ 8) : hrk f n n < 40320 := Nat.lt_of_lt_of_le (hrk_lt f n) (fac_le n hn)
theorem up_rk {bf : Nat → Nat} {pm : Nat → Nat → Nat} {n ch j : Nat} {f : Nat → Nat} (h : ∀ k, k < ch → bf k = hrk (pm k) n n) : ∀ k, k < ch → va_up bf j (hrk f n n) k = hrk (va_up pm j f k) n n := fun k hk => by
  by_cases c : k = j
  · rw [c, va_up_self, va_up_self]
  · rw [va_up_ne _ _ c, va_up_ne _ _ c]; exact h k hk
theorem ad_rk {bf : Nat → Nat} {pm : Nat → Nat → Nat} {n ch : Nat} {f : Nat → Nat} (h : ∀ k, k < ch → bf k = hrk (pm k) n n) : ∀ k, k < ch + 1 → va_up bf ch (hrk f n n) k = hrk (va_up pm ch f k) n n := fun k hk => by
  by_cases c : k = ch
  · rw [c, va_up_self, va_up_self]
  · rw [va_up_ne _ _ c, va_up_ne _ _ c]; exact h k (by omega)
theorem up_bd {bf : Nat → Nat} {j v : Nat} (h : ∀ k, bf k < 40320) (hv : v < 40320) : ∀ k, va_up bf j v k < 40320 := fun k => by
  by_cases c : k = j
  · rw [c, va_up_self]; exact hv
  · rw [va_up_ne _ _ c]; exact h k
theorem prm_100 {n : Nat} {f : Nat → Nat} (h : Prm n f) (hn : n ≤ 8) : ∀ i, i < n → f i < 100 := fun i hi => Nat.lt_of_lt_of_le (h.1 i hi) (Nat.le_trans hn (by decide))
theorem prm_lt {n : Nat} {f : Nat → Nat} (h : Prm n f) : ∀ i, i < n → f i < n := h.1
theorem neq_b {a b : Nat} (h : a ≠ b) : (a == b) = false := by simpa using h
theorem eq_b {a b : Nat} (h : a = b) : (a == b) = true := by simpa using h
theorem xin0 {x : Int32} {hi N : Nat} (hN : hi + 1 = N) (hh : hi < 2 ^ 30) : (nI 0 ≤ x ∧ x ≤ nI hi) ↔ inR x N := by
  rw [xin_rng hh (by decide), hN]
  exact ⟨fun h => h.1, fun h => ⟨h, Nat.zero_le _⟩⟩
theorem stp_le (k n : Nat) : ∀ u i, stp k n u i ≤ 1
  | 0, _ => Nat.le_refl _
  | u + 1, i => by
    show (if i < n then (if bitN k i = 1 then stp k n u (i + 1) else (if i + 1 < n ∧ bitN k (i + 1) = 0 then stp k n u (i + 2) else 0)) else 1) ≤ 1
    by_cases h : i < n
    · rw [if_pos h]
      by_cases h2 : bitN k i = 1
      · rw [if_pos h2]; exact stp_le k n u _
      · rw [if_neg h2]
        by_cases h3 : i + 1 < n ∧ bitN k (i + 1) = 0
        · rw [if_pos h3]; exact stp_le k n u _
        · rw [if_neg h3]; exact Nat.zero_le _
    · rw [if_neg h]; exact Nat.le_refl _
theorem istep_le {P : Prop} [Decidable P] {v : Nat} (hv : v ≤ 1) : (if P then v else 0 : Nat) ≤ 1 := by
  by_cases p : P
  · rw [if_pos p]; exact hv
  · rw [if_neg p]; exact Nat.zero_le _
theorem istep_1 {P : Prop} [Decidable P] {v : Nat} (h : 0 < (if P then v else 0 : Nat)) (hv : v ≤ 1) : P ∧ v = 1 := by
  by_cases p : P
  · rw [if_pos p] at h; exact ⟨p, by omega⟩
  · rw [if_neg p] at h; exact absurd h (Nat.lt_irrefl _)
theorem istep_0 {P : Prop} [Decidable P] {v : Nat} (h : (if P then v else 0 : Nat) = 0) (_ : v ≤ 1) : ¬ (P ∧ v = 1) := fun z => by
  rw [if_pos z.1] at h; omega
theorem xdec1 {k : Nat} (h : 0 < k) : nI k + Int32.ofInt (-1) = nI (k - 1) := by
  obtain ⟨z, rfl⟩ : ∃ z, k = z + 1 := ⟨k - 1, by omega⟩
  exact pk_m1 z
theorem va_up_same {α : Type} (f : Nat → α) (k : Nat) : va_up f k (f k) = f := by
  funext j
  by_cases c : j = k
  · rw [c, va_up_self]
  · rw [va_up_ne _ _ c]
theorem ivs_congr {a b : Nat → Nat} {n : Nat} (h : ∀ i, i < n → a i = b i) : ivs a n = ivs b n := sm_congr (fun _ hq => lss_congr hq h)
theorem nwg_congr {g g' : Nat → Nat} {N : Nat} (h : ∀ k, k < N → g k = g' k) {k : Nat} (hk : k < N) : ∀ i, i ≤ k → nwg g k i = nwg g' k i
  | 0, _ => rfl
  | i + 1, hi => by
    show nwg g k i * (if g i = g k then 0 else 1) = nwg g' k i * (if g' i = g' k then 0 else 1)
    rw [nwg_congr h hk i (by omega), h i (by omega), h k hk]
theorem nwf_congr {g g' : Nat → Nat} {N : Nat} (h : ∀ k, k < N → g k = g' k) : sm (nwf g) N = sm (nwf g') N := sm_congr (fun k hk => nwg_congr h hk k (Nat.le_refl _))
theorem adB_le (g : Nat → Nat) : ∀ k, adB g k ≤ k
  | 0 => Nat.le_refl _
  | k + 1 => by
    show (if g (k + 1) < g (adB g k) then k + 1 else adB g k) ≤ k + 1
    have := adB_le g k
    split <;> omega
theorem nI_nm1 {k : Nat} (h : k < 2 ^ 30) : ¬ nI k = (-1) := fun e => by
  have h1 : (0 : Int32) ≤ nI k := nI_pos' (by omega)
  rw [e] at h1
  exact absurd h1 (by decide)
theorem xN_nI {j : Nat} (h : j < 2 ^ 31) : xN (nI j) = j := nI_clamp h
end
section
/-! THE MODEL: differ, digest -/
theorem sm_nwf_le (g : Nat → Nat) : ∀ k, sm (nwf g) k ≤ k
  | 0 => Nat.le_refl _
  | k + 1 => by
    have h1 := sm_nwf_le g k
    have h2 := nwg_lt g k k
    show sm (nwf g) k + nwg g k k ≤ k + 1
    omega
theorem nwg_1 {g : Nat → Nat} {k : Nat} : ∀ {i : Nat}, (∀ q, q < i → g q ≠ g k) → nwg g k i = 1
  | 0, _ => rfl
  | i + 1, h => by
    show nwg g k i * (if g i = g k then 0 else 1) = 1
    rw [if_neg (h i (Nat.lt_succ_self i)), nwg_1 (fun q hq => h q (by omega))]
theorem nwg_0 {g : Nat → Nat} {k q : Nat} (e : g q = g k) : ∀ {i : Nat}, q < i → nwg g k i = 0
  | 0, h => absurd h (Nat.not_lt_zero _)
  | i + 1, h => by
    show nwg g k i * (if g i = g k then 0 else 1) = 0
    by_cases c : q = i
    · rw [← c, if_pos e, Nat.mul_zero]
    · rw [nwg_0 e (show q < i by omega), Nat.zero_mul]
theorem df_0 {g gg : Nat → Nat} (h : g 0 = gg 0) : ∀ v9, (∃ i9, i9 < 1 ∧ gg i9 = v9) ↔ (∃ q8, q8 ≤ 0 ∧ g q8 = v9) := fun v => by
  constructor
  · rintro ⟨i, hi, e⟩
    have : i = 0 := by omega
    subst this
    exact ⟨0, Nat.le_refl _, by rw [h]; exact e⟩
  · rintro ⟨i, hi, e⟩
    have : i = 0 := by omega
    subst this
    exact ⟨0, Nat.one_pos, by rw [← h]; exact e⟩
theorem df_old {g gg : Nat → Nat} {L k r : Nat} (hset : ∀ v9, (∃ i9, i9 < L ∧ gg i9 = v9) ↔ (∃ q8, q8 ≤ k ∧ g q8 = v9)) (h : ∃ q8, q8 < L ∧ gg q8 = r) (hr : r = g (k + 1)) : nwf g (k + 1) = 0 ∧ ∀ v9, (∃ i9, i9 < L ∧ va_up gg L r i9 = v9) ↔ (∃ q8, q8 ≤ k + 1 ∧ g q8 = v9) := by
  obtain ⟨q, hq, e⟩ := (hset r).mp h
  refine ⟨nwg_0 (e.trans hr) (by omega), fun v => ?_⟩
  have e1 : (∃ i9, i9 < L ∧ va_up gg L r i9 = v) ↔ (∃ i9, i9 < L ∧ gg i9 = v) := by
    constructor
    · rintro ⟨i, hi, e⟩
      rw [va_up_ne _ _ (by omega)] at e
      exact ⟨i, hi, e⟩
    · rintro ⟨i, hi, e⟩
      exact ⟨i, hi, by rw [va_up_ne _ _ (by omega)]; exact e⟩
  rw [e1, hset v]
  constructor
  · rintro ⟨i, hi, e⟩
    exact ⟨i, by omega, e⟩
  · rintro ⟨i, hi, ei⟩
    by_cases c : i = k + 1
    · exact ⟨q, hq, by rw [e, hr, ← c, ei]⟩
    · exact ⟨i, by omega, ei⟩
theorem df_new {g gg : Nat → Nat} {L k r : Nat} (hset : ∀ v9, (∃ i9, i9 < L ∧ gg i9 = v9) ↔ (∃ q8, q8 ≤ k ∧ g q8 = v9)) (h : ∀ q8, q8 < L → gg q8 ≠ r) (hr : r = g (k + 1)) : nwf g (k + 1) = 1 ∧ ∀ v9, (∃ i9, i9 < L + 1 ∧ va_up gg L r i9 = v9) ↔ (∃ q8, q8 ≤ k + 1 ∧ g q8 = v9) := by
  refine ⟨nwg_1 (fun q hq e => ?_), fun v => ⟨?_, ?_⟩⟩
  · obtain ⟨i, hi, ei⟩ := (hset r).mpr ⟨q, by omega, by rw [e, hr]⟩
    exact h i hi ei
  · rintro ⟨i, hi, e⟩
    by_cases c : i = L
    · rw [c, va_up_self] at e
      exact ⟨k + 1, Nat.le_refl _, by rw [← hr, e]⟩
    · rw [va_up_ne _ _ c] at e
      obtain ⟨q, hq, eq⟩ := (hset v).mp ⟨i, by omega, e⟩
      exact ⟨q, by omega, eq⟩
  · rintro ⟨q, hq, e⟩
    by_cases c : q = k + 1
    · exact ⟨L, Nat.lt_succ_self _, by rw [va_up_self, hr, ← c, e]⟩
    · obtain ⟨i, hi, ei⟩ := (hset v).mpr ⟨q, by omega, e⟩
      exact ⟨i, by omega, by rw [va_up_ne _ _ (by omega)]; exact ei⟩
end
section
/-! THE CLASS: rows for methods that may throw, its world -/
def xEI : String := "java/lang/IndexOutOfBoundsException"
def xEA : String := "java/lang/IllegalArgumentException"
def xES : String := "java/lang/IllegalStateException"
abbrev xSup : List String := ["java/lang/RuntimeException", "java/lang/Exception"]
def xStrs : List (Nat × String) := [(49, "bells is not 2 to 8"), (63, "no change of this rank"), (78, "no neighbours at this place"), (109, "not the kept places of a step"), (116, "the method has 10 steps"), (152, "what is not 0 to 7"), (160, "what is not 0 to 5"), (162, "no such step"), (193, "no such change"), (195, "the book holds 16 changes"), (197, "no such place"), (199, "steps is not 1 to 200")]
def xBad : List Cond := [.declares ⟨"java/lang/RuntimeException", "<init>", "(Ljava/lang/String;)V"⟩, .declares ⟨"java/lang/Exception", "<init>", "(Ljava/lang/String;)V"⟩, .declares ⟨"java/lang/Throwable", "<init>", "(Ljava/lang/String;)V"⟩, .castable xEI xEI, .castable xEA xEA, .castable xES xES]
theorem xBad_tab : ∀ w ∈ xBad, w.onTables = true := by decide +kernel
theorem xBad_warm {s U : State} (hW : s.WarmedH U.vm) (h : ∀ w ∈ xBad, va_Nw w s) : ∀ w ∈ xBad, va_Nw w U := by
  intro w hw
  have hz := h w hw
  simp only [xBad, List.mem_cons, List.not_mem_nil, or_false] at hw
  rcases hw with rfl | rfl | rfl | rfl | rfl | rfl
  · exact va_Nw.warmD hW hz
  · exact va_Nw.warmD hW hz
  · exact va_Nw.warmD hW hz
  · exact va_Nw.warmC hW hz
  · exact va_Nw.warmC hW hz
  · exact va_Nw.warmC hW hz
def xZ (A : Nat → Prop) (U : State) (H : Heap) : Prop := vx_Zq Bundle.tN "UNASSIGNED_STACK" Bundle.steD A U H ∧ vx_Zq Bundle.tN "SUPPRESSED_SENTINEL" Bundle.listD A U H ∧ (∀ q ∈ xStrs, ∃ a : Nat, vk_R RX3 q.1 q.2 a U) ∧ ∀ w ∈ xBad, va_Nw w U
theorem xZ.kept {A : Nat → Prop} {U : State} {H H1 : Heap} (h : xZ A U H) (hq : ∀ a : Nat, a < H.size → ¬ A a → H1[a]? = H[a]?) : xZ A U H1 := ⟨h.1.kept hq, h.2.1.kept hq, h.2.2⟩
theorem xZ.narrow {A B : Nat → Prop} {U : State} {H : Heap} (h : xZ A U H) (hAB : ∀ q, B q → A q) : xZ B U H := ⟨h.1.narrow hAB, h.2.1.narrow hAB, h.2.2⟩
theorem xZ.warm {A : Nat → Prop} {s U : State} {H : Heap} (hW : s.WarmedH U.vm) (h : xZ A s H) : xZ A U H := ⟨vx_Zq.moved hW.alike h.1, vx_Zq.moved hW.alike h.2.1, fun q hq => by
  obtain ⟨a, ha⟩ := h.2.2.1 q hq
  exact ⟨a, vk_R.warm hW ha⟩, xBad_warm hW h.2.2.2⟩
def xBZ (D : va_G) (cI cC : ClassId) (P : Heap → Prop) (A : Nat → Prop) : State → Prop := fun U => P U.heap ∧ xK D cI cC U ∧ xZ A U U.heap
theorem xBZ_blind {D : va_G} {cI cC : ClassId} {P : Heap → Prop} {A : Nat → Prop} {av : List Value} : FrameBlind (va_Pc av (xBZ D cI cC P A)) := fun a U g mk q => by
  obtain ⟨q0, qP, qK, qU, qN, qR, qB⟩ := q
  exact ⟨q0, qP, va_K.moved (u := U) (U := U.calling g mk a) (Vm.Alike.refl U.vm) qK, vx_Zq.moved (u := U) (U := U.calling g mk a) (Vm.Alike.refl U.vm) qU, vx_Zq.moved (u := U) (U := U.calling g mk a) (Vm.Alike.refl U.vm) qN, fun w hw => by
    obtain ⟨b, hb⟩ := qR w hw
    exact ⟨b, vk_R.same (u := U) (U := U.calling g mk a) rfl hb⟩, fun w hw => va_Nw.same (xBad_tab w hw) (u := U) (U := U.calling g mk a) rfl (qB w hw)⟩
theorem xZPV {D : va_G} {cI cC : ClassId} {P : Heap → Prop} {A : Nat → Prop} {As : List Value} {s : State} {H : Heap} {C : String} {b : Addr} (hK : xK D cI cC s) (hZ : xZ A s H) (hP : P H) (hr : ∃ cellB : Cell, H[b]? = some cellB ∧ cellB.vm.isStatics = false ∧ s.vm.findClass C = some cellB.cls) : PreV s H C b (va_Pc (.ref b :: As) (xBZ D cI cC P A)) As :=
  ⟨xBZ_blind, hr, fun U hU hW => ⟨rfl, by rw [hU]; exact hP, va_K.moved hW.alike hK, by rw [hU]; exact hZ.warm hW⟩⟩
theorem xZPS {D : va_G} {cI cC : ClassId} {P : Heap → Prop} {A : Nat → Prop} {As : List Value} {s : State} {H : Heap} (hK : xK D cI cC s) (hZ : xZ A s H) (hP : P H) : PreS s H (va_Pc As (xBZ D cI cC P A)) As :=
  ⟨xBZ_blind, fun U hU hW => ⟨rfl, by rw [hU]; exact hP, va_K.moved hW.alike hK, by rw [hU]; exact hZ.warm hW⟩⟩
/-- what is thrown -/
def xX (A : Nat → Prop) (B : String → Heap → Prop) : String → State → State → Prop := vx_X (fun _ : Unit => True) (fun E _ t => B E t.heap) A
theorem xgood_I : ∀ w ∈ Cond.classLink RX3 61 xEI :: Cond.initialized xEI :: vx_atS RX3 65 xEI xSup, vx_ot w = true := by decide +kernel
theorem xgood_A : ∀ w ∈ Cond.classLink RX3 47 xEA :: Cond.initialized xEA :: vx_atS RX3 51 xEA xSup, vx_ot w = true := by decide +kernel
theorem xgood_S : ∀ w ∈ Cond.classLink RX3 114 xES :: Cond.initialized xES :: vx_atS RX3 118 xES xSup, vx_ot w = true := by decide +kernel
theorem xbad_I : ∀ w ∈ (vx_atS RX3 65 xEI xSup).filter (fun w => !goodWord w), w ∈ xBad := by decide +kernel
theorem xbad_A : ∀ w ∈ (vx_atS RX3 51 xEA xSup).filter (fun w => !goodWord w), w ∈ xBad := by decide +kernel
theorem xbad_S : ∀ w ∈ (vx_atS RX3 118 xES xSup).filter (fun w => !goodWord w), w ∈ xBad := by decide +kernel
section XT
variable {p : Program} {l : Launch} {e : Env} {R : Room} {s : State} {m : MethodId} {args : Array Value} {below : List Frame} {meth : Method} {c : Code} {H : Heap} {locs : List Loc} {cells slots : Nat} {Q : State → Prop}
variable {mc ms : Nat} {free : Addr → Prop} {A0 A1 : Nat → Prop} {H0 : Heap} {a : Array Value} {pc : Nat} {ls : Array Slot} {st0 rest : List Value}
theorem xvx_callr {S SX : Type} {post : S → Prop} {px : SX → Prop} {B : S → Nat → State → Prop} {BX : String → SX → State → Prop} {AX : Nat → Prop} (hr : vx_Run p l e R s m args below meth c H locs cells slots mc ms (F0 m pc ls st0) rest (va_Qr post B A1 a) (vx_X px BX AX) free) (hS : va_S A0 H0 H locs) (hA : ∀ q, q < H.size → A1 q → A0 q) (hf : ∀ q, free q → A0 q) (hAX : ∀ q, q < H.size → AX q → A0 q)
    (kx : ∀ (E : String) (ce : Cell) (q9 : Addr) (u : SX) (t : State) (H1 : Heap) (locs1 : List Loc), t.heap = H1 → s.vm.Alike t.vm → px u → BX E u t → H.size ≤ H1.size → (∀ q : Nat, q < H.size → ¬ AX q → H1[q]? = H[q]?) → va_S A0 H0 H1 locs1 → H1[q9]? = some ce → ce.vm = .none → s.vm.findClass E = some ce.cls → vx_W p l e R s m args below meth c H1 locs1 (cells + mc) (slots + ms) Q (F0 m pc ls rest) q9)
    (kk : ∀ (u : S) (ra : Nat) (t : State) (H1 : Heap) (locs1 : List Loc), t.heap = H1 → s.vm.Alike t.vm → post u → B u ra t → H.size ≤ H1.size → (∀ q : Nat, q < H.size → ¬ A1 q → H1[q]? = H[q]?) → va_S A0 H0 H1 locs1 → W p l e R s m args below meth c H1 locs1 (cells + mc) (slots + ms) Q (F0 m (pc + 3) ls (.ref ra :: rest))) : W p l e R s m args below meth c H locs cells slots Q (F0 m pc ls st0) := by
  intro T hT X
  rcases hr T hT X with ⟨v, st₀, t, T', L, h0, X', hL, e1, e2, ⟨⟨u, ra, hv, hp, hb⟩, hF⟩, st⟩ | ⟨q, st₀, t, T', L, E, ce, h0, X', hL, e1, e2, ⟨u, hp, hb, hF⟩, hce, hcv, hcl, st⟩
  · cases hv
    obtain ⟨k1, k2, k3⟩ := vx_keep h0 e1 hS hA hf hL hF
    obtain ⟨t2, a1, b1⟩ := kk u ra t T'.heap (locs ++ L) e1.symm (by rw [← e2]; exact X'.warmed.alike) hp hb k1 k2 k3 T' rfl X'
    exact ⟨t2, st t2 a1, b1⟩
  · obtain ⟨k1, k2, k3⟩ := vx_keep h0 e1 hS hAX hf hL hF
    obtain ⟨t2, a1, b1⟩ := kx E ce q u t T'.heap (locs ++ L) e1.symm (by rw [← e2]; exact X'.warmed.alike) hp hb k1 k2 k3 (by rw [e1]; exact hce) hcv hcl T' rfl X'
    exact ⟨t2, st.trans a1, b1⟩
variable {D : va_G} {cI cC : ClassId} {P : Heap → Prop} {A2 : Nat → Prop} {y : MethodName} {bytes cc : ByteArray} {maxL nL n index : Nat} {ret : Option FieldType} {ws : List Cond} {rm : Room} {Ts : List Cond} {own C : String} {b : Addr} {As : List Value}
/-- a call of a method that hands back a cell, or throws -/
theorem xtR {S0 : Type} {post : S0 → Prop} {F : S0 → Nat → Heap → Prop} {BX : String → Heap → Prop} (S : CallFix p m c cc nL s args Ts own) (hM : vx_Met l y ws rm (va_Pc (.ref b :: As) (xBZ D cI cC P A2)) (xR post F A1) (xX A1 BX) mc ms free) (cw : CallW R s args own C index y bytes maxL ret ws rm mc ms n) (hK : xK D cI cC s) (hZ : xZ A2 s H) (hP : P H) (hr : ∃ cellB : Cell, H[b]? = some cellB ∧ cellB.vm.isStatics = false ∧ s.vm.findClass C = some cellB.cls)
    (hn : As.length = n) (hl : ls.size = nL) (hst : st0 = As.reverse ++ .ref b :: rest) (hcat : (rest.map fun v => v.category).sum ≤ 8) (hdg : decode cc pc = .ok (.invokevirtual index, 3)) (hf : cells + mc ≤ R.cells ∧ slots + ms ≤ R.slots)
    (hS : va_S A0 H0 H locs) (hA : ∀ q, A1 q → A0 q) (hfr : ∀ q, free q → A0 q)
    (kx : ∀ (E : String) (ce : Cell) (q9 : Addr) (H1 : Heap) (locs1 : List Loc), BX E H1 → H.size ≤ H1.size → (∀ q : Nat, q < H.size → ¬ A1 q → H1[q]? = H[q]?) → va_S A0 H0 H1 locs1 → H1[q9]? = some ce → ce.vm = .none → s.vm.findClass E = some ce.cls → vx_W p l e R s m args below meth c H1 locs1 (cells + mc) (slots + ms) Q (F0 m pc ls rest) q9)
    (kk : ∀ (u : S0) (ra : Nat) (H1 : Heap) (locs1 : List Loc), post u → F u ra H1 → H.size ≤ H1.size → (∀ q : Nat, q < H.size → ¬ A1 q → H1[q]? = H[q]?) → va_S A0 H0 H1 locs1 → W p l e R s m args below meth c H1 locs1 (cells + mc) (slots + ms) Q (F0 m (pc + 3) ls (.ref ra :: rest))) : W p l e R s m args below meth c H locs cells slots Q (F0 m pc ls st0) :=
  xvx_callr (vx_runV S hM cw (xZPV hK hZ hP hr) rfl hn hl hst (lv_room hcat) hdg hf) hS (fun q _ h => hA q h) hfr (fun q _ h => hA q h)
    (fun E ce q9 _ t H1 locs1 ht _ _ hB hz hk hS1 h1 h2 h3 => kx E ce q9 H1 locs1 (ht ▸ hB) hz hk hS1 h1 h2 h3)
    (fun u ra t H1 locs1 ht _ hp hF hz hk hS1 => kk u ra H1 locs1 hp (ht ▸ hF) hz hk hS1)
theorem xtI {S0 : Type} {post : Int32 → S0 → Prop} {F : S0 → Heap → Prop} {BX : String → Heap → Prop} (S : CallFix p m c cc nL s args Ts own) (hM : vx_Met l y ws rm (va_Pc (.ref b :: As) (xBZ D cI cC P A2)) (xI post F A1) (xX A1 BX) mc ms free) (cw : CallW R s args own C index y bytes maxL ret ws rm mc ms n) (hK : xK D cI cC s) (hZ : xZ A2 s H) (hP : P H) (hr : ∃ cellB : Cell, H[b]? = some cellB ∧ cellB.vm.isStatics = false ∧ s.vm.findClass C = some cellB.cls)
    (hn : As.length = n) (hl : ls.size = nL) (hst : st0 = As.reverse ++ .ref b :: rest) (hcat : (rest.map fun v => v.category).sum ≤ 8) (hdg : decode cc pc = .ok (.invokevirtual index, 3)) (hf : cells + mc ≤ R.cells ∧ slots + ms ≤ R.slots)
    (hS : va_S A0 H0 H locs) (hA : ∀ q, A1 q → A0 q) (hfr : ∀ q, free q → A0 q)
    (kx : ∀ (E : String) (ce : Cell) (q9 : Addr) (H1 : Heap) (locs1 : List Loc), BX E H1 → H.size ≤ H1.size → (∀ q : Nat, q < H.size → ¬ A1 q → H1[q]? = H[q]?) → va_S A0 H0 H1 locs1 → H1[q9]? = some ce → ce.vm = .none → s.vm.findClass E = some ce.cls → vx_W p l e R s m args below meth c H1 locs1 (cells + mc) (slots + ms) Q (F0 m pc ls rest) q9)
    (kk : ∀ (r : Int32) (u : S0) (H1 : Heap) (locs1 : List Loc), post r u → F u H1 → H.size ≤ H1.size → (∀ q : Nat, q < H.size → ¬ A1 q → H1[q]? = H[q]?) → va_S A0 H0 H1 locs1 → W p l e R s m args below meth c H1 locs1 (cells + mc) (slots + ms) Q (F0 m (pc + 3) ls (.int r :: rest))) : W p l e R s m args below meth c H locs cells slots Q (F0 m pc ls st0) :=
  vx_calli (vx_runV S hM cw (xZPV hK hZ hP hr) rfl hn hl hst (lv_room hcat) hdg hf) hS (fun q _ h => hA q h) hfr (fun q _ h => hA q h)
    (fun E ce q9 _ t H1 locs1 ht _ _ hB hz hk hS1 h1 h2 h3 => kx E ce q9 H1 locs1 (ht ▸ hB) hz hk hS1 h1 h2 h3)
    (fun r u t H1 locs1 ht _ hp hF hz hk hS1 => kk r u H1 locs1 hp (ht ▸ hF) hz hk hS1)
theorem xtV {S0 : Type} {post : S0 → Prop} {F : S0 → Heap → Prop} {BX : String → Heap → Prop} (S : CallFix p m c cc nL s args Ts own) (hM : vx_Met l y ws rm (va_Pc (.ref b :: As) (xBZ D cI cC P A2)) (xV post F A1) (xX A1 BX) mc ms free) (cw : CallW R s args own C index y bytes maxL ret ws rm mc ms n) (hK : xK D cI cC s) (hZ : xZ A2 s H) (hP : P H) (hr : ∃ cellB : Cell, H[b]? = some cellB ∧ cellB.vm.isStatics = false ∧ s.vm.findClass C = some cellB.cls)
    (hn : As.length = n) (hl : ls.size = nL) (hst : st0 = As.reverse ++ .ref b :: rest) (hcat : (rest.map fun v => v.category).sum ≤ 8) (hdg : decode cc pc = .ok (.invokevirtual index, 3)) (hf : cells + mc ≤ R.cells ∧ slots + ms ≤ R.slots)
    (hS : va_S A0 H0 H locs) (hA : ∀ q, A1 q → A0 q) (hfr : ∀ q, free q → A0 q)
    (kx : ∀ (E : String) (ce : Cell) (q9 : Addr) (H1 : Heap) (locs1 : List Loc), BX E H1 → H.size ≤ H1.size → (∀ q : Nat, q < H.size → ¬ A1 q → H1[q]? = H[q]?) → va_S A0 H0 H1 locs1 → H1[q9]? = some ce → ce.vm = .none → s.vm.findClass E = some ce.cls → vx_W p l e R s m args below meth c H1 locs1 (cells + mc) (slots + ms) Q (F0 m pc ls rest) q9)
    (kk : ∀ (u : S0) (H1 : Heap) (locs1 : List Loc), post u → F u H1 → H.size ≤ H1.size → (∀ q : Nat, q < H.size → ¬ A1 q → H1[q]? = H[q]?) → va_S A0 H0 H1 locs1 → W p l e R s m args below meth c H1 locs1 (cells + mc) (slots + ms) Q (F0 m (pc + 3) ls rest)) : W p l e R s m args below meth c H locs cells slots Q (F0 m pc ls st0) :=
  vx_callv (vx_runV S hM cw (xZPV hK hZ hP hr) rfl hn hl hst (lv_room hcat) hdg hf) hS (fun q _ h => hA q h) hfr (fun q _ h => hA q h)
    (fun E ce q9 _ t H1 locs1 ht _ _ hB hz hk hS1 h1 h2 h3 => kx E ce q9 H1 locs1 (ht ▸ hB) hz hk hS1 h1 h2 h3)
    (fun u t H1 locs1 ht _ hp hF hz hk hS1 => kk u H1 locs1 hp (ht ▸ hF) hz hk hS1)
theorem xtVS {S0 : Type} {post : S0 → Prop} {F : S0 → Heap → Prop} {BX : String → Heap → Prop} (S : CallFix p m c cc nL s args Ts own) (hM : vx_Met l y ws rm (va_Pc As (xBZ D cI cC P A2)) (xV post F A1) (xX A1 BX) mc ms free) (cw : CallB R s args own index y bytes maxL ret ws rm mc ms n ∧ (Cond.static y).before args s = true) (hK : xK D cI cC s) (hZ : xZ A2 s H) (hP : P H)
    (hn : As.length = n) (hl : ls.size = nL) (hst : st0 = As.reverse ++ rest) (hcat : (rest.map fun v => v.category).sum ≤ 8) (hdg : decode cc pc = .ok (.invokestatic index, 3)) (hf : cells + mc ≤ R.cells ∧ slots + ms ≤ R.slots)
    (hS : va_S A0 H0 H locs) (hA : ∀ q, A1 q → A0 q) (hfr : ∀ q, free q → A0 q)
    (kx : ∀ (E : String) (ce : Cell) (q9 : Addr) (H1 : Heap) (locs1 : List Loc), BX E H1 → H.size ≤ H1.size → (∀ q : Nat, q < H.size → ¬ A1 q → H1[q]? = H[q]?) → va_S A0 H0 H1 locs1 → H1[q9]? = some ce → ce.vm = .none → s.vm.findClass E = some ce.cls → vx_W p l e R s m args below meth c H1 locs1 (cells + mc) (slots + ms) Q (F0 m pc ls rest) q9)
    (kk : ∀ (u : S0) (H1 : Heap) (locs1 : List Loc), post u → F u H1 → H.size ≤ H1.size → (∀ q : Nat, q < H.size → ¬ A1 q → H1[q]? = H[q]?) → va_S A0 H0 H1 locs1 → W p l e R s m args below meth c H1 locs1 (cells + mc) (slots + ms) Q (F0 m (pc + 3) ls rest)) : W p l e R s m args below meth c H locs cells slots Q (F0 m pc ls st0) :=
  vx_callv (vx_runS S hM cw (xZPS hK hZ hP) rfl hn hl hst (lv_room hcat) hdg hf) hS (fun q _ h => hA q h) hfr (fun q _ h => hA q h)
    (fun E ce q9 _ t H1 locs1 ht _ _ hB hz hk hS1 h1 h2 h3 => kx E ce q9 H1 locs1 (ht ▸ hB) hz hk hS1 h1 h2 h3)
    (fun u t H1 locs1 ht _ hp hF hz hk hS1 => kk u H1 locs1 hp (ht ▸ hF) hz hk hS1)
/-- an exception of a callee goes on to the caller -/
theorem x_pass {Qc : Array Value → State → Outcome → State → Prop} {BX : String → Heap → Prop} {E : String} {ce : Cell} {q : Addr} (htb : ∀ x ∈ c.exceptionTable.toList, False) (hlocks : meth.locks = false) (hcell : H[q]? = some ce) (hv : ce.vm = .none) (hcl : s.vm.findClass E = some ce.cls) (hB : BX E H) (hS : va_S A0 s.heap H locs) (hf : ∀ q, A0 q → free q) (hc : cells ≤ mc) (hs : slots ≤ ms) : vx_W p l e R s m args below meth c H locs cells slots (vx_MQ below Qc (xX A0 BX) args s mc ms free) (F0 m pc ls rest) q :=
  vx_out (fun x hx => (htb x hx).elim) hlocks hcell hv hcl (fun t ht _ => ⟨(), trivial, by show BX E t.heap; rw [ht]; exact hB, hS.F ht⟩) (fun z hz => hf _ (hS.2.2 z hz)) hc hs
/-- 'throw new E("text")' -/
theorem x_throw {Qc : Array Value → State → Outcome → State → Prop} {BX : String → Heap → Prop} {A : Nat → Prop} {cls text : String} {ik is ic : Nat} (hx : p.tables.exec = Jvm.exec) (hb : c.code = cc) (hl : l.stackTraces = false) (hts : ∀ w ∈ Ts, w.before args s = true) (hown : s.vm.findClass RX3 = some m.cls) (htb : ∀ x ∈ c.exceptionTable.toList, False) (hlocks : meth.locks = false) (hZ : xZ A s s.heap) (hS : va_S A s.heap H locs) (hsize : ls.size = c.maxLocals)
    (hfit : Bundle.fit cls = true) (hk : Cond.classLink RX3 ik cls ∈ Ts) (hi : Cond.initialized cls ∈ Ts) (hbad : ∀ w ∈ (vx_atS RX3 ic cls xSup).filter (fun w => !goodWord w), w ∈ xBad) (hin : ∀ w ∈ (vx_atS RX3 ic cls xSup).filter goodWord, w ∈ Ts) (hgood : ∀ w ∈ Cond.classLink RX3 ik cls :: Cond.initialized cls :: vx_atS RX3 ic cls xSup, vx_ot w = true) (hstr : (is, text) ∈ xStrs)
    (d0 : decode cc pc = .ok (.new ik, 3)) (d3 : decode cc (pc + 3) = .ok (.dup, 1)) (d4 : decode cc (pc + 4) = .ok (.ldc is, 2)) (d6 : decode cc (pc + 6) = .ok (.invokespecial ic, 3)) (d9 : decode cc (pc + 9) = .ok (.athrow, 1))
    (hRf : 6 ≤ R.frames) (hRl : (rest.map fun v => v.category).sum + 82 ≤ R.locals) (hRc : cells + 1 ≤ R.cells) (hRs : slots + 6 ≤ R.slots)
    (hB : ∀ H1 : Heap, H.size ≤ H1.size → (∀ q : Nat, q < H.size → H1[q]? = H[q]?) → BX cls H1) (hf : ∀ q, A q → free q) (hc : cells + 1 ≤ mc) (hs : slots + 6 ≤ ms) :
    W p l e R s m args below meth c H locs cells slots (vx_MQ below Qc (xX A BX) args s mc ms free) (F0 m pc ls rest) := by
  obtain ⟨sa, hsa⟩ := hZ.2.2.1 (is, text) hstr
  exact vx_throwS (own := RX3) (cls := cls) (text := text) (names := xSup) (ik := ik) (is := is) (ic := ic) (sa := sa) (A := A) hx hb hl hown hfit (by decide +kernel) (hts _ hk) (hts _ hi) hsa (vx_hat (B := xBad) (fun w hw => hts w (hin w hw)) hbad (fun w hw => va_Nw.use (xBad_tab w hw) (hZ.2.2.2 w hw))) hgood hZ.1 hZ.2.1 hS hsize d0 d3 d4 d6 d9 (fun x hx => (htb x hx).elim) hRf hRl hRc hRs hlocks
    (fun t hvm h1 h2 => ⟨(), trivial, hB t.heap h1 h2, Nat.le_trans hS.1 h1, fun q hq hnq => by rw [h2 q (Nat.lt_of_lt_of_le hq hS.1)]; exact hS.2.1 q hq hnq⟩) (fun z hz => hf _ (hS.2.2 z hz)) hc hs
end XT
/-! the class's cells -/
def xInj (ad : Nat → Nat) : Prop := ∀ i j : Nat, i < 42 → j < 42 → ad i = ad j → i = j
theorem xne {ad : Nat → Nat} (hj : xInj ad) {i k : Nat} (hi : i < 42) (hk : k < 42) (h : i ≠ k) : ad i ≠ ad k := fun e => h (hj i k hi hk e)
def xXO (D : va_G) (ad : Nat → Nat) (n ch rg : Nat) (H : Heap) : Prop := va_at D vwCl (ad 0, .inr (3, [.ref (ad 1), .ref (ad 2), .ref (ad 4), .ref (ad 6), .ref (ad 8), .int (nI n), .int (nI ch), .int (nI rg)])) H
def xXB (D : va_G) (cC : ClassId) (ad : Nat → Nat) (H : Heap) : Prop := va_at D vwCl (ad 1, .inl (cC, 16, .inr (.inr (.inr (.inr (fun k => some (ad (10 + k)))))))) H
def xXC (D : va_G) (cI : ClassId) (ad : Nat → Nat) (zf : Nat → Nat) (pm : Nat → Nat → Nat) (H : Heap) : Prop := ∀ k : Nat, k < 16 → xCh D cI (ad (10 + k)) (ad (26 + k)) (zf k) (pm k) H
def xXW (D : va_G) (cI cC : ClassId) (ad : Nat → Nat) (S : AS) (H : Heap) : Prop := ∃ (zr zm zs : Nat) (fr fm fs zf : Nat → Nat), xXO D ad S.1 S.2.1 S.2.2.2.2.2 H ∧ xXB D cC ad H ∧ xMe D cI (ad 2) (ad 3) S.2.2.2.1 S.2.2.2.2.1 H ∧ xCh D cI (ad 4) (ad 5) zr fr H ∧ (∀ i, fr i < 8) ∧ xCh D cI (ad 6) (ad 7) zm fm H ∧ (∀ i, fm i < 8) ∧ xRs D cI (ad 8) (ad 9) zs fs H ∧ xXC D cI ad zf S.2.2.1 H ∧ ∀ k, k < S.2.1 → zf k = S.1
theorem xXW_mk {D : va_G} {cI cC : ClassId} {ad : Nat → Nat} {S : AS} {H : Heap} {zr zm zs : Nat} {fr fm fs zf : Nat → Nat} (h1 : xXO D ad S.1 S.2.1 S.2.2.2.2.2 H) (h2 : xXB D cC ad H) (h3 : xMe D cI (ad 2) (ad 3) S.2.2.2.1 S.2.2.2.2.1 H) (h4 : xCh D cI (ad 4) (ad 5) zr fr H) (h5 : ∀ i, fr i < 8) (h6 : xCh D cI (ad 6) (ad 7) zm fm H) (h7 : ∀ i, fm i < 8) (h8 : xRs D cI (ad 8) (ad 9) zs fs H) (h9 : xXC D cI ad zf S.2.2.1 H) (h10 : ∀ k, k < S.2.1 → zf k = S.1) : xXW D cI cC ad S H := ⟨zr, zm, zs, fr, fm, fs, zf, h1, h2, h3, h4, h5, h6, h7, h8, h9, h10⟩
theorem xCh_old {D : va_G} {cI : ClassId} {o r n : Nat} {f : Nat → Nat} {H H1 : Heap} (h : xCh D cI o r n f H) (hk : ∀ x : Nat, x < H.size → H1[x]? = H[x]?) : xCh D cI o r n f H1 := ⟨xat_old h.1 hk, xat_old h.2 hk⟩
theorem xXW_old {D : va_G} {cI cC : ClassId} {ad : Nat → Nat} {S : AS} {H H1 : Heap} (h : xXW D cI cC ad S H) (hk : ∀ x : Nat, x < H.size → H1[x]? = H[x]?) : xXW D cI cC ad S H1 := by
  obtain ⟨zr, zm, zs, fr, fm, fs, zf, h1, h2, h3, h4, h5, h6, h7, h8, h9, h10⟩ := h
  exact ⟨zr, zm, zs, fr, fm, fs, zf, xat_old h1 hk, xat_old h2 hk, ⟨xat_old h3.1 hk, xat_old h3.2 hk⟩, xCh_old h4 hk, h5, xCh_old h6 hk, h7, ⟨xat_old h8.1 hk, xat_old h8.2 hk⟩, fun k hk9 => xCh_old (h9 k hk9) hk, h10⟩
theorem xMe_keep {D : va_G} {cI : ClassId} {o r n : Nat} {f : Nat → Nat} {H H1 : Heap} {A : Nat → Prop} (h : xMe D cI o r n f H) (hk : ∀ x : Nat, x < H.size → ¬ A x → H1[x]? = H[x]?) (h1 : ¬ A o) (h2 : ¬ A r) : xMe D cI o r n f H1 := ⟨xat_keep h.1 hk h1, xat_keep h.2 hk h2⟩
theorem xRs_keep {D : va_G} {cI : ClassId} {o r n : Nat} {f : Nat → Nat} {H H1 : Heap} {A : Nat → Prop} (h : xRs D cI o r n f H) (hk : ∀ x : Nat, x < H.size → ¬ A x → H1[x]? = H[x]?) (h1 : ¬ A o) (h2 : ¬ A r) : xRs D cI o r n f H1 := ⟨xat_keep h.1 hk h1, xat_keep h.2 hk h2⟩
theorem xXC_keep {D : va_G} {cI : ClassId} {ad : Nat → Nat} {zf : Nat → Nat} {pm : Nat → Nat → Nat} {H H1 : Heap} {A : Nat → Prop} (h : xXC D cI ad zf pm H) (hk : ∀ x : Nat, x < H.size → ¬ A x → H1[x]? = H[x]?) (hn : ∀ i, 10 ≤ i → i < 42 → ¬ A (ad i)) : xXC D cI ad zf pm H1 := fun k hk9 => xCh_keep (h k hk9) hk (hn _ (by omega) (by omega)) (hn _ (by omega) (by omega))
theorem xXC_set {D : va_G} {cI : ClassId} {ad : Nat → Nat} {zf : Nat → Nat} {pm : Nat → Nat → Nat} {H H1 : Heap} {A : Nat → Prop} {j z : Nat} {f : Nat → Nat} (h : xXC D cI ad zf pm H) (hk : ∀ x : Nat, x < H.size → ¬ A x → H1[x]? = H[x]?) (hn : ∀ i, 10 ≤ i → i < 42 → i ≠ 10 + j → i ≠ 26 + j → ¬ A (ad i)) (hf : xCh D cI (ad (10 + j)) (ad (26 + j)) z f H1) (hj : j < 16) : xXC D cI ad (va_up zf j z) (va_up pm j f) H1 := fun k hk9 => by
  by_cases c : k = j
  · rw [c, va_up_self, va_up_self]; exact hf
  · rw [va_up_ne _ _ c, va_up_ne _ _ c]
    exact xCh_keep (h k hk9) hk (hn _ (by omega) (by omega) (by omega) (by omega)) (hn _ (by omega) (by omega) (by omega) (by omega))
theorem xXC_at {D : va_G} {cI : ClassId} {ad : Nat → Nat} {zf : Nat → Nat} {pm : Nat → Nat → Nat} {H : Heap} {j n : Nat} (h : xXC D cI ad zf pm H) (hj : j < 16) (hz : zf j = n) : xCh D cI (ad (10 + j)) (ad (26 + j)) n (pm j) H := by
  have := h j hj
  rw [hz] at this
  exact this
theorem zf_set {zf : Nat → Nat} {ch n j : Nat} (h : ∀ k, k < ch → zf k = n) : ∀ k, k < ch → va_up zf j n k = n := fun k hk => by
  by_cases c : k = j
  · rw [c, va_up_self]
  · rw [va_up_ne _ _ c]; exact h k hk
theorem zf_add {zf : Nat → Nat} {ch n : Nat} (h : ∀ k, k < ch → zf k = n) : ∀ k, k < ch + 1 → va_up zf ch n k = n := fun k hk => by
  by_cases c : k = ch
  · rw [c, va_up_self]
  · rw [va_up_ne _ _ c]; exact h k (by omega)
abbrev xXA (ad : Nat → Nat) (sz : Nat) : Nat → Prop := fun q9 => (∃ i, i < 42 ∧ q9 = ad i) ∨ sz ≤ q9
abbrev xNo : Nat → Prop := fun _ => False
end
section
/-! BellRanks: its own helpers -/
theorem fac_s {i : Nat} (h : 2 ≤ i) : i * fac (i - 1) = fac i := by
  obtain ⟨z, rfl⟩ : ∃ z, i = z + 1 := ⟨i - 1, by omega⟩
  rfl
theorem inR_ltI {x : Int32} {N : Nat} (h : ¬ x < 0) (hN : N < 2 ^ 31) : x < nI N ↔ inR x N := by
  obtain ⟨j, hj, rfl⟩ := nI_of h
  rw [inR_nI hj, nI_ltI hj hN]
theorem inR_leI {x : Int32} {N : Nat} (h : ¬ x < 0) (hN : N < 2 ^ 31) : x ≤ nI N ↔ inR x (N + 1) := by
  obtain ⟨j, hj, rfl⟩ := nI_of h
  rw [inR_nI hj, nI_leI hj hN]
  omega
/-- one more value into the set -/
theorem dg_step {g gg : Nat → Nat} {L k r : Nat} {u : Nat × (Nat → Nat)} (hset : ∀ v9, (∃ i9, i9 < L ∧ gg i9 = v9) ↔ (∃ q8, q8 < k ∧ g q8 = v9)) (h3 : L = sm (nwf g) k) (hu : (u = (L, gg) ∧ ∃ i, i < L ∧ gg i = r) ∨ (u = (L + 1, va_up gg L r) ∧ ∀ i, i < L → gg i ≠ r)) (hr : r = g k) : u.1 = sm (nwf g) (k + 1) ∧ ∀ v9, (∃ i9, i9 < u.1 ∧ u.2 i9 = v9) ↔ (∃ q8, q8 < k + 1 ∧ g q8 = v9) := by
  rcases hu with ⟨rfl, h⟩ | ⟨rfl, h⟩
  · obtain ⟨q, hq, e⟩ := (hset r).mp h
    refine ⟨?_, fun v => ?_⟩
    · show L = sm (nwf g) k + nwf g k
      rw [show nwf g k = 0 from nwg_0 (e.trans hr) hq, ← h3]; rfl
    · rw [hset v]
      constructor
      · rintro ⟨i, hi, e⟩
        exact ⟨i, by omega, e⟩
      · rintro ⟨i, hi, ei⟩
        by_cases c : i = k
        · exact ⟨q, hq, by rw [e, hr, ← c, ei]⟩
        · exact ⟨i, by omega, ei⟩
  · refine ⟨?_, fun v => ⟨?_, ?_⟩⟩
    · show L + 1 = sm (nwf g) k + nwf g k
      rw [show nwf g k = 1 from nwg_1 (fun q hq e => by
        obtain ⟨i, hi, ei⟩ := (hset r).mpr ⟨q, hq, by rw [e, hr]⟩
        exact h i hi ei), ← h3]
    · rintro ⟨i, hi, e⟩
      have hi : i < L + 1 := hi
      have e : va_up gg L r i = v := e
      by_cases c : i = L
      · rw [c, va_up_self] at e
        exact ⟨k, Nat.lt_succ_self _, by rw [← hr, e]⟩
      · rw [va_up_ne _ _ c] at e
        obtain ⟨q, hq, eq⟩ := (hset v).mp ⟨i, by omega, e⟩
        exact ⟨q, by omega, eq⟩
    · rintro ⟨q, hq, e⟩
      by_cases c : q = k
      · exact ⟨L, Nat.lt_succ_self _, by show va_up gg L r L = v; rw [va_up_self, hr, ← c, e]⟩
      · obtain ⟨i, hi, ei⟩ := (hset v).mpr ⟨q, by omega, e⟩
        exact ⟨i, Nat.lt_succ_of_lt hi, by show va_up gg L r i = v; rw [va_up_ne _ _ (by omega)]; exact ei⟩
set_option maxRecDepth 100000 in
set_option maxHeartbeats 4000000 in
theorem cX3_changesOf_ (l : Launch) (D : va_G) (cI cC : ClassId) (z : Nat) (hz2 : 2 ≤ z) (hz8 : z ≤ 8) : Met l yX3_changesOf wsX3_changesOf (xRm 0 0 0) (va_Pc [.int (nI z)] (xB D cI cC (fun _ => True))) (vp_Si (fun x => x = nI (fac z))) 0 0 (fun _ => False) := by
  refine Met.ofW (cc := cX3_changesOf) (maxL := 3) (ret := (some .int)) (by decide) rfl ?_
  intro p e s m args below meth c s₁ B hml hv
  obtain ⟨rfl, hP, hK⟩ := hv
  have hx := B.exec
  have hb := B.bytes
  have hr := B.returns
  have hts := atoms_spec (ws := wsX3_changesOf) B.pre
  have hown : s.vm.findClass RX3 = some m.cls := findClass_of_methodNamed B.named
  have hlocks := B.notSynchronized
  have hl := lv_entry ([.int (nI z)]) (n := 3) (Nat.le_of_ble_eq_true rfl)
  rw [lg_entry_eq]
  generalize (lg_sl ([.int (nI z)]) ++ List.replicate (3 - (lg_sl ([.int (nI z)])).length) Slot.unset).toArray = ls at hl ⊢
  have hl : lv_has ls 3 [(0, .int (nI z))] := hl
  refine xn_iconst (v := 1) hx hb dX3_changesOf_0 (by decide) ?_
  refine lv_istore_n (lv' := [(1, .int (nI 1)), (0, .int (nI z))]) hx hb dX3_changesOf_1 rfl hl (by decide) rfl (fun ls hl => ?_)
  refine xn_iconst (v := 2) hx hb dX3_changesOf_2 (by decide) ?_
  refine lv_istore_n (lv' := [(2, .int (nI 2)), (1, .int (nI 1)), (0, .int (nI z))]) hx hb dX3_changesOf_3 rfl hl (by decide) rfl (fun ls hl => ?_)
  refine x_loop (σ := Nat × Nat) (fun a => z + 2 - a.2) (fun a ls => (2 ≤ a.2) ∧ (a.2 ≤ z + 1) ∧ (a.1 = fac (a.2 - 1)) ∧ lv_has ls 3 [(0, .int (nI z)), (1, .int (nI a.1)), (2, .int (nI a.2))]) ?_ (1, 2) ls ⟨(Nat.le_refl _), (by dsimp only; omega), rfl, lv_sub hl [2, 1, 0] rfl⟩
  rintro ⟨L, i⟩ ls ⟨h1, h2, h3, hl⟩ ih4
  dsimp only at h1 h2 h3 hl
  refine lv_iload_n hx hb dX3_changesOf_4 rfl (lv_at hl 2 rfl) ?_
  refine lv_iload_n hx hb dX3_changesOf_5 rfl (lv_at hl 0 rfl) ?_
  refine xn_icmp_gt (tgt := 19) hx hb dX3_changesOf_6 (by decide) (by omega) (by omega) (fun c6 => ?_) (fun c6 => ?_)
  · refine lv_iload_n hx hb dX3_changesOf_19 rfl (lv_at hl 1 rfl) ?_
    exact x_iret hx hb hr hlocks rfl (by rw [h3, show i - 1 = z by omega]) dX3_changesOf_20
  · refine lv_iload_n hx hb dX3_changesOf_9 rfl (lv_at hl 1 rfl) ?_
    refine lv_iload_n hx hb dX3_changesOf_10 rfl (lv_at hl 2 rfl) ?_
    refine xn_imul hx hb dX3_changesOf_11 ?_
    refine lv_istore_n (lv' := [(1, .int (nI (L * i))), (0, .int (nI z)), (2, .int (nI i))]) hx hb dX3_changesOf_12 rfl hl (by decide) rfl (fun ls hl => ?_)
    refine xn_iinc (v := i + 1) (lv' := [(2, .int (nI (i + 1))), (1, .int (nI (L * i))), (0, .int (nI z))]) hx hb dX3_changesOf_13 hl (k := 2) rfl (xinc1 _) (by decide) rfl (fun ls hl => ?_)
    refine lv_goto (tgt := 4) hx hb dX3_changesOf_16 (by decide) ?_
    exact ih4 (L * i, i + 1) ls ⟨(by dsimp only; omega), (by dsimp only; omega), (by dsimp only; rw [h3, Nat.add_sub_cancel, Nat.mul_comm]; exact fac_s h1), lv_sub hl [2, 1, 0] rfl⟩ (by dsimp only; omega)

set_option maxRecDepth 100000 in
set_option maxHeartbeats 4000000 in
theorem cX3_find_ (l : Launch) (hst9 : l.stackTraces = false) (D : va_G) (cI cC : ClassId) (ad : Nat → Nat) (Hp : Heap) (n ch rg : Nat) (hch : ch ≤ 16) (x : Int32) : vx_Met l yX3_find wsX3_find (xRm 6 1 6) (va_Pc [.ref (ad 0), .int x] (xBZ D cI cC (fun H => H = Hp ∧ xXO D ad n ch rg H ∧ xXB D cC ad H) xNo)) (xR (fun _ : Unit => inR x ch) (fun _ a H => H = Hp ∧ a = ad (10 + xN x)) xNo) (xX xNo (fun E _ => E = xEI ∧ ¬ inR x ch)) 1 6 xNo := by
  refine vx_ofW (cc := cX3_find) (maxL := 2) (ret := (some (.object "BellRanks$Change"))) (by decide) rfl ?_
  intro p e s m args below meth c s₁ B hml htb hv
  obtain ⟨rfl, hP, hK, hZ⟩ := hv
  have hx := B.exec
  have hb := B.bytes
  have hr := B.returns
  have hts := atoms_spec (ws := wsX3_find) B.pre
  have hown : s.vm.findClass RX3 = some m.cls := findClass_of_methodNamed B.named
  have hlocks := B.notSynchronized
  obtain ⟨hHp, hO, hBk⟩ := hP
  have hl := lv_entry ([.ref (ad 0), .int x]) (n := 2) (Nat.le_of_ble_eq_true rfl)
  rw [lg_entry_eq]
  generalize (lg_sl ([.ref (ad 0), .int x]) ++ List.replicate (2 - (lg_sl ([.ref (ad 0), .int x])).length) Slot.unset).toArray = ls at hl ⊢
  have hl : lv_has ls 2 [(0, .ref (ad 0)), (1, .int x)] := hl
  have hS : va_S xNo s.heap s.heap [] := va_S.rf
  refine lv_iload_n hx hb dX3_find_0 rfl (lv_at hl 1 rfl) ?_
  refine lv_if_lt (tgt := 12) hx hb dX3_find_1 (by decide) (fun c1 => ?_) (fun c1 => ?_)
  · have hn : ¬ inR x ch := fun z => z.1 c1
    exact x_throw (cls := xEI) (text := "no such change") (ik := 61) (is := 193) (ic := 65) hx hb hst9 hts hown htb hlocks hZ hS (hl.1.trans hml.symm) (by decide +kernel) (by decide +kernel) (by decide +kernel) xbad_I (by decide +kernel) xgood_I (by decide) dX3_find_12 dX3_find_15 dX3_find_16 dX3_find_18 dX3_find_21 (Nat.le_of_ble_eq_true rfl) (Nat.le_of_ble_eq_true rfl) (by show 0 + 1 ≤ 1; omega) (by show 0 + 6 ≤ 6; omega) (fun H1 _ ho => ⟨rfl, hn⟩) (fun _ h => h) (by omega) (by omega)
  · refine lv_iload_n hx hb dX3_find_4 rfl (lv_at hl 1 rfl) ?_
    refine lv_aload_n hx hb dX3_find_5 rfl (lv_at hl 0 rfl) ?_
    refine x_get (v := .int (nI ch)) (C := RX3) (T := TX3) (N := 8) hx hb hts (by decide +kernel) hown hK hO rfl 6 (by decide) (hts (.fieldLink RX3 41 "BellRanks" "written" "I") (by decide +kernel)) (fun _ h9 => h9) rfl dX3_find_6 ?_
    refine lv_icmp_lt (tgt := 22) hx hb dX3_find_9 (by decide) (fun c9 => ?_) (fun c9 => ?_)
    · have hi : inR x ch := (inR_ltI c1 (by omega)).mp c9
      obtain ⟨j, hj9, hjb, rfl⟩ := inR_of hi
      have hl : lv_has ls 2 [(0, .ref (ad 0)), (1, .int (nI j))] := hl
      refine lv_aload_n hx hb dX3_find_22 rfl (lv_at hl 0 rfl) ?_
      refine x_get (v := .ref (ad 1)) (C := RX3) (T := TX3) (N := 8) hx hb hts (by decide +kernel) hown hK hO rfl 0 (by decide) (hts (.fieldLink RX3 11 "BellRanks" "book" "[LBellRanks$Change;") (by decide +kernel)) (fun _ h9 => h9) rfl dX3_find_23 ?_
      refine lv_iload_n hx hb dX3_find_26 rfl (lv_at hl 1 rfl) ?_
      refine x_aald hx hb hK hBk (show j < 16 by omega) (by decide) dX3_find_27 ?_
      refine W.widen (k := 1) (n := 6) (by omega) (by omega) ?_
      refine vx_ret ?_
      exact x_maret (rt := .object "BellRanks$Change") hx hb hr (Or.inl ⟨_, rfl⟩) hlocks () hi ⟨hHp, by rw [xN_nI hjb]⟩ hS (fun _ h => h) dX3_find_28
    · have hn : ¬ inR x ch := fun z => c9 ((inR_ltI c1 (by omega)).mpr z)
      exact x_throw (cls := xEI) (text := "no such change") (ik := 61) (is := 193) (ic := 65) hx hb hst9 hts hown htb hlocks hZ hS (hl.1.trans hml.symm) (by decide +kernel) (by decide +kernel) (by decide +kernel) xbad_I (by decide +kernel) xgood_I (by decide) dX3_find_12 dX3_find_15 dX3_find_16 dX3_find_18 dX3_find_21 (Nat.le_of_ble_eq_true rfl) (Nat.le_of_ble_eq_true rfl) (by show 0 + 1 ≤ 1; omega) (by show 0 + 6 ≤ 6; omega) (fun H1 _ ho => ⟨rfl, hn⟩) (fun _ h => h) (by omega) (by omega)

set_option maxRecDepth 100000 in
set_option maxHeartbeats 4000000 in
theorem cX3_checkPlace_ (l : Launch) (hst9 : l.stackTraces = false) (D : va_G) (cI cC : ClassId) (ad : Nat → Nat) (Hp : Heap) (n ch rg : Nat) (hn8 : n ≤ 8) (x : Int32) : vx_Met l yX3_checkPlace wsX3_checkPlace (xRm 6 1 6) (va_Pc [.ref (ad 0), .int x] (xBZ D cI cC (fun H => H = Hp ∧ xXO D ad n ch rg H) xNo)) (xV (fun _ : Unit => inR x n) (fun _ H => H = Hp) xNo) (xX xNo (fun E _ => E = xEI ∧ ¬ inR x n)) 1 6 xNo := by
  refine vx_ofW (cc := cX3_checkPlace) (maxL := 2) (ret := none) (by decide) rfl ?_
  intro p e s m args below meth c s₁ B hml htb hv
  obtain ⟨rfl, hP, hK, hZ⟩ := hv
  have hx := B.exec
  have hb := B.bytes
  have hr := B.returns
  have hts := atoms_spec (ws := wsX3_checkPlace) B.pre
  have hown : s.vm.findClass RX3 = some m.cls := findClass_of_methodNamed B.named
  have hlocks := B.notSynchronized
  obtain ⟨hHp, hO⟩ := hP
  have hl := lv_entry ([.ref (ad 0), .int x]) (n := 2) (Nat.le_of_ble_eq_true rfl)
  rw [lg_entry_eq]
  generalize (lg_sl ([.ref (ad 0), .int x]) ++ List.replicate (2 - (lg_sl ([.ref (ad 0), .int x])).length) Slot.unset).toArray = ls at hl ⊢
  have hl : lv_has ls 2 [(0, .ref (ad 0)), (1, .int x)] := hl
  have hS : va_S xNo s.heap s.heap [] := va_S.rf
  refine lv_iload_n hx hb dX3_checkPlace_0 rfl (lv_at hl 1 rfl) ?_
  refine lv_if_lt (tgt := 12) hx hb dX3_checkPlace_1 (by decide) (fun c1 => ?_) (fun c1 => ?_)
  · have hn : ¬ inR x n := fun z => z.1 c1
    exact x_throw (cls := xEI) (text := "no such place") (ik := 61) (is := 197) (ic := 65) hx hb hst9 hts hown htb hlocks hZ hS (hl.1.trans hml.symm) (by decide +kernel) (by decide +kernel) (by decide +kernel) xbad_I (by decide +kernel) xgood_I (by decide) dX3_checkPlace_12 dX3_checkPlace_15 dX3_checkPlace_16 dX3_checkPlace_18 dX3_checkPlace_21 (Nat.le_of_ble_eq_true rfl) (Nat.le_of_ble_eq_true rfl) (by show 0 + 1 ≤ 1; omega) (by show 0 + 6 ≤ 6; omega) (fun H1 _ ho => ⟨rfl, hn⟩) (fun _ h => h) (by omega) (by omega)
  · refine lv_iload_n hx hb dX3_checkPlace_4 rfl (lv_at hl 1 rfl) ?_
    refine lv_aload_n hx hb dX3_checkPlace_5 rfl (lv_at hl 0 rfl) ?_
    refine x_get (v := .int (nI n)) (C := RX3) (T := TX3) (N := 8) hx hb hts (by decide +kernel) hown hK hO rfl 5 (by decide) (hts (.fieldLink RX3 37 "BellRanks" "bells" "I") (by decide +kernel)) (fun _ h9 => h9) rfl dX3_checkPlace_6 ?_
    refine lv_icmp_lt (tgt := 22) hx hb dX3_checkPlace_9 (by decide) (fun c9 => ?_) (fun c9 => ?_)
    · have hi : inR x n := (inR_ltI c1 (by omega)).mp c9
      refine W.widen (k := 1) (n := 6) (by omega) (by omega) ?_
      refine vx_ret ?_
      exact x_vret hx hb hr hlocks () hi hHp hS (fun _ h => h) dX3_checkPlace_22
    · have hn : ¬ inR x n := fun z => c9 ((inR_ltI c1 (by omega)).mpr z)
      exact x_throw (cls := xEI) (text := "no such place") (ik := 61) (is := 197) (ic := 65) hx hb hst9 hts hown htb hlocks hZ hS (hl.1.trans hml.symm) (by decide +kernel) (by decide +kernel) (by decide +kernel) xbad_I (by decide +kernel) xgood_I (by decide) dX3_checkPlace_12 dX3_checkPlace_15 dX3_checkPlace_16 dX3_checkPlace_18 dX3_checkPlace_21 (Nat.le_of_ble_eq_true rfl) (Nat.le_of_ble_eq_true rfl) (by show 0 + 1 ≤ 1; omega) (by show 0 + 6 ≤ 6; omega) (fun H1 _ ho => ⟨rfl, hn⟩) (fun _ h => h) (by omega) (by omega)

set_option maxRecDepth 100000 in
set_option maxHeartbeats 4000000 in
theorem cX3_checkSteps_ (l : Launch) (hst9 : l.stackTraces = false) (D : va_G) (cI cC : ClassId) (ad : Nat → Nat) (Hp : Heap) (x : Int32) : vx_Met l yX3_checkSteps wsX3_checkSteps (xRm 6 1 6) (va_Pc [.int x] (xBZ D cI cC (fun H => H = Hp) xNo)) (xV (fun _ : Unit => inR x 201 ∧ 1 ≤ xN x) (fun _ H => H = Hp) xNo) (xX xNo (fun E _ => E = xEA ∧ ¬ (inR x 201 ∧ 1 ≤ xN x))) 1 6 xNo := by
  refine vx_ofW (cc := cX3_checkSteps) (maxL := 1) (ret := none) (by decide) rfl ?_
  intro p e s m args below meth c s₁ B hml htb hv
  obtain ⟨rfl, hP, hK, hZ⟩ := hv
  have hx := B.exec
  have hb := B.bytes
  have hr := B.returns
  have hts := atoms_spec (ws := wsX3_checkSteps) B.pre
  have hown : s.vm.findClass RX3 = some m.cls := findClass_of_methodNamed B.named
  have hlocks := B.notSynchronized
  have hHp := hP
  have hl := lv_entry ([.int x]) (n := 1) (Nat.le_of_ble_eq_true rfl)
  rw [lg_entry_eq]
  generalize (lg_sl ([.int x]) ++ List.replicate (1 - (lg_sl ([.int x])).length) Slot.unset).toArray = ls at hl ⊢
  have hl : lv_has ls 1 [(0, .int x)] := hl
  have hS : va_S xNo s.heap s.heap [] := va_S.rf
  refine lv_iload_n hx hb dX3_checkSteps_0 rfl (lv_at hl 0 rfl) ?_
  refine xn_iconst (v := 1) hx hb dX3_checkSteps_1 (by decide) ?_
  refine lv_icmp_lt (tgt := 12) hx hb dX3_checkSteps_2 (by decide) (fun c2 => ?_) (fun c2 => ?_)
  · have hn : ¬ (inR x 201 ∧ 1 ≤ xN x) := fun z => Int32.not_lt.mpr ((xin_rng (lo := 1) (hi := 200) (by decide) (by decide)).mpr z).1 c2
    exact x_throw (cls := xEA) (text := "steps is not 1 to 200") (ik := 47) (is := 199) (ic := 51) hx hb hst9 hts hown htb hlocks hZ hS (hl.1.trans hml.symm) (by decide +kernel) (by decide +kernel) (by decide +kernel) xbad_A (by decide +kernel) xgood_A (by decide) dX3_checkSteps_12 dX3_checkSteps_15 dX3_checkSteps_16 dX3_checkSteps_18 dX3_checkSteps_21 (Nat.le_of_ble_eq_true rfl) (Nat.le_of_ble_eq_true rfl) (by show 0 + 1 ≤ 1; omega) (by show 0 + 6 ≤ 6; omega) (fun H1 _ ho => ⟨rfl, hn⟩) (fun _ h => h) (by omega) (by omega)
  · refine lv_iload_n hx hb dX3_checkSteps_5 rfl (lv_at hl 0 rfl) ?_
    refine xn_sipush (v := 200) hx hb dX3_checkSteps_6 (by decide) ?_
    refine lv_icmp_le (tgt := 22) hx hb dX3_checkSteps_9 (by decide) (fun c9 => ?_) (fun c9 => ?_)
    · have hi : (inR x 201 ∧ 1 ≤ xN x) := (xin_rng (lo := 1) (hi := 200) (by decide) (by decide)).mp ⟨Int32.not_lt.mp c2, c9⟩
      refine W.widen (k := 1) (n := 6) (by omega) (by omega) ?_
      refine vx_ret ?_
      exact x_vret hx hb hr hlocks () hi hHp hS (fun _ h => h) dX3_checkSteps_22
    · have hn : ¬ (inR x 201 ∧ 1 ≤ xN x) := fun z => c9 ((xin_rng (lo := 1) (hi := 200) (by decide) (by decide)).mpr z).2
      exact x_throw (cls := xEA) (text := "steps is not 1 to 200") (ik := 47) (is := 199) (ic := 51) hx hb hst9 hts hown htb hlocks hZ hS (hl.1.trans hml.symm) (by decide +kernel) (by decide +kernel) (by decide +kernel) xbad_A (by decide +kernel) xgood_A (by decide) dX3_checkSteps_12 dX3_checkSteps_15 dX3_checkSteps_16 dX3_checkSteps_18 dX3_checkSteps_21 (Nat.le_of_ble_eq_true rfl) (Nat.le_of_ble_eq_true rfl) (by show 0 + 1 ≤ 1; omega) (by show 0 + 6 ≤ 6; omega) (fun H1 _ ho => ⟨rfl, hn⟩) (fun _ h => h) (by omega) (by omega)

set_option maxRecDepth 100000 in
set_option maxHeartbeats 4000000 in
theorem cX3_openPage_ (l : Launch) (hst9 : l.stackTraces = false) (D : va_G) (cI cC : ClassId) (ad : Nat → Nat) (n ch rg : Nat) (hch : ch ≤ 16) : vx_Met l yX3_openPage wsX3_openPage (xRm 6 1 6) (va_Pc [.ref (ad 0)] (xBZ D cI cC (fun H => xXO D ad n ch rg H ∧ xXB D cC ad H) (fun q9 => q9 = ad 0))) (xR (fun _ : Unit => ch < 16) (fun _ a H => a = ad (10 + ch) ∧ xXO D ad n (ch + 1) rg H) (fun q9 => q9 = ad 0)) (xX (fun q9 => q9 = ad 0) (fun E H => E = xES ∧ ¬ ch < 16 ∧ xXO D ad n ch rg H)) 1 6 (fun q9 => q9 = ad 0) := by
  refine vx_ofW (cc := cX3_openPage) (maxL := 2) (ret := (some (.object "BellRanks$Change"))) (by decide) rfl ?_
  intro p e s m args below meth c s₁ B hml htb hv
  obtain ⟨rfl, hP, hK, hZ⟩ := hv
  have hx := B.exec
  have hb := B.bytes
  have hr := B.returns
  have hts := atoms_spec (ws := wsX3_openPage) B.pre
  have hown : s.vm.findClass RX3 = some m.cls := findClass_of_methodNamed B.named
  have hlocks := B.notSynchronized
  obtain ⟨hO, hBk⟩ := hP
  have hl := lv_entry ([.ref (ad 0)]) (n := 2) (Nat.le_of_ble_eq_true rfl)
  rw [lg_entry_eq]
  generalize (lg_sl ([.ref (ad 0)]) ++ List.replicate (2 - (lg_sl ([.ref (ad 0)])).length) Slot.unset).toArray = ls at hl ⊢
  have hl : lv_has ls 2 [(0, .ref (ad 0))] := hl
  have hS : va_S (fun q9 => q9 = ad 0) s.heap s.heap [] := va_S.rf
  refine lv_aload_n hx hb dX3_openPage_0 rfl (lv_at hl 0 rfl) ?_
  refine x_get (v := .int (nI ch)) (C := RX3) (T := TX3) (N := 8) hx hb hts (by decide +kernel) hown hK hO rfl 6 (by decide) (hts (.fieldLink RX3 41 "BellRanks" "written" "I") (by decide +kernel)) (fun _ h9 => h9) rfl dX3_openPage_1 ?_
  refine lv_aload_n hx hb dX3_openPage_4 rfl (lv_at hl 0 rfl) ?_
  refine x_get (v := .ref (ad 1)) (C := RX3) (T := TX3) (N := 8) hx hb hts (by decide +kernel) hown hK hO rfl 0 (by decide) (hts (.fieldLink RX3 11 "BellRanks" "book" "[LBellRanks$Change;") (by decide +kernel)) (fun _ h9 => h9) rfl dX3_openPage_5 ?_
  refine x_alenC hx hb hK hBk dX3_openPage_8 ?_
  refine xn_icmp_lt (tgt := 22) hx hb dX3_openPage_9 (by decide) (by omega) (by decide) (fun c9 => ?_) (fun c9 => ?_)
  · refine lv_aload_n hx hb dX3_openPage_22 rfl (lv_at hl 0 rfl) ?_
    refine x_get (v := .ref (ad 1)) (C := RX3) (T := TX3) (N := 8) hx hb hts (by decide +kernel) hown hK hO rfl 0 (by decide) (hts (.fieldLink RX3 11 "BellRanks" "book" "[LBellRanks$Change;") (by decide +kernel)) (fun _ h9 => h9) rfl dX3_openPage_23 ?_
    refine lv_aload_n hx hb dX3_openPage_26 rfl (lv_at hl 0 rfl) ?_
    refine x_get (v := .int (nI ch)) (C := RX3) (T := TX3) (N := 8) hx hb hts (by decide +kernel) hown hK hO rfl 6 (by decide) (hts (.fieldLink RX3 41 "BellRanks" "written" "I") (by decide +kernel)) (fun _ h9 => h9) rfl dX3_openPage_27 ?_
    refine x_aald hx hb hK hBk (show ch < 16 by omega) (by decide) dX3_openPage_30 ?_
    refine lv_astore_n (lv' := [(1, .ref (ad (10 + ch))), (0, .ref (ad 0))]) hx hb dX3_openPage_31 rfl hl (by decide) rfl (fun ls hl => ?_)
    refine lv_aload_n hx hb dX3_openPage_32 rfl (lv_at hl 1 rfl) ?_
    refine lv_dup hx hb dX3_openPage_33 rfl ?_
    refine x_get (v := .int (nI ch)) (C := RX3) (T := TX3) (N := 8) hx hb hts (by decide +kernel) hown hK hO rfl 6 (by decide) (hts (.fieldLink RX3 41 "BellRanks" "written" "I") (by decide +kernel)) (fun _ h9 => h9) rfl dX3_openPage_34 ?_
    refine xn_iconst (v := 1) hx hb dX3_openPage_37 (by decide) ?_
    refine xn_iadd hx hb dX3_openPage_38 ?_
    refine x_put (v := .int (nI (ch + 1))) (ty := .int) (C := RX3) (T := TX3) (N := 8) hx hb hts (by decide +kernel) tyX3 tyX3_ok nmX3 hown hK hO hS rfl rfl 6 (by decide) (hts (.fieldLink RX3 41 "BellRanks" "written" "I") (by decide +kernel)) (fun _ h9 => h9) rfl (by decide +kernel) rfl rfl (Nat.le_of_ble_eq_true rfl) dX3_openPage_39 (fun H1 locs1 hN hz9 oq hS => ?_)
    have hO : xXO D ad n (ch + 1) rg H1 := hN
    refine lv_aload_n hx hb dX3_openPage_42 rfl (lv_at hl 0 rfl) ?_
    refine W.widen (k := 1) (n := 6) (by omega) (by omega) ?_
    refine vx_ret ?_
    exact x_maret (rt := .object "BellRanks$Change") hx hb hr (Or.inl ⟨_, rfl⟩) hlocks () c9 ⟨rfl, hO⟩ hS (fun _ h => h) dX3_openPage_43
  · have hn : ¬ ch < 16 := by omega
    exact x_throw (cls := xES) (text := "the book holds 16 changes") (ik := 114) (is := 195) (ic := 118) hx hb hst9 hts hown htb hlocks hZ hS (hl.1.trans hml.symm) (by decide +kernel) (by decide +kernel) (by decide +kernel) xbad_S (by decide +kernel) xgood_S (by decide) dX3_openPage_12 dX3_openPage_15 dX3_openPage_16 dX3_openPage_18 dX3_openPage_21 (Nat.le_of_ble_eq_true rfl) (Nat.le_of_ble_eq_true rfl) (by show 0 + 1 ≤ 1; omega) (by show 0 + 6 ≤ 6; omega) (fun H1 _ ho => ⟨rfl, hn, xat_old hO ho⟩) (fun _ h => h) (by omega) (by omega)

set_option maxRecDepth 100000 in
set_option maxHeartbeats 4000000 in
theorem cX3_differentInBook_ (l : Launch) (D : va_G) (cI cC : ClassId) (ad : Nat → Nat) (hj : xInj ad) (n ch rg zs : Nat) (fs zf : Nat → Nat) (pm : Nat → Nat → Nat) (hn8 : n ≤ 8) (hch : ch ≤ 16) (hpm8 : ∀ k i, pm k i < 8) (hz : ∀ k, k < ch → zf k = n) : Met l yX3_differentInBook wsX3_differentInBook (xRm 4 0 0) (va_Pc [.ref (ad 0)] (xB D cI cC (fun H => xXO D ad n ch rg H ∧ xXB D cC ad H ∧ xRs D cI (ad 8) (ad 9) zs fs H ∧ xXC D cI ad zf pm H))) (xI (fun x (_ : Nat × (Nat → Nat)) => x = nI (sm (nwf (fun k => hrk (pm k) n n)) ch)) (fun u H => xRs D cI (ad 8) (ad 9) u.1 u.2 H) (fun q9 => q9 = ad 8 ∨ q9 = ad 9)) 0 0 (fun q9 => q9 = ad 8 ∨ q9 = ad 9) := by
  refine Met.ofW (cc := cX3_differentInBook) (maxL := 2) (ret := (some .int)) (by decide) rfl ?_
  intro p e s m args below meth c s₁ B hml hv
  obtain ⟨rfl, hP, hK⟩ := hv
  have hx := B.exec
  have hb := B.bytes
  have hr := B.returns
  have hts := atoms_spec (ws := wsX3_differentInBook) B.pre
  have hown : s.vm.findClass RX3 = some m.cls := findClass_of_methodNamed B.named
  have hlocks := B.notSynchronized
  obtain ⟨hO, hBk, hRs, hCs⟩ := hP
  have hl := lv_entry ([.ref (ad 0)]) (n := 2) (Nat.le_of_ble_eq_true rfl)
  rw [lg_entry_eq]
  generalize (lg_sl ([.ref (ad 0)]) ++ List.replicate (2 - (lg_sl ([.ref (ad 0)])).length) Slot.unset).toArray = ls at hl ⊢
  have hl : lv_has ls 2 [(0, .ref (ad 0))] := hl
  have hS : va_S (fun q9 => q9 = ad 8 ∨ q9 = ad 9) s.heap s.heap [] := va_S.rf
  refine lv_aload_n hx hb dX3_differentInBook_0 rfl (lv_at hl 0 rfl) ?_
  refine x_get (v := .ref (ad 8)) (C := RX3) (T := TX3) (N := 8) hx hb hts (by decide +kernel) hown hK hO rfl 4 (by decide) (hts (.fieldLink RX3 33 "BellRanks" "ranks" "LBellRanks$RankSet;") (by decide +kernel)) (fun _ h9 => h9) rfl dX3_differentInBook_1 ?_
  refine xmV (As := []) (rest := []) ⟨hx, hb, hml, hown, hts⟩ (cX2_removeAll_ l D cI cC (ad 8) (ad 9) zs fs (xne hj (by omega) (by omega) (by omega))) (cwV 0 hts gX3_differentInBook_X2_removeAll rfl rfl rfl (by decide +kernel) ⟨Nat.le_of_ble_eq_true rfl, Nat.le_of_ble_eq_true rfl⟩) hK hRs (xRecv hK rfl hRs.1) rfl hl.1 rfl (Nat.le_of_ble_eq_true rfl) dX3_differentInBook_4 ⟨(by show 0 + 0 ≤ 0; omega), (by show 0 + 0 ≤ 0; omega)⟩ hS (fun _ h => h) (fun _ h => h) (fun u4 H1 locs1 hp4 hF4 hz4 hk4 hS => ?_)
  have hO : xXO D ad n ch rg H1 := xat_keep hO hk4 (fun z => z.elim (xne hj (by omega) (by omega) (by omega)) (xne hj (by omega) (by omega) (by omega)))
  have hBk : xXB D cC ad H1 := xat_keep hBk hk4 (fun z => z.elim (xne hj (by omega) (by omega) (by omega)) (xne hj (by omega) (by omega) (by omega)))
  have hCs : xXC D cI ad zf pm H1 := xXC_keep hCs hk4 (fun i hi1 hi2 => (fun z => z.elim (xne hj (by omega) (by omega) (by omega)) (xne hj (by omega) (by omega) (by omega))))
  have hRs : xRs D cI (ad 8) (ad 9) 0 fs H1 := hF4
  refine xn_iconst (v := 0) hx hb dX3_differentInBook_7 (by decide) ?_
  refine lv_istore_n (lv' := [(1, .int (nI 0)), (0, .ref (ad 0))]) hx hb dX3_differentInBook_8 rfl hl (by decide) rfl (fun ls hl => ?_)
  refine x_loopH (σ := Nat × Nat × (Nat → Nat)) (fun a => ch - a.1) (fun a H locs cells slots ls => (a.1 ≤ ch) ∧ (a.2.1 = sm (nwf (fun k => hrk (pm k) n n)) a.1) ∧ (∀ v9, (∃ i9, i9 < a.2.1 ∧ a.2.2 i9 = v9) ↔ (∃ q8, q8 < a.1 ∧ (fun k => hrk (pm k) n n) q8 = v9)) ∧ (xXO D ad n ch rg H) ∧ (xXB D cC ad H) ∧ (xRs D cI (ad 8) (ad 9) a.2.1 a.2.2 H) ∧ (xXC D cI ad zf pm H) ∧ (va_S (fun q9 => q9 = ad 8 ∨ q9 = ad 9) s.heap H locs) ∧ (cells = 0) ∧ (slots = 0) ∧ lv_has ls 2 [(0, .ref (ad 0)), (1, .int (nI a.1))]) ?_ (0, 0, fs) _ _ _ _ ls ⟨(Nat.zero_le _), rfl, (fun v9 => ⟨fun ⟨i9, z, _⟩ => absurd z (Nat.not_lt_zero _), fun ⟨i9, z, _⟩ => absurd z (Nat.not_lt_zero _)⟩), hO, hBk, hRs, hCs, hS, rfl, rfl, lv_sub hl [1, 0] rfl⟩
  rintro ⟨i, z9, g9⟩ H locs cells slots ls ⟨h2, h3, hset, hO, hBk, hRs, hCs, hS, rfl, rfl, hl⟩ ih9
  dsimp only at h2 h3 hset hO hBk hRs hCs hS hl
  have hzl := sm_nwf_le (fun k => hrk (pm k) n n) i
  rw [← h3] at hzl
  have hsb : ∀ i9, i9 < z9 → g9 i9 < 2 ^ 31 := fun i9 hi9 => by
    obtain ⟨q8, -, e9⟩ := (hset (g9 i9)).mp ⟨i9, hi9, rfl⟩
    rw [← e9]
    exact Nat.lt_trans (hrk_bd hn8) (by decide)
  refine lv_iload_n hx hb dX3_differentInBook_9 rfl (lv_at hl 1 rfl) ?_
  refine lv_aload_n hx hb dX3_differentInBook_10 rfl (lv_at hl 0 rfl) ?_
  refine x_get (v := .int (nI ch)) (C := RX3) (T := TX3) (N := 8) hx hb hts (by decide +kernel) hown hK hO rfl 6 (by decide) (hts (.fieldLink RX3 41 "BellRanks" "written" "I") (by decide +kernel)) (fun _ h9 => h9) rfl dX3_differentInBook_11 ?_
  refine xn_icmp_ge (tgt := 39) hx hb dX3_differentInBook_14 (by decide) (by omega) (by omega) (fun c14 => ?_) (fun c14 => ?_)
  · refine lv_aload_n hx hb dX3_differentInBook_39 rfl (lv_at hl 0 rfl) ?_
    refine x_get (v := .ref (ad 8)) (C := RX3) (T := TX3) (N := 8) hx hb hts (by decide +kernel) hown hK hO rfl 4 (by decide) (hts (.fieldLink RX3 33 "BellRanks" "ranks" "LBellRanks$RankSet;") (by decide +kernel)) (fun _ h9 => h9) rfl dX3_differentInBook_40 ?_
    refine xcV (As := []) (rest := []) ⟨hx, hb, hml, hown, hts⟩ (cX2_size_ l D cI cC (ad 8) (ad 9) z9 g9) (cwV 0 hts gX3_differentInBook_X2_size rfl rfl rfl (by decide +kernel) ⟨Nat.le_of_ble_eq_true rfl, Nat.le_of_ble_eq_true rfl⟩) hK hRs (xRecv hK rfl hRs.1) rfl hl.1 rfl (Nat.le_of_ble_eq_true rfl) dX3_differentInBook_43 ⟨(by show 0 ≤ 0; omega), (by show 0 ≤ 0; omega)⟩ (fun x43 e43 => ?_)
    subst e43
    exact x_miret hx hb hr hlocks (z9, g9) (by rw [h3, show i = ch by omega]) hRs hS (fun _ h => h) dX3_differentInBook_46
  · refine lv_aload_n hx hb dX3_differentInBook_17 rfl (lv_at hl 0 rfl) ?_
    refine x_get (v := .ref (ad 8)) (C := RX3) (T := TX3) (N := 8) hx hb hts (by decide +kernel) hown hK hO rfl 4 (by decide) (hts (.fieldLink RX3 33 "BellRanks" "ranks" "LBellRanks$RankSet;") (by decide +kernel)) (fun _ h9 => h9) rfl dX3_differentInBook_18 ?_
    refine lv_aload_n hx hb dX3_differentInBook_21 rfl (lv_at hl 0 rfl) ?_
    refine x_get (v := .ref (ad 1)) (C := RX3) (T := TX3) (N := 8) hx hb hts (by decide +kernel) hown hK hO rfl 0 (by decide) (hts (.fieldLink RX3 11 "BellRanks" "book" "[LBellRanks$Change;") (by decide +kernel)) (fun _ h9 => h9) rfl dX3_differentInBook_22 ?_
    refine lv_iload_n hx hb dX3_differentInBook_25 rfl (lv_at hl 1 rfl) ?_
    refine x_aald hx hb hK hBk (show i < 16 by omega) (by decide) dX3_differentInBook_26 ?_
    refine xcV (As := []) (rest := [.ref (ad 8)]) ⟨hx, hb, hml, hown, hts⟩ (cX0_rank_ l D cI cC (ad (10 + i)) (ad (26 + i)) n (pm i) hn8 (fun i9 => Nat.lt_trans (hpm8 _ i9) (by decide))) (cwV 0 hts gX3_differentInBook_X0_rank rfl rfl rfl (by decide +kernel) ⟨Nat.le_of_ble_eq_true rfl, Nat.le_of_ble_eq_true rfl⟩) hK (xXC_at hCs (show i < 16 by omega) (hz i (by omega))) (xRecv hK rfl (xXC_at hCs (show i < 16 by omega) (hz i (by omega))).1) rfl hl.1 rfl (Nat.le_of_ble_eq_true rfl) dX3_differentInBook_27 ⟨(by show 0 ≤ 0; omega), (by show 0 ≤ 0; omega)⟩ (fun x27 e27 => ?_)
    subst e27
    refine xmV (As := [.int (nI (hrk (pm i) n n))]) (rest := []) ⟨hx, hb, hml, hown, hts⟩ (cX2_add_ l D cI cC (ad 8) (ad 9) z9 g9 (xne hj (by omega) (by omega) (by omega)) (by omega) (hrk (pm i) n n) (Nat.lt_trans (hrk_bd hn8) (by decide)) hsb) (cwV 1 hts gX3_differentInBook_X2_add rfl rfl rfl (by decide +kernel) ⟨Nat.le_of_ble_eq_true rfl, Nat.le_of_ble_eq_true rfl⟩) hK hRs (xRecv hK rfl hRs.1) rfl hl.1 rfl (Nat.le_of_ble_eq_true rfl) dX3_differentInBook_30 ⟨(by show 0 + 0 ≤ 0; omega), (by show 0 + 0 ≤ 0; omega)⟩ hS (fun _ h => h) (fun _ h => h) (fun u30 H1 locs1 hp30 hF30 hz30 hk30 hS => ?_)
    have hO : xXO D ad n ch rg H1 := xat_keep hO hk30 (fun z => z.elim (xne hj (by omega) (by omega) (by omega)) (xne hj (by omega) (by omega) (by omega)))
    have hBk : xXB D cC ad H1 := xat_keep hBk hk30 (fun z => z.elim (xne hj (by omega) (by omega) (by omega)) (xne hj (by omega) (by omega) (by omega)))
    have hCs : xXC D cI ad zf pm H1 := xXC_keep hCs hk30 (fun i hi1 hi2 => (fun z => z.elim (xne hj (by omega) (by omega) (by omega)) (xne hj (by omega) (by omega) (by omega))))
    have hRs : xRs D cI (ad 8) (ad 9) u30.1 u30.2 H1 := hF30
    have hdg := dg_step (g := (fun k => hrk (pm k) n n)) hset h3 hp30 rfl
    refine xn_iinc (v := i + 1) (lv' := [(1, .int (nI (i + 1))), (0, .ref (ad 0))]) hx hb dX3_differentInBook_33 hl (k := 1) rfl (xinc1 _) (by decide) rfl (fun ls hl => ?_)
    refine lv_goto (tgt := 9) hx hb dX3_differentInBook_36 (by decide) ?_
    exact ih9 (i + 1, u30.1, u30.2) _ _ _ _ ls ⟨(by dsimp only; omega), hdg.1, hdg.2, hO, hBk, hRs, hCs, hS, rfl, rfl, lv_sub hl [1, 0] rfl⟩ (by dsimp only; omega)
end
section
/-! BELLRANKS' CALLS, by the shared state -/
abbrev xAD (ad : Nat → Nat) : Nat → Prop := fun q9 => ∃ i, i < 42 ∧ q9 = ad i
theorem va_up_up {α : Type} (f : Nat → α) (k : Nat) (v w : α) : va_up (va_up f k v) k w = va_up f k w := by
  funext j
  by_cases c : j = k
  · rw [c, va_up_self, va_up_self]
  · rw [va_up_ne _ _ c, va_up_ne _ _ c, va_up_ne _ _ c]
theorem va_up_id {α : Type} {f : Nat → α} {k : Nat} {v : α} (h : f k = v) : va_up f k v = f := by
  rw [← h]; exact va_up_same f k
theorem bck_bd {f g : Nat → Nat} (hf : ∀ i, f i < 8) : ∀ t, t ≤ 8 → ∀ i, bck f g t i < 8
  | 0, _, i => hf i
  | t + 1, ht, i => by
    show va_up (bck f g t) (g t) t i < 8
    by_cases c : i = g t
    · rw [c, va_up_self]; omega
    · rw [va_up_ne _ _ c]; exact bck_bd hf t (by omega) i
theorem nin_toInt {y : Int32} {N : Nat} (hN : N < 2 ^ 31) (h : ¬ inR y N) : y.toInt < 0 ∨ (N : Int) - 1 < y.toInt := by
  by_cases c : y < 0
  · exact Or.inl (Int32.lt_iff_toInt_lt.mp c)
  · obtain ⟨j, hj, rfl⟩ := nI_of c
    rw [inR_nI hj] at h
    rw [nI_toInt hj]
    omega
set_option maxRecDepth 100000 in
set_option maxHeartbeats 4000000 in
theorem kSetBells_ (l : Launch) (hst9 : l.stackTraces = false) (D : va_G) (cI cC : ClassId) (ad : Nat → Nat) (hj : xInj ad) (S : AS) (hI : AI S) (x : Int32) : vx_Met l yX3_setBells wsX3_setBells (xRm 14 10 60) (va_Pc [.ref (ad 0), .int x] (xBZ D cI cC (xXW D cI cC ad S) (xAD ad))) (xI (fun r (_ : Unit) => tSet S x = 0 ∧ r = rSet S x) (fun _ H => xXW D cI cC ad (nSet S x) H) (xAD ad)) (xX (xAD ad) (fun E H => (tSet S x = 1 ∧ E = xEA) ∧ xXW D cI cC ad S H)) 10 60 (xAD ad) := by
  obtain ⟨n, ch, pm, st, kf, rg⟩ := S
  obtain ⟨⟨hn2, hn8⟩, hch, hst, hpm8, hpm, hkv, hkb⟩ := id hI
  dsimp only at hn2 hn8 hch hst hpm8 hpm hkv hkb
  refine vx_ofW (cc := cX3_setBells) (maxL := 3) (ret := (some .int)) (by decide) rfl ?_
  intro p e s m args below meth c s₁ B hml htb hv
  obtain ⟨rfl, hP, hK, hZ⟩ := hv
  have hx := B.exec
  have hb := B.bytes
  have hr := B.returns
  have hts := atoms_spec (ws := wsX3_setBells) B.pre
  have hown : s.vm.findClass RX3 = some m.cls := findClass_of_methodNamed B.named
  have hlocks := B.notSynchronized
  have hW := hP
  have hl := lv_entry ([.ref (ad 0), .int x]) (n := 3) (Nat.le_of_ble_eq_true rfl)
  rw [lg_entry_eq]
  generalize (lg_sl ([.ref (ad 0), .int x]) ++ List.replicate (3 - (lg_sl ([.ref (ad 0), .int x])).length) Slot.unset).toArray = ls at hl ⊢
  have hl : lv_has ls 3 [(0, .ref (ad 0)), (1, .int x)] := hl
  obtain ⟨zr, zm, zs, fr, fm, fs, zf, hO, hBk, hMe, hRu, hfr, hMa, hfm, hRs, hCs, hz⟩ := id hW
  have hO : xXO D ad n ch rg s.heap := hO
  have hMe : xMe D cI (ad 2) (ad 3) st kf s.heap := hMe
  have hCs : xXC D cI ad zf pm s.heap := hCs
  have hz : ∀ k, k < ch → zf k = n := hz
  have hS : va_S (xAD ad) s.heap s.heap [] := va_S.rf
  refine lv_iload_n hx hb dX3_setBells_0 rfl (lv_at hl 1 rfl) ?_
  refine xn_iconst (v := 2) hx hb dX3_setBells_1 (by decide) ?_
  refine lv_icmp_lt (tgt := 11) hx hb dX3_setBells_2 (by decide) (fun c2 => ?_) (fun c2 => ?_)
  · have hn : ¬ (inR x 9 ∧ 2 ≤ xN x) := fun z => Int32.not_lt.mpr ((xin_rng (lo := 2) (hi := 8) (by decide) (by decide)).mpr z).1 c2
    exact x_throw (cls := xEA) (text := "bells is not 2 to 8") (ik := 47) (is := 49) (ic := 51) hx hb hst9 hts hown htb hlocks hZ hS (hl.1.trans hml.symm) (by decide +kernel) (by decide +kernel) (by decide +kernel) xbad_A (by decide +kernel) xgood_A (by decide) dX3_setBells_11 dX3_setBells_14 dX3_setBells_15 dX3_setBells_17 dX3_setBells_20 (Nat.le_of_ble_eq_true rfl) (Nat.le_of_ble_eq_true rfl) (by show 0 + 1 ≤ 10; omega) (by show 0 + 6 ≤ 60; omega) (fun H1 _ ho => ⟨⟨if_neg hn, rfl⟩, xXW_old hW ho⟩) (fun _ h => h) (by omega) (by omega)
  · refine lv_iload_n hx hb dX3_setBells_5 rfl (lv_at hl 1 rfl) ?_
    refine xn_bipush (v := 8) hx hb dX3_setBells_6 (by decide) ?_
    refine lv_icmp_le (tgt := 21) hx hb dX3_setBells_8 (by decide) (fun c8 => ?_) (fun c8 => ?_)
    · have hi := (xin_rng (lo := 2) (hi := 8) (by decide) (by decide)).mp ⟨Int32.not_lt.mp c2, c8⟩
      obtain ⟨j, hj9, hjb, rfl⟩ := inR_of hi.1
      have hl : lv_has ls 3 [(0, .ref (ad 0)), (1, .int (nI j))] := hl
      refine lv_aload_n hx hb dX3_setBells_21 rfl (lv_at hl 0 rfl) ?_
      refine x_get (v := .int (nI n)) (C := RX3) (T := TX3) (N := 8) hx hb hts (by decide +kernel) hown hK hO rfl 5 (by decide) (hts (.fieldLink RX3 37 "BellRanks" "bells" "I") (by decide +kernel)) (fun _ h9 => h9) rfl dX3_setBells_22 ?_
      refine lv_istore_n (lv' := [(2, .int (nI n)), (0, .ref (ad 0)), (1, .int (nI j))]) hx hb dX3_setBells_25 rfl hl (by decide) rfl (fun ls hl => ?_)
      refine lv_aload_n hx hb dX3_setBells_26 rfl (lv_at hl 1 rfl) ?_
      refine lv_iload_n hx hb dX3_setBells_27 rfl (lv_at hl 2 rfl) ?_
      refine x_put (v := .int (nI j)) (ty := .int) (C := RX3) (T := TX3) (N := 8) hx hb hts (by decide +kernel) tyX3 tyX3_ok nmX3 hown hK hO hS ⟨0, by omega, rfl⟩ rfl 5 (by decide) (hts (.fieldLink RX3 37 "BellRanks" "bells" "I") (by decide +kernel)) (fun _ h9 => h9) rfl (by decide +kernel) rfl rfl (Nat.le_of_ble_eq_true rfl) dX3_setBells_28 (fun H1 locs1 hN hz9 oq hS => ?_)
      have hO : xXO D ad j ch rg H1 := hN
      have hBk : xXB D cC ad H1 := va_at.kept hBk (oq _ (xne hj (by omega) (by omega) (by omega)))
      have hMe : xMe D cI (ad 2) (ad 3) st kf H1 := ⟨hMe.1.kept (oq _ (xne hj (by omega) (by omega) (by omega))), hMe.2.kept (oq _ (xne hj (by omega) (by omega) (by omega)))⟩
      have hRu : xCh D cI (ad 4) (ad 5) zr fr H1 := ⟨hRu.1.kept (oq _ (xne hj (by omega) (by omega) (by omega))), hRu.2.kept (oq _ (xne hj (by omega) (by omega) (by omega)))⟩
      have hMa : xCh D cI (ad 6) (ad 7) zm fm H1 := ⟨hMa.1.kept (oq _ (xne hj (by omega) (by omega) (by omega))), hMa.2.kept (oq _ (xne hj (by omega) (by omega) (by omega)))⟩
      have hRs : xRs D cI (ad 8) (ad 9) zs fs H1 := ⟨hRs.1.kept (oq _ (xne hj (by omega) (by omega) (by omega))), hRs.2.kept (oq _ (xne hj (by omega) (by omega) (by omega)))⟩
      have hCs : xXC D cI ad zf pm H1 := fun k hk9 => ⟨(hCs k hk9).1.kept (oq _ (xne hj (by omega) (by omega) (by omega))), (hCs k hk9).2.kept (oq _ (xne hj (by omega) (by omega) (by omega)))⟩
      refine lv_aload_n hx hb dX3_setBells_31 rfl (lv_at hl 1 rfl) ?_
      refine xn_iconst (v := 0) hx hb dX3_setBells_32 (by decide) ?_
      refine x_put (v := .int (nI 0)) (ty := .int) (C := RX3) (T := TX3) (N := 8) hx hb hts (by decide +kernel) tyX3 tyX3_ok nmX3 hown hK hO hS ⟨0, by omega, rfl⟩ rfl 6 (by decide) (hts (.fieldLink RX3 41 "BellRanks" "written" "I") (by decide +kernel)) (fun _ h9 => h9) rfl (by decide +kernel) rfl rfl (Nat.le_of_ble_eq_true rfl) dX3_setBells_33 (fun H1 locs1 hN hz9 oq hS => ?_)
      have hO : xXO D ad j 0 rg H1 := hN
      have hBk : xXB D cC ad H1 := va_at.kept hBk (oq _ (xne hj (by omega) (by omega) (by omega)))
      have hMe : xMe D cI (ad 2) (ad 3) st kf H1 := ⟨hMe.1.kept (oq _ (xne hj (by omega) (by omega) (by omega))), hMe.2.kept (oq _ (xne hj (by omega) (by omega) (by omega)))⟩
      have hRu : xCh D cI (ad 4) (ad 5) zr fr H1 := ⟨hRu.1.kept (oq _ (xne hj (by omega) (by omega) (by omega))), hRu.2.kept (oq _ (xne hj (by omega) (by omega) (by omega)))⟩
      have hMa : xCh D cI (ad 6) (ad 7) zm fm H1 := ⟨hMa.1.kept (oq _ (xne hj (by omega) (by omega) (by omega))), hMa.2.kept (oq _ (xne hj (by omega) (by omega) (by omega)))⟩
      have hRs : xRs D cI (ad 8) (ad 9) zs fs H1 := ⟨hRs.1.kept (oq _ (xne hj (by omega) (by omega) (by omega))), hRs.2.kept (oq _ (xne hj (by omega) (by omega) (by omega)))⟩
      have hCs : xXC D cI ad zf pm H1 := fun k hk9 => ⟨(hCs k hk9).1.kept (oq _ (xne hj (by omega) (by omega) (by omega))), (hCs k hk9).2.kept (oq _ (xne hj (by omega) (by omega) (by omega)))⟩
      refine lv_aload_n hx hb dX3_setBells_36 rfl (lv_at hl 1 rfl) ?_
      refine x_get (v := .ref (ad 2)) (C := RX3) (T := TX3) (N := 8) hx hb hts (by decide +kernel) hown hK hO rfl 1 (by decide) (hts (.fieldLink RX3 19 "BellRanks" "method" "LBellRanks$Method;") (by decide +kernel)) (fun _ h9 => h9) rfl dX3_setBells_37 ?_
      refine xmV (As := []) (rest := []) ⟨hx, hb, hml, hown, hts⟩ (cX1_removeAll_ l D cI cC (ad 2) (ad 3) st kf (xne hj (by omega) (by omega) (by omega))) (cwV 0 hts gX3_setBells_X1_removeAll rfl rfl rfl (by decide +kernel) ⟨Nat.le_of_ble_eq_true rfl, Nat.le_of_ble_eq_true rfl⟩) hK hMe (xRecv hK rfl hMe.1) rfl hl.1 rfl (Nat.le_of_ble_eq_true rfl) dX3_setBells_40 ⟨(by show 0 + 0 ≤ 10; omega), (by show 0 + 0 ≤ 60; omega)⟩ hS (fun q h => h.elim (fun h => ⟨2, by omega, h⟩) (fun h => ⟨3, by omega, h⟩)) (fun q h => h.elim (fun h => ⟨2, by omega, h⟩) (fun h => ⟨3, by omega, h⟩)) (fun u40 H1 locs1 hp40 hF40 hz40 hk40 hS => ?_)
      have hO : xXO D ad j 0 rg H1 := xat_keep hO hk40 (fun z => z.elim (xne hj (by omega) (by omega) (by omega)) (xne hj (by omega) (by omega) (by omega)))
      have hBk : xXB D cC ad H1 := xat_keep hBk hk40 (fun z => z.elim (xne hj (by omega) (by omega) (by omega)) (xne hj (by omega) (by omega) (by omega)))
      have hRu : xCh D cI (ad 4) (ad 5) zr fr H1 := xCh_keep hRu hk40 (fun z => z.elim (xne hj (by omega) (by omega) (by omega)) (xne hj (by omega) (by omega) (by omega))) (fun z => z.elim (xne hj (by omega) (by omega) (by omega)) (xne hj (by omega) (by omega) (by omega)))
      have hMa : xCh D cI (ad 6) (ad 7) zm fm H1 := xCh_keep hMa hk40 (fun z => z.elim (xne hj (by omega) (by omega) (by omega)) (xne hj (by omega) (by omega) (by omega))) (fun z => z.elim (xne hj (by omega) (by omega) (by omega)) (xne hj (by omega) (by omega) (by omega)))
      have hRs : xRs D cI (ad 8) (ad 9) zs fs H1 := xRs_keep hRs hk40 (fun z => z.elim (xne hj (by omega) (by omega) (by omega)) (xne hj (by omega) (by omega) (by omega))) (fun z => z.elim (xne hj (by omega) (by omega) (by omega)) (xne hj (by omega) (by omega) (by omega)))
      have hCs : xXC D cI ad zf pm H1 := xXC_keep hCs hk40 (fun i hi1 hi2 => (fun z => z.elim (xne hj (by omega) (by omega) (by omega)) (xne hj (by omega) (by omega) (by omega))))
      have hMe : xMe D cI (ad 2) (ad 3) 0 kf H1 := hF40
      refine lv_iload_n hx hb dX3_setBells_43 rfl (lv_at hl 0 rfl) ?_
      have hz : ∀ k, k < 0 → zf k = j := fun k hk => absurd hk (Nat.not_lt_zero _)
      have ht : tSet (n, ch, pm, st, kf, rg) (nI j) = 0 := if_pos hi
      refine W.widen (k := 10) (n := 60) (by omega) (by omega) ?_
      refine vx_ret ?_
      have hnw : nSet (n, ch, pm, st, kf, rg) (nI j) = (j, 0, pm, 0, kf, rg) := (if_pos ht).trans (by simp only [xN_nI hjb])
      exact x_miret hx hb hr hlocks () ⟨ht, rfl⟩ (by show xXW D cI cC ad (nSet (n, ch, pm, st, kf, rg) (nI j)) _; rw [hnw]; exact (xXW_mk (S := (j, 0, pm, 0, kf, rg)) hO hBk hMe hRu hfr hMa hfm hRs hCs hz)) hS (fun _ h => h) dX3_setBells_44
    · have hn : ¬ (inR x 9 ∧ 2 ≤ xN x) := fun z => c8 ((xin_rng (lo := 2) (hi := 8) (by decide) (by decide)).mpr z).2
      exact x_throw (cls := xEA) (text := "bells is not 2 to 8") (ik := 47) (is := 49) (ic := 51) hx hb hst9 hts hown htb hlocks hZ hS (hl.1.trans hml.symm) (by decide +kernel) (by decide +kernel) (by decide +kernel) xbad_A (by decide +kernel) xgood_A (by decide) dX3_setBells_11 dX3_setBells_14 dX3_setBells_15 dX3_setBells_17 dX3_setBells_20 (Nat.le_of_ble_eq_true rfl) (Nat.le_of_ble_eq_true rfl) (by show 0 + 1 ≤ 10; omega) (by show 0 + 6 ≤ 60; omega) (fun H1 _ ho => ⟨⟨if_neg hn, rfl⟩, xXW_old hW ho⟩) (fun _ h => h) (by omega) (by omega)

set_option maxRecDepth 100000 in
set_option maxHeartbeats 4000000 in
theorem kWrite_ (l : Launch) (hst9 : l.stackTraces = false) (D : va_G) (cI cC : ClassId) (ad : Nat → Nat) (hj : xInj ad) (S : AS) (hI : AI S) (x : Int32) : vx_Met l yX3_write wsX3_write (xRm 14 10 60) (va_Pc [.ref (ad 0), .int x] (xBZ D cI cC (xXW D cI cC ad S) (xAD ad))) (xI (fun r (_ : Unit) => tWrite S x = 0 ∧ r = rWrite S x) (fun _ H => xXW D cI cC ad (nWrite S x) H) (xAD ad)) (xX (xAD ad) (fun E H => ((tWrite S x = 1 ∧ E = xEI) ∨ (tWrite S x = 2 ∧ E = xES)) ∧ xXW D cI cC ad S H)) 10 60 (xAD ad) := by
  obtain ⟨n, ch, pm, st, kf, rg⟩ := S
  obtain ⟨⟨hn2, hn8⟩, hch, hst, hpm8, hpm, hkv, hkb⟩ := id hI
  dsimp only at hn2 hn8 hch hst hpm8 hpm hkv hkb
  refine vx_ofW (cc := cX3_write) (maxL := 3) (ret := (some .int)) (by decide) rfl ?_
  intro p e s m args below meth c s₁ B hml htb hv
  obtain ⟨rfl, hP, hK, hZ⟩ := hv
  have hx := B.exec
  have hb := B.bytes
  have hr := B.returns
  have hts := atoms_spec (ws := wsX3_write) B.pre
  have hown : s.vm.findClass RX3 = some m.cls := findClass_of_methodNamed B.named
  have hlocks := B.notSynchronized
  have hW := hP
  have hl := lv_entry ([.ref (ad 0), .int x]) (n := 3) (Nat.le_of_ble_eq_true rfl)
  rw [lg_entry_eq]
  generalize (lg_sl ([.ref (ad 0), .int x]) ++ List.replicate (3 - (lg_sl ([.ref (ad 0), .int x])).length) Slot.unset).toArray = ls at hl ⊢
  have hl : lv_has ls 3 [(0, .ref (ad 0)), (1, .int x)] := hl
  obtain ⟨zr, zm, zs, fr, fm, fs, zf, hO, hBk, hMe, hRu, hfr, hMa, hfm, hRs, hCs, hz⟩ := id hW
  have hO : xXO D ad n ch rg s.heap := hO
  have hMe : xMe D cI (ad 2) (ad 3) st kf s.heap := hMe
  have hCs : xXC D cI ad zf pm s.heap := hCs
  have hz : ∀ k, k < ch → zf k = n := hz
  have hS : va_S (xAD ad) s.heap s.heap [] := va_S.rf
  have hf8 := fac_le n hn8
  refine lv_iload_n hx hb dX3_write_0 rfl (lv_at hl 1 rfl) ?_
  refine lv_if_lt (tgt := 15) hx hb dX3_write_1 (by decide) (fun c1 => ?_) (fun c1 => ?_)
  · have hn : ¬ inR x (fac n) := fun z => z.1 c1
    exact x_throw (cls := xEI) (text := "no change of this rank") (ik := 61) (is := 63) (ic := 65) hx hb hst9 hts hown htb hlocks hZ hS (hl.1.trans hml.symm) (by decide +kernel) (by decide +kernel) (by decide +kernel) xbad_I (by decide +kernel) xgood_I (by decide) dX3_write_15 dX3_write_18 dX3_write_19 dX3_write_21 dX3_write_24 (Nat.le_of_ble_eq_true rfl) (Nat.le_of_ble_eq_true rfl) (by show 0 + 1 ≤ 10; omega) (by show 0 + 6 ≤ 60; omega) (fun H1 _ ho => ⟨Or.inl ⟨(show (if inR x (fac n) then (if ch = 16 then 2 else 0) else 1) = 1 by rw [if_neg hn]), rfl⟩, xXW_old hW ho⟩) (fun _ h => h) (by omega) (by omega)
  · refine lv_iload_n hx hb dX3_write_4 rfl (lv_at hl 1 rfl) ?_
    refine lv_aload_n hx hb dX3_write_5 rfl (lv_at hl 0 rfl) ?_
    refine x_get (v := .int (nI n)) (C := RX3) (T := TX3) (N := 8) hx hb hts (by decide +kernel) hown hK hO rfl 5 (by decide) (hts (.fieldLink RX3 37 "BellRanks" "bells" "I") (by decide +kernel)) (fun _ h9 => h9) rfl dX3_write_6 ?_
    refine xcS (As := [.int (nI n)]) (rest := [.int x]) ⟨hx, hb, hml, hown, hts⟩ (cX3_changesOf_ l D cI cC n (by omega) (by omega)) (va_cwS 1 hts gX3_write_X3_changesOf rfl rfl rfl (by decide +kernel) ⟨Nat.le_of_ble_eq_true rfl, Nat.le_of_ble_eq_true rfl⟩) hK trivial rfl hl.1 rfl (Nat.le_of_ble_eq_true rfl) dX3_write_9 ⟨(by show 0 ≤ 10; omega), (by show 0 ≤ 60; omega)⟩ (fun x9 e9 => ?_)
    subst e9
    refine lv_icmp_lt (tgt := 25) hx hb dX3_write_12 (by decide) (fun c12 => ?_) (fun c12 => ?_)
    · have hi : inR x (fac n) := (inR_ltI c1 (by omega)).mp c12
      obtain ⟨j, hj9, hjb, rfl⟩ := inR_of hi
      have hl : lv_has ls 3 [(0, .ref (ad 0)), (1, .int (nI j))] := hl
      refine lv_aload_n hx hb dX3_write_25 rfl (lv_at hl 0 rfl) ?_
      refine xtR (As := []) (rest := []) ⟨hx, hb, hml, hown, hts⟩ (cX3_openPage_ l hst9 D cI cC ad n ch rg (by omega)) (cwV 0 hts gX3_write_X3_openPage rfl rfl rfl (by decide +kernel) ⟨Nat.le_of_ble_eq_true rfl, Nat.le_of_ble_eq_true rfl⟩) hK ((hZ.kept hS.2.1).narrow (fun q h => ⟨0, by omega, h⟩)) ⟨hO, hBk⟩ (xRecv hK rfl hO) rfl hl.1 rfl (Nat.le_of_ble_eq_true rfl) dX3_write_26 ⟨(by show 0 + 1 ≤ 10; omega), (by show 0 + 6 ≤ 60; omega)⟩ hS (fun q h => ⟨0, by omega, h⟩) (fun q h => ⟨0, by omega, h⟩) (fun E ce q9 H1 locs1 hB hz9 hk9 hS h1 h2 h3 => ?_) (fun u ra H1 locs1 hp hF hz9 hk26 hS => ?_)
      · obtain ⟨rfl, hn, hO9⟩ := hB
        have hW9 : xXW D cI cC ad (n, ch, pm, st, kf, rg) H1 := xXW_mk (S := (n, ch, pm, st, kf, rg)) hO9 (xat_keep hBk hk9 (xne hj (by omega) (by omega) (by omega))) (xMe_keep hMe hk9 (xne hj (by omega) (by omega) (by omega)) (xne hj (by omega) (by omega) (by omega))) (xCh_keep hRu hk9 (xne hj (by omega) (by omega) (by omega)) (xne hj (by omega) (by omega) (by omega))) hfr (xCh_keep hMa hk9 (xne hj (by omega) (by omega) (by omega)) (xne hj (by omega) (by omega) (by omega))) hfm (xRs_keep hRs hk9 (xne hj (by omega) (by omega) (by omega)) (xne hj (by omega) (by omega) (by omega))) (xXC_keep hCs hk9 (fun i hi1 hi2 => (xne hj (by omega) (by omega) (by omega)))) hz
        exact x_pass htb hlocks h1 h2 h3 ⟨Or.inr ⟨(show (if inR (nI j) (fac n) then (if ch = 16 then 2 else 0) else 1) = 2 by rw [if_pos hi, if_pos (show ch = 16 by omega)]), rfl⟩, hW9⟩ hS (fun _ h => h) (by omega) (by omega)
      obtain ⟨rfl, hO⟩ := hF
      have hBk : xXB D cC ad H1 := xat_keep hBk hk26 (xne hj (by omega) (by omega) (by omega))
      have hMe : xMe D cI (ad 2) (ad 3) st kf H1 := xMe_keep hMe hk26 (xne hj (by omega) (by omega) (by omega)) (xne hj (by omega) (by omega) (by omega))
      have hRu : xCh D cI (ad 4) (ad 5) zr fr H1 := xCh_keep hRu hk26 (xne hj (by omega) (by omega) (by omega)) (xne hj (by omega) (by omega) (by omega))
      have hMa : xCh D cI (ad 6) (ad 7) zm fm H1 := xCh_keep hMa hk26 (xne hj (by omega) (by omega) (by omega)) (xne hj (by omega) (by omega) (by omega))
      have hRs : xRs D cI (ad 8) (ad 9) zs fs H1 := xRs_keep hRs hk26 (xne hj (by omega) (by omega) (by omega)) (xne hj (by omega) (by omega) (by omega))
      have hCs : xXC D cI ad zf pm H1 := xXC_keep hCs hk26 (fun i hi1 hi2 => (xne hj (by omega) (by omega) (by omega)))
      have hCp : xCh D cI (ad (10 + ch)) (ad (26 + ch)) (zf ch) (pm ch) H1 := hCs ch (show ch < 16 from hp)
      refine lv_astore_n (lv' := [(2, .ref (ad (10 + ch))), (0, .ref (ad 0)), (1, .int (nI j))]) hx hb dX3_write_29 rfl hl (by decide) rfl (fun ls hl => ?_)
      refine lv_aload_n hx hb dX3_write_30 rfl (lv_at hl 0 rfl) ?_
      refine lv_aload_n hx hb dX3_write_31 rfl (lv_at hl 1 rfl) ?_
      refine x_get (v := .int (nI n)) (C := RX3) (T := TX3) (N := 8) hx hb hts (by decide +kernel) hown hK hO rfl 5 (by decide) (hts (.fieldLink RX3 37 "BellRanks" "bells" "I") (by decide +kernel)) (fun _ h9 => h9) rfl dX3_write_32 ?_
      refine lv_iload_n hx hb dX3_write_35 rfl (lv_at hl 2 rfl) ?_
      refine xmV (As := [.int (nI n), .int (nI j)]) (rest := []) ⟨hx, hb, hml, hown, hts⟩ (cX0_setRank_ l D cI cC (ad (10 + ch)) (ad (26 + ch)) (zf ch) (pm ch) (xne hj (by omega) (by omega) (by omega)) (hpm8 ch) n j hn8 (by omega)) (cwV 2 hts gX3_write_X0_setRank rfl rfl rfl (by decide +kernel) ⟨Nat.le_of_ble_eq_true rfl, Nat.le_of_ble_eq_true rfl⟩) hK hCp (xRecv hK rfl hCp.1) rfl hl.1 rfl (Nat.le_of_ble_eq_true rfl) dX3_write_36 ⟨(by show 0 + 1 + 0 ≤ 10; omega), (by show 0 + 6 + 0 ≤ 60; omega)⟩ hS (fun q h => h.elim (fun h => ⟨10 + ch, by omega, h⟩) (fun h => ⟨26 + ch, by omega, h⟩)) (fun q h => h.elim (fun h => ⟨10 + ch, by omega, h⟩) (fun h => ⟨26 + ch, by omega, h⟩)) (fun u36 H1 locs1 hp36 hF36 hz36 hk36 hS => ?_)
      have hO : xXO D ad n (ch + 1) rg H1 := xat_keep hO hk36 (fun z => z.elim (xne hj (by omega) (by omega) (by omega)) (xne hj (by omega) (by omega) (by omega)))
      have hBk : xXB D cC ad H1 := xat_keep hBk hk36 (fun z => z.elim (xne hj (by omega) (by omega) (by omega)) (xne hj (by omega) (by omega) (by omega)))
      have hMe : xMe D cI (ad 2) (ad 3) st kf H1 := xMe_keep hMe hk36 (fun z => z.elim (xne hj (by omega) (by omega) (by omega)) (xne hj (by omega) (by omega) (by omega))) (fun z => z.elim (xne hj (by omega) (by omega) (by omega)) (xne hj (by omega) (by omega) (by omega)))
      have hRu : xCh D cI (ad 4) (ad 5) zr fr H1 := xCh_keep hRu hk36 (fun z => z.elim (xne hj (by omega) (by omega) (by omega)) (xne hj (by omega) (by omega) (by omega))) (fun z => z.elim (xne hj (by omega) (by omega) (by omega)) (xne hj (by omega) (by omega) (by omega)))
      have hMa : xCh D cI (ad 6) (ad 7) zm fm H1 := xCh_keep hMa hk36 (fun z => z.elim (xne hj (by omega) (by omega) (by omega)) (xne hj (by omega) (by omega) (by omega))) (fun z => z.elim (xne hj (by omega) (by omega) (by omega)) (xne hj (by omega) (by omega) (by omega)))
      have hRs : xRs D cI (ad 8) (ad 9) zs fs H1 := xRs_keep hRs hk36 (fun z => z.elim (xne hj (by omega) (by omega) (by omega)) (xne hj (by omega) (by omega) (by omega))) (fun z => z.elim (xne hj (by omega) (by omega) (by omega)) (xne hj (by omega) (by omega) (by omega)))
      have hCp : xCh D cI (ad (10 + ch)) (ad (26 + ch)) n (srG (pm ch) n j n) H1 := hF36
      have hCs := xXC_set hCs hk36 (fun i h5 h6 h7 h8 => (fun z => z.elim (xne hj (by omega) (by omega) (by omega)) (xne hj (by omega) (by omega) (by omega)))) hCp (show ch < 16 by omega)
      refine lv_aload_n hx hb dX3_write_39 rfl (lv_at hl 1 rfl) ?_
      refine x_get (v := .int (nI (ch + 1))) (C := RX3) (T := TX3) (N := 8) hx hb hts (by decide +kernel) hown hK hO rfl 6 (by decide) (hts (.fieldLink RX3 41 "BellRanks" "written" "I") (by decide +kernel)) (fun _ h9 => h9) rfl dX3_write_40 ?_
      refine xn_iconst (v := 1) hx hb dX3_write_43 (by decide) ?_
      refine xn_isub hx hb (by omega) dX3_write_44 ?_
      have hz : ∀ k, k < ch + 1 → va_up zf ch n k = n := zf_add hz
      have ht : tWrite (n, ch, pm, st, kf, rg) (nI j) = 0 := (show (if inR (nI j) (fac n) then (if ch = 16 then 2 else 0) else 1) = 0 by rw [if_pos hi, if_neg (show ¬ ch = 16 by omega)])
      refine W.widen (k := 10) (n := 60) (by omega) (by omega) ?_
      refine vx_ret ?_
      have hnw : nWrite (n, ch, pm, st, kf, rg) (nI j) = adP (n, ch, pm, st, kf, rg) (srG (pm ch) n j n) := (if_pos ht).trans (by simp only [xN_nI hjb])
      exact x_miret hx hb hr hlocks () ⟨ht, (by rw [Nat.add_sub_cancel]; rfl)⟩ (by show xXW D cI cC ad (nWrite (n, ch, pm, st, kf, rg) (nI j)) _; rw [hnw]; exact (xXW_mk (S := adP (n, ch, pm, st, kf, rg) (srG (pm ch) n j n)) hO hBk hMe hRu hfr hMa hfm hRs hCs hz)) hS (fun _ h => h) dX3_write_45
    · have hn : ¬ inR x (fac n) := fun z => c12 ((inR_ltI c1 (by omega)).mpr z)
      exact x_throw (cls := xEI) (text := "no change of this rank") (ik := 61) (is := 63) (ic := 65) hx hb hst9 hts hown htb hlocks hZ hS (hl.1.trans hml.symm) (by decide +kernel) (by decide +kernel) (by decide +kernel) xbad_I (by decide +kernel) xgood_I (by decide) dX3_write_15 dX3_write_18 dX3_write_19 dX3_write_21 dX3_write_24 (Nat.le_of_ble_eq_true rfl) (Nat.le_of_ble_eq_true rfl) (by show 0 + 1 ≤ 10; omega) (by show 0 + 6 ≤ 60; omega) (fun H1 _ ho => ⟨Or.inl ⟨(show (if inR x (fac n) then (if ch = 16 then 2 else 0) else 1) = 1 by rw [if_neg hn]), rfl⟩, xXW_old hW ho⟩) (fun _ h => h) (by omega) (by omega)

set_option maxRecDepth 100000 in
set_option maxHeartbeats 4000000 in
theorem kSwap_ (l : Launch) (hst9 : l.stackTraces = false) (D : va_G) (cI cC : ClassId) (ad : Nat → Nat) (hj : xInj ad) (S : AS) (hI : AI S) (x : Int32) (y : Int32) : vx_Met l yX3_swap wsX3_swap (xRm 14 10 60) (va_Pc [.ref (ad 0), .int x, .int y] (xBZ D cI cC (xXW D cI cC ad S) (xAD ad))) (xI (fun r (_ : Unit) => tSwap S x y = 0 ∧ r = rSwap S x y) (fun _ H => xXW D cI cC ad (nSwap S x y) H) (xAD ad)) (xX (xAD ad) (fun E H => (tSwap S x y = 1 ∧ E = xEI) ∧ xXW D cI cC ad S H)) 10 60 (xAD ad) := by
  obtain ⟨n, ch, pm, st, kf, rg⟩ := S
  obtain ⟨⟨hn2, hn8⟩, hch, hst, hpm8, hpm, hkv, hkb⟩ := id hI
  dsimp only at hn2 hn8 hch hst hpm8 hpm hkv hkb
  refine vx_ofW (cc := cX3_swap) (maxL := 4) (ret := (some .int)) (by decide) rfl ?_
  intro p e s m args below meth c s₁ B hml htb hv
  obtain ⟨rfl, hP, hK, hZ⟩ := hv
  have hx := B.exec
  have hb := B.bytes
  have hr := B.returns
  have hts := atoms_spec (ws := wsX3_swap) B.pre
  have hown : s.vm.findClass RX3 = some m.cls := findClass_of_methodNamed B.named
  have hlocks := B.notSynchronized
  have hW := hP
  have hl := lv_entry ([.ref (ad 0), .int x, .int y]) (n := 4) (Nat.le_of_ble_eq_true rfl)
  rw [lg_entry_eq]
  generalize (lg_sl ([.ref (ad 0), .int x, .int y]) ++ List.replicate (4 - (lg_sl ([.ref (ad 0), .int x, .int y])).length) Slot.unset).toArray = ls at hl ⊢
  have hl : lv_has ls 4 [(0, .ref (ad 0)), (1, .int x), (2, .int y)] := hl
  obtain ⟨zr, zm, zs, fr, fm, fs, zf, hO, hBk, hMe, hRu, hfr, hMa, hfm, hRs, hCs, hz⟩ := id hW
  have hO : xXO D ad n ch rg s.heap := hO
  have hMe : xMe D cI (ad 2) (ad 3) st kf s.heap := hMe
  have hCs : xXC D cI ad zf pm s.heap := hCs
  have hz : ∀ k, k < ch → zf k = n := hz
  have hS : va_S (xAD ad) s.heap s.heap [] := va_S.rf
  refine lv_aload_n hx hb dX3_swap_0 rfl (lv_at hl 0 rfl) ?_
  refine lv_iload_n hx hb dX3_swap_1 rfl (lv_at hl 1 rfl) ?_
  refine xtR (As := [.int x]) (rest := []) ⟨hx, hb, hml, hown, hts⟩ (cX3_find_ l hst9 D cI cC ad _ n ch rg (by omega) x) (cwV 1 hts gX3_swap_X3_find rfl rfl rfl (by decide +kernel) ⟨Nat.le_of_ble_eq_true rfl, Nat.le_of_ble_eq_true rfl⟩) hK ((hZ.kept hS.2.1).narrow (fun q h => h.elim)) ⟨rfl, hO, hBk⟩ (xRecv hK rfl hO) rfl hl.1 rfl (Nat.le_of_ble_eq_true rfl) dX3_swap_2 ⟨(by show 0 + 1 ≤ 10; omega), (by show 0 + 6 ≤ 60; omega)⟩ hS (fun q h => h.elim) (fun q h => h.elim) (fun E ce q9 H1 locs1 hB hz9 hk9 hS h1 h2 h3 => ?_) (fun u ra H1 locs1 hp hF hz9 hk2 hS => ?_)
  · obtain ⟨rfl, hn⟩ := hB
    exact x_pass htb hlocks h1 h2 h3 ⟨⟨if_neg (fun z => hn z.1), rfl⟩, (xXW_old hW (fun x9 hx9 => hk9 x9 hx9 id))⟩ hS (fun _ h => h) (by omega) (by omega)
  obtain ⟨rfl, hra⟩ := hF
  have hi2 := hp
  obtain ⟨j1, hj1, hj1b, rfl⟩ := inR_of hp
  rw [xN_nI hj1b] at hra
  subst hra
  have hl : lv_has ls 4 [(0, .ref (ad 0)), (1, .int (nI j1)), (2, .int y)] := hl
  have hC1 : xCh D cI (ad (10 + j1)) (ad (26 + j1)) n (pm j1) s.heap := xXC_at hCs (show j1 < 16 by omega) (hz j1 hj1)
  have hi2x := hi2
  refine lv_astore_n (lv' := [(3, .ref (ad (10 + j1))), (0, .ref (ad 0)), (1, .int (nI j1)), (2, .int y)]) hx hb dX3_swap_5 rfl hl (by decide) rfl (fun ls hl => ?_)
  refine lv_iload_n hx hb dX3_swap_6 rfl (lv_at hl 3 rfl) ?_
  refine lv_if_lt (tgt := 20) hx hb dX3_swap_7 (by decide) (fun c7 => ?_) (fun c7 => ?_)
  · have hn : ¬ inR y (n - 1) := fun z => z.1 c7
    exact x_throw (cls := xEI) (text := "no neighbours at this place") (ik := 61) (is := 78) (ic := 65) hx hb hst9 hts hown htb hlocks hZ hS (hl.1.trans hml.symm) (by decide +kernel) (by decide +kernel) (by decide +kernel) xbad_I (by decide +kernel) xgood_I (by decide) dX3_swap_20 dX3_swap_23 dX3_swap_24 dX3_swap_26 dX3_swap_29 (Nat.le_of_ble_eq_true rfl) (Nat.le_of_ble_eq_true rfl) (by show 0 + 1 + 1 ≤ 10; omega) (by show 0 + 6 + 6 ≤ 60; omega) (fun H1 _ ho => ⟨⟨if_neg (fun z => hn z.2), rfl⟩, xXW_old hW ho⟩) (fun _ h => h) (by omega) (by omega)
  · refine lv_iload_n hx hb dX3_swap_10 rfl (lv_at hl 3 rfl) ?_
    refine lv_aload_n hx hb dX3_swap_11 rfl (lv_at hl 1 rfl) ?_
    refine x_get (v := .int (nI n)) (C := RX3) (T := TX3) (N := 8) hx hb hts (by decide +kernel) hown hK hO rfl 5 (by decide) (hts (.fieldLink RX3 37 "BellRanks" "bells" "I") (by decide +kernel)) (fun _ h9 => h9) rfl dX3_swap_12 ?_
    refine xn_iconst (v := 2) hx hb dX3_swap_15 (by decide) ?_
    refine xn_isub hx hb (by omega) dX3_swap_16 ?_
    refine lv_icmp_le (tgt := 30) hx hb dX3_swap_17 (by decide) (fun c17 => ?_) (fun c17 => ?_)
    · have hle := (inR_leI c7 (N := n - 2) (by omega))
      rw [show n - 2 + 1 = n - 1 by omega] at hle
      have hi2 : inR y (n - 1) := hle.mp c17
      obtain ⟨j2, hj2, hj2b, rfl⟩ := inR_of hi2
      have hl : lv_has ls 4 [(3, .ref (ad (10 + j1))), (0, .ref (ad 0)), (1, .int (nI j1)), (2, .int (nI j2))] := hl
      refine lv_aload_n hx hb dX3_swap_30 rfl (lv_at hl 0 rfl) ?_
      refine lv_iload_n hx hb dX3_swap_31 rfl (lv_at hl 3 rfl) ?_
      refine xmV (As := [.int (nI j2)]) (rest := []) ⟨hx, hb, hml, hown, hts⟩ (cX0_exchange_ l D cI cC (ad (10 + j1)) (ad (26 + j1)) n (pm j1) (xne hj (by omega) (by omega) (by omega)) j2 (by omega)) (cwV 1 hts gX3_swap_X0_exchange rfl rfl rfl (by decide +kernel) ⟨Nat.le_of_ble_eq_true rfl, Nat.le_of_ble_eq_true rfl⟩) hK hC1 (xRecv hK rfl hC1.1) rfl hl.1 rfl (Nat.le_of_ble_eq_true rfl) dX3_swap_32 ⟨(by show 0 + 1 + 0 ≤ 10; omega), (by show 0 + 6 + 0 ≤ 60; omega)⟩ hS (fun q h => ⟨26 + j1, by omega, h⟩) (fun q h => ⟨26 + j1, by omega, h⟩) (fun u32 H1 locs1 hp32 hF32 hz32 hk32 hS => ?_)
      have hO : xXO D ad n ch rg H1 := xat_keep hO hk32 (xne hj (by omega) (by omega) (by omega))
      have hBk : xXB D cC ad H1 := xat_keep hBk hk32 (xne hj (by omega) (by omega) (by omega))
      have hMe : xMe D cI (ad 2) (ad 3) st kf H1 := xMe_keep hMe hk32 (xne hj (by omega) (by omega) (by omega)) (xne hj (by omega) (by omega) (by omega))
      have hRu : xCh D cI (ad 4) (ad 5) zr fr H1 := xCh_keep hRu hk32 (xne hj (by omega) (by omega) (by omega)) (xne hj (by omega) (by omega) (by omega))
      have hMa : xCh D cI (ad 6) (ad 7) zm fm H1 := xCh_keep hMa hk32 (xne hj (by omega) (by omega) (by omega)) (xne hj (by omega) (by omega) (by omega))
      have hRs : xRs D cI (ad 8) (ad 9) zs fs H1 := xRs_keep hRs hk32 (xne hj (by omega) (by omega) (by omega)) (xne hj (by omega) (by omega) (by omega))
      have hC1 : xCh D cI (ad (10 + j1)) (ad (26 + j1)) n (xch (pm j1) j2) H1 := hF32
      have hCs := xXC_set hCs hk32 (fun i h5 h6 h7 h8 => (xne hj (by omega) (by omega) (by omega))) hC1 (show j1 < 16 by omega)
      refine lv_aload_n hx hb dX3_swap_35 rfl (lv_at hl 0 rfl) ?_
      refine xcV (As := []) (rest := []) ⟨hx, hb, hml, hown, hts⟩ (cX0_rank_ l D cI cC (ad (10 + j1)) (ad (26 + j1)) n (xch (pm j1) j2) hn8 (fun i9 => Nat.lt_trans ((xch_bd (hpm8 j1)) i9) (by decide))) (cwV 0 hts gX3_swap_X0_rank rfl rfl rfl (by decide +kernel) ⟨Nat.le_of_ble_eq_true rfl, Nat.le_of_ble_eq_true rfl⟩) hK hC1 (xRecv hK rfl hC1.1) rfl hl.1 rfl (Nat.le_of_ble_eq_true rfl) dX3_swap_36 ⟨(by show 0 + 1 ≤ 10; omega), (by show 0 + 6 ≤ 60; omega)⟩ (fun x36 e36 => ?_)
      subst e36
      have hz : ∀ k, k < ch → va_up zf j1 n k = n := zf_set hz
      have ht : tSwap (n, ch, pm, st, kf, rg) (nI j1) (nI j2) = 0 := if_pos ⟨hi2x, hi2⟩
      refine W.widen (k := 10) (n := 60) (by omega) (by omega) ?_
      refine vx_ret ?_
      have hnw : nSwap (n, ch, pm, st, kf, rg) (nI j1) (nI j2) = upP (n, ch, pm, st, kf, rg) j1 (xch (pm j1) j2) := (if_pos ht).trans (by simp only [xN_nI hj1b, xN_nI hj2b])
      exact x_miret hx hb hr hlocks () ⟨ht, (by show nI _ = rSwap _ _ _; unfold rSwap; simp only [xN_nI hj1b, xN_nI hj2b])⟩ (by show xXW D cI cC ad (nSwap (n, ch, pm, st, kf, rg) (nI j1) (nI j2)) _; rw [hnw]; exact (xXW_mk (S := upP (n, ch, pm, st, kf, rg) j1 (xch (pm j1) j2)) hO hBk hMe hRu hfr hMa hfm hRs hCs hz)) hS (fun _ h => h) dX3_swap_39
    · have hle := (inR_leI c7 (N := n - 2) (by omega))
      rw [show n - 2 + 1 = n - 1 by omega] at hle
      have hn : ¬ inR y (n - 1) := fun z => c17 (hle.mpr z)
      exact x_throw (cls := xEI) (text := "no neighbours at this place") (ik := 61) (is := 78) (ic := 65) hx hb hst9 hts hown htb hlocks hZ hS (hl.1.trans hml.symm) (by decide +kernel) (by decide +kernel) (by decide +kernel) xbad_I (by decide +kernel) xgood_I (by decide) dX3_swap_20 dX3_swap_23 dX3_swap_24 dX3_swap_26 dX3_swap_29 (Nat.le_of_ble_eq_true rfl) (Nat.le_of_ble_eq_true rfl) (by show 0 + 1 + 1 ≤ 10; omega) (by show 0 + 6 + 6 ≤ 60; omega) (fun H1 _ ho => ⟨⟨if_neg (fun z => hn z.2), rfl⟩, xXW_old hW ho⟩) (fun _ h => h) (by omega) (by omega)

set_option maxRecDepth 100000 in
set_option maxHeartbeats 4000000 in
theorem kNext_ (l : Launch) (hst9 : l.stackTraces = false) (D : va_G) (cI cC : ClassId) (ad : Nat → Nat) (hj : xInj ad) (S : AS) (hI : AI S) (x : Int32) : vx_Met l yX3_next wsX3_next (xRm 14 10 60) (va_Pc [.ref (ad 0), .int x] (xBZ D cI cC (xXW D cI cC ad S) (xAD ad))) (xI (fun r (_ : Unit) => tIn S x = 0 ∧ r = rNext S x) (fun _ H => xXW D cI cC ad (nNext S x) H) (xAD ad)) (xX (xAD ad) (fun E H => (tIn S x = 1 ∧ E = xEI) ∧ xXW D cI cC ad S H)) 10 60 (xAD ad) := by
  obtain ⟨n, ch, pm, st, kf, rg⟩ := S
  obtain ⟨⟨hn2, hn8⟩, hch, hst, hpm8, hpm, hkv, hkb⟩ := id hI
  dsimp only at hn2 hn8 hch hst hpm8 hpm hkv hkb
  refine vx_ofW (cc := cX3_next) (maxL := 4) (ret := (some .int)) (by decide) rfl ?_
  intro p e s m args below meth c s₁ B hml htb hv
  obtain ⟨rfl, hP, hK, hZ⟩ := hv
  have hx := B.exec
  have hb := B.bytes
  have hr := B.returns
  have hts := atoms_spec (ws := wsX3_next) B.pre
  have hown : s.vm.findClass RX3 = some m.cls := findClass_of_methodNamed B.named
  have hlocks := B.notSynchronized
  have hW := hP
  have hl := lv_entry ([.ref (ad 0), .int x]) (n := 4) (Nat.le_of_ble_eq_true rfl)
  rw [lg_entry_eq]
  generalize (lg_sl ([.ref (ad 0), .int x]) ++ List.replicate (4 - (lg_sl ([.ref (ad 0), .int x])).length) Slot.unset).toArray = ls at hl ⊢
  have hl : lv_has ls 4 [(0, .ref (ad 0)), (1, .int x)] := hl
  obtain ⟨zr, zm, zs, fr, fm, fs, zf, hO, hBk, hMe, hRu, hfr, hMa, hfm, hRs, hCs, hz⟩ := id hW
  have hO : xXO D ad n ch rg s.heap := hO
  have hMe : xMe D cI (ad 2) (ad 3) st kf s.heap := hMe
  have hCs : xXC D cI ad zf pm s.heap := hCs
  have hz : ∀ k, k < ch → zf k = n := hz
  have hS : va_S (xAD ad) s.heap s.heap [] := va_S.rf
  have hf8 := fac_le n hn8
  refine lv_aload_n hx hb dX3_next_0 rfl (lv_at hl 0 rfl) ?_
  refine lv_iload_n hx hb dX3_next_1 rfl (lv_at hl 1 rfl) ?_
  refine xtR (As := [.int x]) (rest := []) ⟨hx, hb, hml, hown, hts⟩ (cX3_find_ l hst9 D cI cC ad _ n ch rg (by omega) x) (cwV 1 hts gX3_next_X3_find rfl rfl rfl (by decide +kernel) ⟨Nat.le_of_ble_eq_true rfl, Nat.le_of_ble_eq_true rfl⟩) hK ((hZ.kept hS.2.1).narrow (fun q h => h.elim)) ⟨rfl, hO, hBk⟩ (xRecv hK rfl hO) rfl hl.1 rfl (Nat.le_of_ble_eq_true rfl) dX3_next_2 ⟨(by show 0 + 1 ≤ 10; omega), (by show 0 + 6 ≤ 60; omega)⟩ hS (fun q h => h.elim) (fun q h => h.elim) (fun E ce q9 H1 locs1 hB hz9 hk9 hS h1 h2 h3 => ?_) (fun u ra H1 locs1 hp hF hz9 hk2 hS => ?_)
  · obtain ⟨rfl, hn⟩ := hB
    exact x_pass htb hlocks h1 h2 h3 ⟨⟨if_neg hn, rfl⟩, (xXW_old hW (fun x9 hx9 => hk9 x9 hx9 id))⟩ hS (fun _ h => h) (by omega) (by omega)
  obtain ⟨rfl, hra⟩ := hF
  have hi2 := hp
  obtain ⟨j1, hj1, hj1b, rfl⟩ := inR_of hp
  rw [xN_nI hj1b] at hra
  subst hra
  have hl : lv_has ls 4 [(0, .ref (ad 0)), (1, .int (nI j1))] := hl
  have hC1 : xCh D cI (ad (10 + j1)) (ad (26 + j1)) n (pm j1) s.heap := xXC_at hCs (show j1 < 16 by omega) (hz j1 hj1)
  refine lv_astore_n (lv' := [(2, .ref (ad (10 + j1))), (0, .ref (ad 0)), (1, .int (nI j1))]) hx hb dX3_next_5 rfl hl (by decide) rfl (fun ls hl => ?_)
  refine lv_aload_n hx hb dX3_next_6 rfl (lv_at hl 0 rfl) ?_
  refine xcV (As := []) (rest := []) ⟨hx, hb, hml, hown, hts⟩ (cX0_rank_ l D cI cC (ad (10 + j1)) (ad (26 + j1)) n (pm j1) hn8 (fun i9 => Nat.lt_trans ((hpm8 j1) i9) (by decide))) (cwV 0 hts gX3_next_X0_rank rfl rfl rfl (by decide +kernel) ⟨Nat.le_of_ble_eq_true rfl, Nat.le_of_ble_eq_true rfl⟩) hK hC1 (xRecv hK rfl hC1.1) rfl hl.1 rfl (Nat.le_of_ble_eq_true rfl) dX3_next_7 ⟨(by show 0 + 1 ≤ 10; omega), (by show 0 + 6 ≤ 60; omega)⟩ (fun x7 e7 => ?_)
  subst e7
  refine xn_iconst (v := 1) hx hb dX3_next_10 (by decide) ?_
  refine xn_iadd hx hb dX3_next_11 ?_
  refine lv_istore_n (lv' := [(3, .int (nI (hrk (pm j1) n n + 1))), (2, .ref (ad (10 + j1))), (0, .ref (ad 0)), (1, .int (nI j1))]) hx hb dX3_next_12 rfl hl (by decide) rfl (fun ls hl => ?_)
  refine lv_iload_n hx hb dX3_next_13 rfl (lv_at hl 0 rfl) ?_
  refine lv_aload_n hx hb dX3_next_14 rfl (lv_at hl 2 rfl) ?_
  refine x_get (v := .int (nI n)) (C := RX3) (T := TX3) (N := 8) hx hb hts (by decide +kernel) hown hK hO rfl 5 (by decide) (hts (.fieldLink RX3 37 "BellRanks" "bells" "I") (by decide +kernel)) (fun _ h9 => h9) rfl dX3_next_15 ?_
  refine xcS (As := [.int (nI n)]) (rest := [.int (nI (hrk (pm j1) n n + 1))]) ⟨hx, hb, hml, hown, hts⟩ (cX3_changesOf_ l D cI cC n (by omega) (by omega)) (va_cwS 1 hts gX3_next_X3_changesOf rfl rfl rfl (by decide +kernel) ⟨Nat.le_of_ble_eq_true rfl, Nat.le_of_ble_eq_true rfl⟩) hK trivial rfl hl.1 rfl (Nat.le_of_ble_eq_true rfl) dX3_next_18 ⟨(by show 0 + 1 ≤ 10; omega), (by show 0 + 6 ≤ 60; omega)⟩ (fun x18 e18 => ?_)
  subst e18
  refine xn_icmp_lt (tgt := 26) hx hb dX3_next_21 (by decide) (by have := hrk_lt (pm j1) n; omega) (by omega) (fun c21 => ?_) (fun c21 => ?_)
  · have hrl := hrk_lt (pm j1) n
    have hnx : nxr (n, ch, pm, st, kf, rg) j1 = hrk (pm j1) n n + 1 := Nat.mod_eq_of_lt c21
    refine lv_aload_n hx hb dX3_next_26 rfl (lv_at hl 1 rfl) ?_
    refine lv_aload_n hx hb dX3_next_27 rfl (lv_at hl 2 rfl) ?_
    refine x_get (v := .int (nI n)) (C := RX3) (T := TX3) (N := 8) hx hb hts (by decide +kernel) hown hK hO rfl 5 (by decide) (hts (.fieldLink RX3 37 "BellRanks" "bells" "I") (by decide +kernel)) (fun _ h9 => h9) rfl dX3_next_28 ?_
    refine lv_iload_n hx hb dX3_next_31 rfl (lv_at hl 0 rfl) ?_
    refine xmV (As := [.int (nI n), .int (nI (hrk (pm j1) n n + 1))]) (rest := []) ⟨hx, hb, hml, hown, hts⟩ (cX0_setRank_ l D cI cC (ad (10 + j1)) (ad (26 + j1)) n (pm j1) (xne hj (by omega) (by omega) (by omega)) (hpm8 j1) n (hrk (pm j1) n n + 1) hn8 (by have := hrk_lt (pm j1) n; omega)) (cwV 2 hts gX3_next_X0_setRank rfl rfl rfl (by decide +kernel) ⟨Nat.le_of_ble_eq_true rfl, Nat.le_of_ble_eq_true rfl⟩) hK hC1 (xRecv hK rfl hC1.1) rfl hl.1 rfl (Nat.le_of_ble_eq_true rfl) dX3_next_32 ⟨(by show 0 + 1 + 0 ≤ 10; omega), (by show 0 + 6 + 0 ≤ 60; omega)⟩ hS (fun q h => h.elim (fun h => ⟨10 + j1, by omega, h⟩) (fun h => ⟨26 + j1, by omega, h⟩)) (fun q h => h.elim (fun h => ⟨10 + j1, by omega, h⟩) (fun h => ⟨26 + j1, by omega, h⟩)) (fun u32 H1 locs1 hp32 hF32 hz32 hk32 hS => ?_)
    have hO : xXO D ad n ch rg H1 := xat_keep hO hk32 (fun z => z.elim (xne hj (by omega) (by omega) (by omega)) (xne hj (by omega) (by omega) (by omega)))
    have hBk : xXB D cC ad H1 := xat_keep hBk hk32 (fun z => z.elim (xne hj (by omega) (by omega) (by omega)) (xne hj (by omega) (by omega) (by omega)))
    have hMe : xMe D cI (ad 2) (ad 3) st kf H1 := xMe_keep hMe hk32 (fun z => z.elim (xne hj (by omega) (by omega) (by omega)) (xne hj (by omega) (by omega) (by omega))) (fun z => z.elim (xne hj (by omega) (by omega) (by omega)) (xne hj (by omega) (by omega) (by omega)))
    have hRu : xCh D cI (ad 4) (ad 5) zr fr H1 := xCh_keep hRu hk32 (fun z => z.elim (xne hj (by omega) (by omega) (by omega)) (xne hj (by omega) (by omega) (by omega))) (fun z => z.elim (xne hj (by omega) (by omega) (by omega)) (xne hj (by omega) (by omega) (by omega)))
    have hMa : xCh D cI (ad 6) (ad 7) zm fm H1 := xCh_keep hMa hk32 (fun z => z.elim (xne hj (by omega) (by omega) (by omega)) (xne hj (by omega) (by omega) (by omega))) (fun z => z.elim (xne hj (by omega) (by omega) (by omega)) (xne hj (by omega) (by omega) (by omega)))
    have hRs : xRs D cI (ad 8) (ad 9) zs fs H1 := xRs_keep hRs hk32 (fun z => z.elim (xne hj (by omega) (by omega) (by omega)) (xne hj (by omega) (by omega) (by omega))) (fun z => z.elim (xne hj (by omega) (by omega) (by omega)) (xne hj (by omega) (by omega) (by omega)))
    have hC1 : xCh D cI (ad (10 + j1)) (ad (26 + j1)) n (srG (pm j1) n (hrk (pm j1) n n + 1) n) H1 := hF32
    have hCs := xXC_set hCs hk32 (fun i h5 h6 h7 h8 => (fun z => z.elim (xne hj (by omega) (by omega) (by omega)) (xne hj (by omega) (by omega) (by omega)))) hC1 (show j1 < 16 by omega)
    refine lv_iload_n hx hb dX3_next_35 rfl (lv_at hl 0 rfl) ?_
    have hz : ∀ k, k < ch → va_up zf j1 n k = n := zf_set hz
    have ht : tIn (n, ch, pm, st, kf, rg) (nI j1) = 0 := if_pos hi2
    refine W.widen (k := 10) (n := 60) (by omega) (by omega) ?_
    refine vx_ret ?_
    have hnw : nNext (n, ch, pm, st, kf, rg) (nI j1) = upP (n, ch, pm, st, kf, rg) j1 (srG (pm j1) n (hrk (pm j1) n n + 1) n) := (if_pos ht).trans (by simp only [xN_nI hj1b]; rw [hnx])
    exact x_miret hx hb hr hlocks () ⟨ht, (by show nI _ = rNext _ _; unfold rNext; simp only [xN_nI hj1b]; rw [hnx])⟩ (by show xXW D cI cC ad (nNext (n, ch, pm, st, kf, rg) (nI j1)) _; rw [hnw]; exact (xXW_mk (S := upP (n, ch, pm, st, kf, rg) j1 (srG (pm j1) n (hrk (pm j1) n n + 1) n)) hO hBk hMe hRu hfr hMa hfm hRs hCs hz)) hS (fun _ h => h) dX3_next_36
  · have hrl := hrk_lt (pm j1) n
    have hnx : nxr (n, ch, pm, st, kf, rg) j1 = 0 := by
      show (hrk (pm j1) n n + 1) % fac n = 0
      rw [show hrk (pm j1) n n + 1 = fac n by omega, Nat.mod_self]
    refine xn_iconst (v := 0) hx hb dX3_next_24 (by decide) ?_
    refine lv_istore_n (lv' := [(3, .int (nI 0)), (2, .ref (ad (10 + j1))), (0, .ref (ad 0)), (1, .int (nI j1))]) hx hb dX3_next_25 rfl hl (by decide) rfl (fun ls hl => ?_)
    refine lv_aload_n hx hb dX3_next_26 rfl (lv_at hl 1 rfl) ?_
    refine lv_aload_n hx hb dX3_next_27 rfl (lv_at hl 2 rfl) ?_
    refine x_get (v := .int (nI n)) (C := RX3) (T := TX3) (N := 8) hx hb hts (by decide +kernel) hown hK hO rfl 5 (by decide) (hts (.fieldLink RX3 37 "BellRanks" "bells" "I") (by decide +kernel)) (fun _ h9 => h9) rfl dX3_next_28 ?_
    refine lv_iload_n hx hb dX3_next_31 rfl (lv_at hl 0 rfl) ?_
    refine xmV (As := [.int (nI n), .int (nI 0)]) (rest := []) ⟨hx, hb, hml, hown, hts⟩ (cX0_setRank_ l D cI cC (ad (10 + j1)) (ad (26 + j1)) n (pm j1) (xne hj (by omega) (by omega) (by omega)) (hpm8 j1) n 0 hn8 (by decide)) (cwV 2 hts gX3_next_X0_setRank rfl rfl rfl (by decide +kernel) ⟨Nat.le_of_ble_eq_true rfl, Nat.le_of_ble_eq_true rfl⟩) hK hC1 (xRecv hK rfl hC1.1) rfl hl.1 rfl (Nat.le_of_ble_eq_true rfl) dX3_next_32 ⟨(by show 0 + 1 + 0 ≤ 10; omega), (by show 0 + 6 + 0 ≤ 60; omega)⟩ hS (fun q h => h.elim (fun h => ⟨10 + j1, by omega, h⟩) (fun h => ⟨26 + j1, by omega, h⟩)) (fun q h => h.elim (fun h => ⟨10 + j1, by omega, h⟩) (fun h => ⟨26 + j1, by omega, h⟩)) (fun u32 H1 locs1 hp32 hF32 hz32 hk32 hS => ?_)
    have hO : xXO D ad n ch rg H1 := xat_keep hO hk32 (fun z => z.elim (xne hj (by omega) (by omega) (by omega)) (xne hj (by omega) (by omega) (by omega)))
    have hBk : xXB D cC ad H1 := xat_keep hBk hk32 (fun z => z.elim (xne hj (by omega) (by omega) (by omega)) (xne hj (by omega) (by omega) (by omega)))
    have hMe : xMe D cI (ad 2) (ad 3) st kf H1 := xMe_keep hMe hk32 (fun z => z.elim (xne hj (by omega) (by omega) (by omega)) (xne hj (by omega) (by omega) (by omega))) (fun z => z.elim (xne hj (by omega) (by omega) (by omega)) (xne hj (by omega) (by omega) (by omega)))
    have hRu : xCh D cI (ad 4) (ad 5) zr fr H1 := xCh_keep hRu hk32 (fun z => z.elim (xne hj (by omega) (by omega) (by omega)) (xne hj (by omega) (by omega) (by omega))) (fun z => z.elim (xne hj (by omega) (by omega) (by omega)) (xne hj (by omega) (by omega) (by omega)))
    have hMa : xCh D cI (ad 6) (ad 7) zm fm H1 := xCh_keep hMa hk32 (fun z => z.elim (xne hj (by omega) (by omega) (by omega)) (xne hj (by omega) (by omega) (by omega))) (fun z => z.elim (xne hj (by omega) (by omega) (by omega)) (xne hj (by omega) (by omega) (by omega)))
    have hRs : xRs D cI (ad 8) (ad 9) zs fs H1 := xRs_keep hRs hk32 (fun z => z.elim (xne hj (by omega) (by omega) (by omega)) (xne hj (by omega) (by omega) (by omega))) (fun z => z.elim (xne hj (by omega) (by omega) (by omega)) (xne hj (by omega) (by omega) (by omega)))
    have hC1 : xCh D cI (ad (10 + j1)) (ad (26 + j1)) n (srG (pm j1) n 0 n) H1 := hF32
    have hCs := xXC_set hCs hk32 (fun i h5 h6 h7 h8 => (fun z => z.elim (xne hj (by omega) (by omega) (by omega)) (xne hj (by omega) (by omega) (by omega)))) hC1 (show j1 < 16 by omega)
    refine lv_iload_n hx hb dX3_next_35 rfl (lv_at hl 0 rfl) ?_
    have hz : ∀ k, k < ch → va_up zf j1 n k = n := zf_set hz
    have ht : tIn (n, ch, pm, st, kf, rg) (nI j1) = 0 := if_pos hi2
    refine W.widen (k := 10) (n := 60) (by omega) (by omega) ?_
    refine vx_ret ?_
    have hnw : nNext (n, ch, pm, st, kf, rg) (nI j1) = upP (n, ch, pm, st, kf, rg) j1 (srG (pm j1) n 0 n) := (if_pos ht).trans (by simp only [xN_nI hj1b]; rw [hnx])
    exact x_miret hx hb hr hlocks () ⟨ht, (by show nI _ = rNext _ _; unfold rNext; simp only [xN_nI hj1b]; rw [hnx])⟩ (by show xXW D cI cC ad (nNext (n, ch, pm, st, kf, rg) (nI j1)) _; rw [hnw]; exact (xXW_mk (S := upP (n, ch, pm, st, kf, rg) j1 (srG (pm j1) n 0 n)) hO hBk hMe hRu hfr hMa hfm hRs hCs hz)) hS (fun _ h => h) dX3_next_36

set_option maxRecDepth 100000 in
set_option maxHeartbeats 4000000 in
theorem kBehind_ (l : Launch) (hst9 : l.stackTraces = false) (D : va_G) (cI cC : ClassId) (ad : Nat → Nat) (hj : xInj ad) (S : AS) (hI : AI S) (x : Int32) (y : Int32) : vx_Met l yX3_behind wsX3_behind (xRm 14 10 60) (va_Pc [.ref (ad 0), .int x, .int y] (xBZ D cI cC (xXW D cI cC ad S) (xAD ad))) (xI (fun r (_ : Unit) => tBehind S x y = 0 ∧ r = rBehind S x y) (fun _ H => xXW D cI cC ad (nBehind S x y) H) (xAD ad)) (xX (xAD ad) (fun E H => ((tBehind S x y = 1 ∧ E = xEI) ∨ (tBehind S x y = 2 ∧ E = xES)) ∧ xXW D cI cC ad S H)) 10 60 (xAD ad) := by
  obtain ⟨n, ch, pm, st, kf, rg⟩ := S
  obtain ⟨⟨hn2, hn8⟩, hch, hst, hpm8, hpm, hkv, hkb⟩ := id hI
  dsimp only at hn2 hn8 hch hst hpm8 hpm hkv hkb
  refine vx_ofW (cc := cX3_behind) (maxL := 6) (ret := (some .int)) (by decide) rfl ?_
  intro p e s m args below meth c s₁ B hml htb hv
  obtain ⟨rfl, hP, hK, hZ⟩ := hv
  have hx := B.exec
  have hb := B.bytes
  have hr := B.returns
  have hts := atoms_spec (ws := wsX3_behind) B.pre
  have hown : s.vm.findClass RX3 = some m.cls := findClass_of_methodNamed B.named
  have hlocks := B.notSynchronized
  have hW := hP
  have hl := lv_entry ([.ref (ad 0), .int x, .int y]) (n := 6) (Nat.le_of_ble_eq_true rfl)
  rw [lg_entry_eq]
  generalize (lg_sl ([.ref (ad 0), .int x, .int y]) ++ List.replicate (6 - (lg_sl ([.ref (ad 0), .int x, .int y])).length) Slot.unset).toArray = ls at hl ⊢
  have hl : lv_has ls 6 [(0, .ref (ad 0)), (1, .int x), (2, .int y)] := hl
  obtain ⟨zr, zm, zs, fr, fm, fs, zf, hO, hBk, hMe, hRu, hfr, hMa, hfm, hRs, hCs, hz⟩ := id hW
  have hO : xXO D ad n ch rg s.heap := hO
  have hMe : xMe D cI (ad 2) (ad 3) st kf s.heap := hMe
  have hCs : xXC D cI ad zf pm s.heap := hCs
  have hz : ∀ k, k < ch → zf k = n := hz
  have hS : va_S (xAD ad) s.heap s.heap [] := va_S.rf
  refine lv_aload_n hx hb dX3_behind_0 rfl (lv_at hl 0 rfl) ?_
  refine lv_iload_n hx hb dX3_behind_1 rfl (lv_at hl 1 rfl) ?_
  refine xtR (As := [.int x]) (rest := []) ⟨hx, hb, hml, hown, hts⟩ (cX3_find_ l hst9 D cI cC ad _ n ch rg (by omega) x) (cwV 1 hts gX3_behind_X3_find rfl rfl rfl (by decide +kernel) ⟨Nat.le_of_ble_eq_true rfl, Nat.le_of_ble_eq_true rfl⟩) hK ((hZ.kept hS.2.1).narrow (fun q h => h.elim)) ⟨rfl, hO, hBk⟩ (xRecv hK rfl hO) rfl hl.1 rfl (Nat.le_of_ble_eq_true rfl) dX3_behind_2 ⟨(by show 0 + 1 ≤ 10; omega), (by show 0 + 6 ≤ 60; omega)⟩ hS (fun q h => h.elim) (fun q h => h.elim) (fun E ce q9 H1 locs1 hB hz9 hk9 hS h1 h2 h3 => ?_) (fun u ra H1 locs1 hp hF hz9 hk2 hS => ?_)
  · obtain ⟨rfl, hn⟩ := hB
    exact x_pass htb hlocks h1 h2 h3 ⟨Or.inl ⟨(show (if inR x ch ∧ inR y ch then (if ch = 16 then 2 else 0) else 1) = 1 by rw [if_neg (fun z => hn z.1)]), rfl⟩, (xXW_old hW (fun x9 hx9 => hk9 x9 hx9 id))⟩ hS (fun _ h => h) (by omega) (by omega)
  obtain ⟨rfl, hra⟩ := hF
  have hi2 := hp
  obtain ⟨j1, hj1, hj1b, rfl⟩ := inR_of hp
  rw [xN_nI hj1b] at hra
  subst hra
  have hl : lv_has ls 6 [(0, .ref (ad 0)), (1, .int (nI j1)), (2, .int y)] := hl
  have hC1 : xCh D cI (ad (10 + j1)) (ad (26 + j1)) n (pm j1) s.heap := xXC_at hCs (show j1 < 16 by omega) (hz j1 hj1)
  refine lv_astore_n (lv' := [(3, .ref (ad (10 + j1))), (0, .ref (ad 0)), (1, .int (nI j1)), (2, .int y)]) hx hb dX3_behind_5 rfl hl (by decide) rfl (fun ls hl => ?_)
  refine lv_aload_n hx hb dX3_behind_6 rfl (lv_at hl 1 rfl) ?_
  refine lv_iload_n hx hb dX3_behind_7 rfl (lv_at hl 3 rfl) ?_
  refine xtR (As := [.int y]) (rest := []) ⟨hx, hb, hml, hown, hts⟩ (cX3_find_ l hst9 D cI cC ad _ n ch rg (by omega) y) (cwV 1 hts gX3_behind_X3_find rfl rfl rfl (by decide +kernel) ⟨Nat.le_of_ble_eq_true rfl, Nat.le_of_ble_eq_true rfl⟩) hK ((hZ.kept hS.2.1).narrow (fun q h => h.elim)) ⟨rfl, hO, hBk⟩ (xRecv hK rfl hO) rfl hl.1 rfl (Nat.le_of_ble_eq_true rfl) dX3_behind_8 ⟨(by show 0 + 1 + 1 ≤ 10; omega), (by show 0 + 6 + 6 ≤ 60; omega)⟩ hS (fun q h => h.elim) (fun q h => h.elim) (fun E ce q9 H1 locs1 hB hz9 hk9 hS h1 h2 h3 => ?_) (fun u ra H1 locs1 hp hF hz9 hk8 hS => ?_)
  · obtain ⟨rfl, hn⟩ := hB
    exact x_pass htb hlocks h1 h2 h3 ⟨Or.inl ⟨(show (if inR (nI j1) ch ∧ inR y ch then (if ch = 16 then 2 else 0) else 1) = 1 by rw [if_neg (fun z => hn z.2)]), rfl⟩, (xXW_old hW (fun x9 hx9 => hk9 x9 hx9 id))⟩ hS (fun _ h => h) (by omega) (by omega)
  obtain ⟨rfl, hra⟩ := hF
  have hi8 := hp
  obtain ⟨j2, hj2, hj2b, rfl⟩ := inR_of hp
  rw [xN_nI hj2b] at hra
  subst hra
  have hl : lv_has ls 6 [(3, .ref (ad (10 + j1))), (0, .ref (ad 0)), (1, .int (nI j1)), (2, .int (nI j2))] := hl
  have hC2 : xCh D cI (ad (10 + j2)) (ad (26 + j2)) n (pm j2) s.heap := xXC_at hCs (show j2 < 16 by omega) (hz j2 hj2)
  refine lv_astore (lv' := [(4, .ref (ad (10 + j2))), (3, .ref (ad (10 + j1))), (0, .ref (ad 0)), (1, .int (nI j1)), (2, .int (nI j2))]) hx hb dX3_behind_11 hl (by decide) rfl (fun ls hl => ?_)
  refine lv_aload_n hx hb dX3_behind_13 rfl (lv_at hl 2 rfl) ?_
  refine xtR (As := []) (rest := []) ⟨hx, hb, hml, hown, hts⟩ (cX3_openPage_ l hst9 D cI cC ad n ch rg (by omega)) (cwV 0 hts gX3_behind_X3_openPage rfl rfl rfl (by decide +kernel) ⟨Nat.le_of_ble_eq_true rfl, Nat.le_of_ble_eq_true rfl⟩) hK ((hZ.kept hS.2.1).narrow (fun q h => ⟨0, by omega, h⟩)) ⟨hO, hBk⟩ (xRecv hK rfl hO) rfl hl.1 rfl (Nat.le_of_ble_eq_true rfl) dX3_behind_14 ⟨(by show 0 + 1 + 1 + 1 ≤ 10; omega), (by show 0 + 6 + 6 + 6 ≤ 60; omega)⟩ hS (fun q h => ⟨0, by omega, h⟩) (fun q h => ⟨0, by omega, h⟩) (fun E ce q9 H1 locs1 hB hz9 hk9 hS h1 h2 h3 => ?_) (fun u ra H1 locs1 hp hF hz9 hk14 hS => ?_)
  · obtain ⟨rfl, hn, hO9⟩ := hB
    have hW9 : xXW D cI cC ad (n, ch, pm, st, kf, rg) H1 := xXW_mk (S := (n, ch, pm, st, kf, rg)) hO9 (xat_keep hBk hk9 (xne hj (by omega) (by omega) (by omega))) (xMe_keep hMe hk9 (xne hj (by omega) (by omega) (by omega)) (xne hj (by omega) (by omega) (by omega))) (xCh_keep hRu hk9 (xne hj (by omega) (by omega) (by omega)) (xne hj (by omega) (by omega) (by omega))) hfr (xCh_keep hMa hk9 (xne hj (by omega) (by omega) (by omega)) (xne hj (by omega) (by omega) (by omega))) hfm (xRs_keep hRs hk9 (xne hj (by omega) (by omega) (by omega)) (xne hj (by omega) (by omega) (by omega))) (xXC_keep hCs hk9 (fun i hi1 hi2 => (xne hj (by omega) (by omega) (by omega)))) hz
    exact x_pass htb hlocks h1 h2 h3 ⟨Or.inr ⟨(show (if inR (nI j1) ch ∧ inR (nI j2) ch then (if ch = 16 then 2 else 0) else 1) = 2 by rw [if_pos ⟨hi2, hi8⟩, if_pos (show ch = 16 by omega)]), rfl⟩, hW9⟩ hS (fun _ h => h) (by omega) (by omega)
  obtain ⟨rfl, hO⟩ := hF
  have hBk : xXB D cC ad H1 := xat_keep hBk hk14 (xne hj (by omega) (by omega) (by omega))
  have hMe : xMe D cI (ad 2) (ad 3) st kf H1 := xMe_keep hMe hk14 (xne hj (by omega) (by omega) (by omega)) (xne hj (by omega) (by omega) (by omega))
  have hRu : xCh D cI (ad 4) (ad 5) zr fr H1 := xCh_keep hRu hk14 (xne hj (by omega) (by omega) (by omega)) (xne hj (by omega) (by omega) (by omega))
  have hMa : xCh D cI (ad 6) (ad 7) zm fm H1 := xCh_keep hMa hk14 (xne hj (by omega) (by omega) (by omega)) (xne hj (by omega) (by omega) (by omega))
  have hRs : xRs D cI (ad 8) (ad 9) zs fs H1 := xRs_keep hRs hk14 (xne hj (by omega) (by omega) (by omega)) (xne hj (by omega) (by omega) (by omega))
  have hC1 : xCh D cI (ad (10 + j1)) (ad (26 + j1)) n (pm j1) H1 := xCh_keep hC1 hk14 (xne hj (by omega) (by omega) (by omega)) (xne hj (by omega) (by omega) (by omega))
  have hC2 : xCh D cI (ad (10 + j2)) (ad (26 + j2)) n (pm j2) H1 := xCh_keep hC2 hk14 (xne hj (by omega) (by omega) (by omega)) (xne hj (by omega) (by omega) (by omega))
  have hCs : xXC D cI ad zf pm H1 := xXC_keep hCs hk14 (fun i hi1 hi2 => (xne hj (by omega) (by omega) (by omega)))
  have hCp : xCh D cI (ad (10 + ch)) (ad (26 + ch)) (zf ch) (pm ch) H1 := hCs ch (show ch < 16 from hp)
  refine lv_astore (lv' := [(5, .ref (ad (10 + ch))), (4, .ref (ad (10 + j2))), (3, .ref (ad (10 + j1))), (0, .ref (ad 0)), (1, .int (nI j1)), (2, .int (nI j2))]) hx hb dX3_behind_17 hl (by decide) rfl (fun ls hl => ?_)
  refine lv_aload hx hb dX3_behind_19 (lv_at hl 0 rfl) ?_
  refine lv_aload_n hx hb dX3_behind_21 rfl (lv_at hl 2 rfl) ?_
  refine lv_aload hx hb dX3_behind_22 (lv_at hl 1 rfl) ?_
  refine xmV (As := [.ref (ad (10 + j1)), .ref (ad (10 + j2))]) (rest := []) ⟨hx, hb, hml, hown, hts⟩ (cX0_setBehind_ l D cI cC (ad (10 + ch)) (ad (26 + ch)) (zf ch) (pm ch) (ad (10 + j2)) (ad (26 + j2)) n (pm j2) (ad (10 + j1)) (ad (26 + j1)) n (pm j1) (xne hj (by omega) (by omega) (by omega)) (xne hj (by omega) (by omega) (by omega)) (xne hj (by omega) (by omega) (by omega)) (xne hj (by omega) (by omega) (by omega)) (xne hj (by omega) (by omega) (by omega)) (xne hj (by omega) (by omega) (by omega)) (xne hj (by omega) (by omega) (by omega)) (xne hj (by omega) (by omega) (by omega)) (xne hj (by omega) (by omega) (by omega)) hn8 (hpm8 j2)) (cwV 2 hts gX3_behind_X0_setBehind rfl rfl rfl (by decide +kernel) ⟨Nat.le_of_ble_eq_true rfl, Nat.le_of_ble_eq_true rfl⟩) hK ⟨hCp, hC1, hC2⟩ (xRecv hK rfl hCp.1) rfl hl.1 rfl (Nat.le_of_ble_eq_true rfl) dX3_behind_24 ⟨(by show 0 + 1 + 1 + 1 + 0 ≤ 10; omega), (by show 0 + 6 + 6 + 6 + 0 ≤ 60; omega)⟩ hS (fun q h => h.elim (fun h => ⟨10 + ch, by omega, h⟩) (fun h => ⟨26 + ch, by omega, h⟩)) (fun q h => h.elim (fun h => ⟨10 + ch, by omega, h⟩) (fun h => ⟨26 + ch, by omega, h⟩)) (fun u24 H1 locs1 hp24 hF24 hz24 hk24 hS => ?_)
  have hO : xXO D ad n (ch + 1) rg H1 := xat_keep hO hk24 (fun z => z.elim (xne hj (by omega) (by omega) (by omega)) (xne hj (by omega) (by omega) (by omega)))
  have hBk : xXB D cC ad H1 := xat_keep hBk hk24 (fun z => z.elim (xne hj (by omega) (by omega) (by omega)) (xne hj (by omega) (by omega) (by omega)))
  have hMe : xMe D cI (ad 2) (ad 3) st kf H1 := xMe_keep hMe hk24 (fun z => z.elim (xne hj (by omega) (by omega) (by omega)) (xne hj (by omega) (by omega) (by omega))) (fun z => z.elim (xne hj (by omega) (by omega) (by omega)) (xne hj (by omega) (by omega) (by omega)))
  have hRu : xCh D cI (ad 4) (ad 5) zr fr H1 := xCh_keep hRu hk24 (fun z => z.elim (xne hj (by omega) (by omega) (by omega)) (xne hj (by omega) (by omega) (by omega))) (fun z => z.elim (xne hj (by omega) (by omega) (by omega)) (xne hj (by omega) (by omega) (by omega)))
  have hMa : xCh D cI (ad 6) (ad 7) zm fm H1 := xCh_keep hMa hk24 (fun z => z.elim (xne hj (by omega) (by omega) (by omega)) (xne hj (by omega) (by omega) (by omega))) (fun z => z.elim (xne hj (by omega) (by omega) (by omega)) (xne hj (by omega) (by omega) (by omega)))
  have hRs : xRs D cI (ad 8) (ad 9) zs fs H1 := xRs_keep hRs hk24 (fun z => z.elim (xne hj (by omega) (by omega) (by omega)) (xne hj (by omega) (by omega) (by omega))) (fun z => z.elim (xne hj (by omega) (by omega) (by omega)) (xne hj (by omega) (by omega) (by omega)))
  have hC1 : xCh D cI (ad (10 + j1)) (ad (26 + j1)) n (pm j1) H1 := xCh_keep hC1 hk24 (fun z => z.elim (xne hj (by omega) (by omega) (by omega)) (xne hj (by omega) (by omega) (by omega))) (fun z => z.elim (xne hj (by omega) (by omega) (by omega)) (xne hj (by omega) (by omega) (by omega)))
  have hC2 : xCh D cI (ad (10 + j2)) (ad (26 + j2)) n (pm j2) H1 := xCh_keep hC2 hk24 (fun z => z.elim (xne hj (by omega) (by omega) (by omega)) (xne hj (by omega) (by omega) (by omega))) (fun z => z.elim (xne hj (by omega) (by omega) (by omega)) (xne hj (by omega) (by omega) (by omega)))
  have hCp : xCh D cI (ad (10 + ch)) (ad (26 + ch)) n (cpy (pm ch) (fun q9 => (pm j1) ((pm j2) q9)) n) H1 := hF24
  have hCs := xXC_set hCs hk24 (fun i h5 h6 h7 h8 => (fun z => z.elim (xne hj (by omega) (by omega) (by omega)) (xne hj (by omega) (by omega) (by omega)))) hCp (show ch < 16 by omega)
  refine lv_aload_n hx hb dX3_behind_27 rfl (lv_at hl 3 rfl) ?_
  refine x_get (v := .int (nI (ch + 1))) (C := RX3) (T := TX3) (N := 8) hx hb hts (by decide +kernel) hown hK hO rfl 6 (by decide) (hts (.fieldLink RX3 41 "BellRanks" "written" "I") (by decide +kernel)) (fun _ h9 => h9) rfl dX3_behind_28 ?_
  refine xn_iconst (v := 1) hx hb dX3_behind_31 (by decide) ?_
  refine xn_isub hx hb (by omega) dX3_behind_32 ?_
  have hz : ∀ k, k < ch + 1 → va_up zf ch n k = n := zf_add hz
  have ht : tBehind (n, ch, pm, st, kf, rg) (nI j1) (nI j2) = 0 := (show (if inR (nI j1) ch ∧ inR (nI j2) ch then (if ch = 16 then 2 else 0) else 1) = 0 by rw [if_pos ⟨hi2, hi8⟩, if_neg (show ¬ ch = 16 by omega)])
  refine W.widen (k := 10) (n := 60) (by omega) (by omega) ?_
  refine vx_ret ?_
  have hnw : nBehind (n, ch, pm, st, kf, rg) (nI j1) (nI j2) = adP (n, ch, pm, st, kf, rg) (cpy (pm ch) (fun q9 => (pm j1) ((pm j2) q9)) n) := (if_pos ht).trans (by simp only [xN_nI hj1b, xN_nI hj2b]; rfl)
  exact x_miret hx hb hr hlocks () ⟨ht, (by rw [Nat.add_sub_cancel]; rfl)⟩ (by show xXW D cI cC ad (nBehind (n, ch, pm, st, kf, rg) (nI j1) (nI j2)) _; rw [hnw]; exact (xXW_mk (S := adP (n, ch, pm, st, kf, rg) (cpy (pm ch) (fun q9 => (pm j1) ((pm j2) q9)) n)) hO hBk hMe hRu hfr hMa hfm hRs hCs hz)) hS (fun _ h => h) dX3_behind_33

set_option maxRecDepth 100000 in
set_option maxHeartbeats 4000000 in
theorem kBack_ (l : Launch) (hst9 : l.stackTraces = false) (D : va_G) (cI cC : ClassId) (ad : Nat → Nat) (hj : xInj ad) (S : AS) (hI : AI S) (x : Int32) : vx_Met l yX3_back wsX3_back (xRm 14 10 60) (va_Pc [.ref (ad 0), .int x] (xBZ D cI cC (xXW D cI cC ad S) (xAD ad))) (xI (fun r (_ : Unit) => tIn S x = 0 ∧ r = rBack S x) (fun _ H => xXW D cI cC ad (nBack S x) H) (xAD ad)) (xX (xAD ad) (fun E H => (tIn S x = 1 ∧ E = xEI) ∧ xXW D cI cC ad S H)) 10 60 (xAD ad) := by
  obtain ⟨n, ch, pm, st, kf, rg⟩ := S
  obtain ⟨⟨hn2, hn8⟩, hch, hst, hpm8, hpm, hkv, hkb⟩ := id hI
  dsimp only at hn2 hn8 hch hst hpm8 hpm hkv hkb
  refine vx_ofW (cc := cX3_back) (maxL := 3) (ret := (some .int)) (by decide) rfl ?_
  intro p e s m args below meth c s₁ B hml htb hv
  obtain ⟨rfl, hP, hK, hZ⟩ := hv
  have hx := B.exec
  have hb := B.bytes
  have hr := B.returns
  have hts := atoms_spec (ws := wsX3_back) B.pre
  have hown : s.vm.findClass RX3 = some m.cls := findClass_of_methodNamed B.named
  have hlocks := B.notSynchronized
  have hW := hP
  have hl := lv_entry ([.ref (ad 0), .int x]) (n := 3) (Nat.le_of_ble_eq_true rfl)
  rw [lg_entry_eq]
  generalize (lg_sl ([.ref (ad 0), .int x]) ++ List.replicate (3 - (lg_sl ([.ref (ad 0), .int x])).length) Slot.unset).toArray = ls at hl ⊢
  have hl : lv_has ls 3 [(0, .ref (ad 0)), (1, .int x)] := hl
  obtain ⟨zr, zm, zs, fr, fm, fs, zf, hO, hBk, hMe, hRu, hfr, hMa, hfm, hRs, hCs, hz⟩ := id hW
  have hO : xXO D ad n ch rg s.heap := hO
  have hMe : xMe D cI (ad 2) (ad 3) st kf s.heap := hMe
  have hCs : xXC D cI ad zf pm s.heap := hCs
  have hz : ∀ k, k < ch → zf k = n := hz
  have hS : va_S (xAD ad) s.heap s.heap [] := va_S.rf
  refine lv_aload_n hx hb dX3_back_0 rfl (lv_at hl 0 rfl) ?_
  refine lv_iload_n hx hb dX3_back_1 rfl (lv_at hl 1 rfl) ?_
  refine xtR (As := [.int x]) (rest := []) ⟨hx, hb, hml, hown, hts⟩ (cX3_find_ l hst9 D cI cC ad _ n ch rg (by omega) x) (cwV 1 hts gX3_back_X3_find rfl rfl rfl (by decide +kernel) ⟨Nat.le_of_ble_eq_true rfl, Nat.le_of_ble_eq_true rfl⟩) hK ((hZ.kept hS.2.1).narrow (fun q h => h.elim)) ⟨rfl, hO, hBk⟩ (xRecv hK rfl hO) rfl hl.1 rfl (Nat.le_of_ble_eq_true rfl) dX3_back_2 ⟨(by show 0 + 1 ≤ 10; omega), (by show 0 + 6 ≤ 60; omega)⟩ hS (fun q h => h.elim) (fun q h => h.elim) (fun E ce q9 H1 locs1 hB hz9 hk9 hS h1 h2 h3 => ?_) (fun u ra H1 locs1 hp hF hz9 hk2 hS => ?_)
  · obtain ⟨rfl, hn⟩ := hB
    exact x_pass htb hlocks h1 h2 h3 ⟨⟨if_neg hn, rfl⟩, (xXW_old hW (fun x9 hx9 => hk9 x9 hx9 id))⟩ hS (fun _ h => h) (by omega) (by omega)
  obtain ⟨rfl, hra⟩ := hF
  have hi2 := hp
  obtain ⟨j1, hj1, hj1b, rfl⟩ := inR_of hp
  rw [xN_nI hj1b] at hra
  subst hra
  have hl : lv_has ls 3 [(0, .ref (ad 0)), (1, .int (nI j1))] := hl
  have hC1 : xCh D cI (ad (10 + j1)) (ad (26 + j1)) n (pm j1) s.heap := xXC_at hCs (show j1 < 16 by omega) (hz j1 hj1)
  refine lv_astore_n (lv' := [(2, .ref (ad (10 + j1))), (0, .ref (ad 0)), (1, .int (nI j1))]) hx hb dX3_back_5 rfl hl (by decide) rfl (fun ls hl => ?_)
  refine lv_aload_n hx hb dX3_back_6 rfl (lv_at hl 1 rfl) ?_
  refine x_get (v := .ref (ad 6)) (C := RX3) (T := TX3) (N := 8) hx hb hts (by decide +kernel) hown hK hO rfl 3 (by decide) (hts (.fieldLink RX3 27 "BellRanks" "made" "LBellRanks$Change;") (by decide +kernel)) (fun _ h9 => h9) rfl dX3_back_7 ?_
  refine lv_aload_n hx hb dX3_back_10 rfl (lv_at hl 0 rfl) ?_
  refine xmV (As := [.ref (ad (10 + j1))]) (rest := []) ⟨hx, hb, hml, hown, hts⟩ (cX0_setBack_ l D cI cC (ad 6) (ad 7) zm fm (ad (10 + j1)) (ad (26 + j1)) n (pm j1) (xne hj (by omega) (by omega) (by omega)) (xne hj (by omega) (by omega) (by omega)) (xne hj (by omega) (by omega) (by omega)) (xne hj (by omega) (by omega) (by omega)) (xne hj (by omega) (by omega) (by omega)) hn8 (hpm8 j1)) (cwV 1 hts gX3_back_X0_setBack rfl rfl rfl (by decide +kernel) ⟨Nat.le_of_ble_eq_true rfl, Nat.le_of_ble_eq_true rfl⟩) hK ⟨hMa, hC1⟩ (xRecv hK rfl hMa.1) rfl hl.1 rfl (Nat.le_of_ble_eq_true rfl) dX3_back_11 ⟨(by show 0 + 1 + 0 ≤ 10; omega), (by show 0 + 6 + 0 ≤ 60; omega)⟩ hS (fun q h => h.elim (fun h => ⟨6, by omega, h⟩) (fun h => ⟨7, by omega, h⟩)) (fun q h => h.elim (fun h => ⟨6, by omega, h⟩) (fun h => ⟨7, by omega, h⟩)) (fun u11 H1 locs1 hp11 hF11 hz11 hk11 hS => ?_)
  have hO : xXO D ad n ch rg H1 := xat_keep hO hk11 (fun z => z.elim (xne hj (by omega) (by omega) (by omega)) (xne hj (by omega) (by omega) (by omega)))
  have hBk : xXB D cC ad H1 := xat_keep hBk hk11 (fun z => z.elim (xne hj (by omega) (by omega) (by omega)) (xne hj (by omega) (by omega) (by omega)))
  have hMe : xMe D cI (ad 2) (ad 3) st kf H1 := xMe_keep hMe hk11 (fun z => z.elim (xne hj (by omega) (by omega) (by omega)) (xne hj (by omega) (by omega) (by omega))) (fun z => z.elim (xne hj (by omega) (by omega) (by omega)) (xne hj (by omega) (by omega) (by omega)))
  have hRu : xCh D cI (ad 4) (ad 5) zr fr H1 := xCh_keep hRu hk11 (fun z => z.elim (xne hj (by omega) (by omega) (by omega)) (xne hj (by omega) (by omega) (by omega))) (fun z => z.elim (xne hj (by omega) (by omega) (by omega)) (xne hj (by omega) (by omega) (by omega)))
  have hRs : xRs D cI (ad 8) (ad 9) zs fs H1 := xRs_keep hRs hk11 (fun z => z.elim (xne hj (by omega) (by omega) (by omega)) (xne hj (by omega) (by omega) (by omega))) (fun z => z.elim (xne hj (by omega) (by omega) (by omega)) (xne hj (by omega) (by omega) (by omega)))
  have hC1 : xCh D cI (ad (10 + j1)) (ad (26 + j1)) n (pm j1) H1 := xCh_keep hC1 hk11 (fun z => z.elim (xne hj (by omega) (by omega) (by omega)) (xne hj (by omega) (by omega) (by omega))) (fun z => z.elim (xne hj (by omega) (by omega) (by omega)) (xne hj (by omega) (by omega) (by omega)))
  have hCs : xXC D cI ad zf pm H1 := xXC_keep hCs hk11 (fun i hi1 hi2 => (fun z => z.elim (xne hj (by omega) (by omega) (by omega)) (xne hj (by omega) (by omega) (by omega))))
  have hMa : xCh D cI (ad 6) (ad 7) n (bck fm (pm j1) n) H1 := hF11
  have hfm9 := hfm
  have hfm : ∀ i, bck fm (pm j1) n i < 8 := bck_bd hfm n hn8
  refine lv_aload_n hx hb dX3_back_14 rfl (lv_at hl 0 rfl) ?_
  refine lv_aload_n hx hb dX3_back_15 rfl (lv_at hl 1 rfl) ?_
  refine x_get (v := .ref (ad 6)) (C := RX3) (T := TX3) (N := 8) hx hb hts (by decide +kernel) hown hK hO rfl 3 (by decide) (hts (.fieldLink RX3 27 "BellRanks" "made" "LBellRanks$Change;") (by decide +kernel)) (fun _ h9 => h9) rfl dX3_back_16 ?_
  refine xmV (As := [.ref (ad 6)]) (rest := []) ⟨hx, hb, hml, hown, hts⟩ (cX0_setCopy_ l D cI cC (ad (10 + j1)) (ad (26 + j1)) n (pm j1) (ad 6) (ad 7) n (bck fm (pm j1) n) (xne hj (by omega) (by omega) (by omega)) (xne hj (by omega) (by omega) (by omega)) (xne hj (by omega) (by omega) (by omega)) (xne hj (by omega) (by omega) (by omega)) (xne hj (by omega) (by omega) (by omega)) hn8) (cwV 1 hts gX3_back_X0_setCopy rfl rfl rfl (by decide +kernel) ⟨Nat.le_of_ble_eq_true rfl, Nat.le_of_ble_eq_true rfl⟩) hK ⟨hC1, hMa⟩ (xRecv hK rfl hC1.1) rfl hl.1 rfl (Nat.le_of_ble_eq_true rfl) dX3_back_19 ⟨(by show 0 + 1 + 0 ≤ 10; omega), (by show 0 + 6 + 0 ≤ 60; omega)⟩ hS (fun q h => h.elim (fun h => ⟨10 + j1, by omega, h⟩) (fun h => ⟨26 + j1, by omega, h⟩)) (fun q h => h.elim (fun h => ⟨10 + j1, by omega, h⟩) (fun h => ⟨26 + j1, by omega, h⟩)) (fun u19 H1 locs1 hp19 hF19 hz19 hk19 hS => ?_)
  have hO : xXO D ad n ch rg H1 := xat_keep hO hk19 (fun z => z.elim (xne hj (by omega) (by omega) (by omega)) (xne hj (by omega) (by omega) (by omega)))
  have hBk : xXB D cC ad H1 := xat_keep hBk hk19 (fun z => z.elim (xne hj (by omega) (by omega) (by omega)) (xne hj (by omega) (by omega) (by omega)))
  have hMe : xMe D cI (ad 2) (ad 3) st kf H1 := xMe_keep hMe hk19 (fun z => z.elim (xne hj (by omega) (by omega) (by omega)) (xne hj (by omega) (by omega) (by omega))) (fun z => z.elim (xne hj (by omega) (by omega) (by omega)) (xne hj (by omega) (by omega) (by omega)))
  have hRu : xCh D cI (ad 4) (ad 5) zr fr H1 := xCh_keep hRu hk19 (fun z => z.elim (xne hj (by omega) (by omega) (by omega)) (xne hj (by omega) (by omega) (by omega))) (fun z => z.elim (xne hj (by omega) (by omega) (by omega)) (xne hj (by omega) (by omega) (by omega)))
  have hMa : xCh D cI (ad 6) (ad 7) n (bck fm (pm j1) n) H1 := xCh_keep hMa hk19 (fun z => z.elim (xne hj (by omega) (by omega) (by omega)) (xne hj (by omega) (by omega) (by omega))) (fun z => z.elim (xne hj (by omega) (by omega) (by omega)) (xne hj (by omega) (by omega) (by omega)))
  have hRs : xRs D cI (ad 8) (ad 9) zs fs H1 := xRs_keep hRs hk19 (fun z => z.elim (xne hj (by omega) (by omega) (by omega)) (xne hj (by omega) (by omega) (by omega))) (fun z => z.elim (xne hj (by omega) (by omega) (by omega)) (xne hj (by omega) (by omega) (by omega)))
  have hC1 : xCh D cI (ad (10 + j1)) (ad (26 + j1)) n (cpy (pm j1) (bck fm (pm j1) n) n) H1 := hF19
  have hCs := xXC_set hCs hk19 (fun i h5 h6 h7 h8 => (fun z => z.elim (xne hj (by omega) (by omega) (by omega)) (xne hj (by omega) (by omega) (by omega)))) hC1 (show j1 < 16 by omega)
  refine lv_aload_n hx hb dX3_back_22 rfl (lv_at hl 0 rfl) ?_
  refine xcV (As := []) (rest := []) ⟨hx, hb, hml, hown, hts⟩ (cX0_rank_ l D cI cC (ad (10 + j1)) (ad (26 + j1)) n (cpy (pm j1) (bck fm (pm j1) n) n) hn8 (fun i9 => Nat.lt_trans ((cpy_bd (hpm8 j1) (fun i9 _ => hfm i9)) i9) (by decide))) (cwV 0 hts gX3_back_X0_rank rfl rfl rfl (by decide +kernel) ⟨Nat.le_of_ble_eq_true rfl, Nat.le_of_ble_eq_true rfl⟩) hK hC1 (xRecv hK rfl hC1.1) rfl hl.1 rfl (Nat.le_of_ble_eq_true rfl) dX3_back_23 ⟨(by show 0 + 1 ≤ 10; omega), (by show 0 + 6 ≤ 60; omega)⟩ (fun x23 e23 => ?_)
  subst e23
  have hz : ∀ k, k < ch → va_up zf j1 n k = n := zf_set hz
  have he : cpy (pm j1) (bck fm (pm j1) n) n = bkF (n, ch, pm, st, kf, rg) j1 := cpy_eq (fun i hi => (bck_inv (hpm j1 hj1) hi).trans (bck_inv (hpm j1 hj1) hi).symm)
  rw [he] at hCs
  have ht : tIn (n, ch, pm, st, kf, rg) (nI j1) = 0 := if_pos hi2
  refine W.widen (k := 10) (n := 60) (by omega) (by omega) ?_
  refine vx_ret ?_
  have hnw : nBack (n, ch, pm, st, kf, rg) (nI j1) = upP (n, ch, pm, st, kf, rg) j1 (bkF (n, ch, pm, st, kf, rg) j1) := (if_pos ht).trans (by simp only [xN_nI hj1b])
  exact x_miret hx hb hr hlocks () ⟨ht, (by show nI _ = rBack _ _; unfold rBack; simp only [xN_nI hj1b]; rw [he])⟩ (by show xXW D cI cC ad (nBack (n, ch, pm, st, kf, rg) (nI j1)) _; rw [hnw]; exact (xXW_mk (S := upP (n, ch, pm, st, kf, rg) j1 (bkF (n, ch, pm, st, kf, rg) j1)) hO hBk hMe hRu hfr hMa hfm hRs hCs hz)) hS (fun _ h => h) dX3_back_26

set_option maxRecDepth 100000 in
set_option maxHeartbeats 4000000 in
theorem kStep_ (l : Launch) (hst9 : l.stackTraces = false) (D : va_G) (cI cC : ClassId) (ad : Nat → Nat) (hj : xInj ad) (S : AS) (hI : AI S) (x : Int32) : vx_Met l yX3_step wsX3_step (xRm 14 10 60) (va_Pc [.ref (ad 0), .int x] (xBZ D cI cC (xXW D cI cC ad S) (xAD ad))) (xI (fun r (_ : Unit) => tStep S x = 0 ∧ r = rStep S x) (fun _ H => xXW D cI cC ad (nStep S x) H) (xAD ad)) (xX (xAD ad) (fun E H => ((tStep S x = 1 ∧ E = xEA) ∨ (tStep S x = 2 ∧ E = xES)) ∧ xXW D cI cC ad S H)) 10 60 (xAD ad) := by
  obtain ⟨n, ch, pm, st, kf, rg⟩ := S
  obtain ⟨⟨hn2, hn8⟩, hch, hst, hpm8, hpm, hkv, hkb⟩ := id hI
  dsimp only at hn2 hn8 hch hst hpm8 hpm hkv hkb
  refine vx_ofW (cc := cX3_step) (maxL := 2) (ret := (some .int)) (by decide) rfl ?_
  intro p e s m args below meth c s₁ B hml htb hv
  obtain ⟨rfl, hP, hK, hZ⟩ := hv
  have hx := B.exec
  have hb := B.bytes
  have hr := B.returns
  have hts := atoms_spec (ws := wsX3_step) B.pre
  have hown : s.vm.findClass RX3 = some m.cls := findClass_of_methodNamed B.named
  have hlocks := B.notSynchronized
  have hW := hP
  have hl := lv_entry ([.ref (ad 0), .int x]) (n := 2) (Nat.le_of_ble_eq_true rfl)
  rw [lg_entry_eq]
  generalize (lg_sl ([.ref (ad 0), .int x]) ++ List.replicate (2 - (lg_sl ([.ref (ad 0), .int x])).length) Slot.unset).toArray = ls at hl ⊢
  have hl : lv_has ls 2 [(0, .ref (ad 0)), (1, .int x)] := hl
  obtain ⟨zr, zm, zs, fr, fm, fs, zf, hO, hBk, hMe, hRu, hfr, hMa, hfm, hRs, hCs, hz⟩ := id hW
  have hO : xXO D ad n ch rg s.heap := hO
  have hMe : xMe D cI (ad 2) (ad 3) st kf s.heap := hMe
  have hCs : xXC D cI ad zf pm s.heap := hCs
  have hz : ∀ k, k < ch → zf k = n := hz
  have hS : va_S (xAD ad) s.heap s.heap [] := va_S.rf
  refine lv_iload_n hx hb dX3_step_0 rfl (lv_at hl 1 rfl) ?_
  refine lv_aload_n hx hb dX3_step_1 rfl (lv_at hl 0 rfl) ?_
  refine x_get (v := .int (nI n)) (C := RX3) (T := TX3) (N := 8) hx hb hts (by decide +kernel) hown hK hO rfl 5 (by decide) (hts (.fieldLink RX3 37 "BellRanks" "bells" "I") (by decide +kernel)) (fun _ h9 => h9) rfl dX3_step_2 ?_
  have hpw : 2 ^ n < 2 ^ 31 := Nat.pow_lt_pow_right (by decide) (by omega)
  by_cases hx0 : x < 0
  · have hn : ¬ (inR x (2 ^ n) ∧ stp (xN x) n n 0 = 1) := fun z => z.1.1 hx0
    refine xcS (As := [.int x, .int (nI n)]) (rest := []) ⟨hx, hb, hml, hown, hts⟩ (cX1_isStepN_ l D cI cC x hx0 n) (va_cwS 2 hts gX3_step_X1_isStep rfl rfl rfl (by decide +kernel) ⟨Nat.le_of_ble_eq_true rfl, Nat.le_of_ble_eq_true rfl⟩) hK trivial rfl hl.1 rfl (Nat.le_of_ble_eq_true rfl) dX3_step_5 ⟨(by show 0 ≤ 10; omega), (by show 0 ≤ 60; omega)⟩ (fun x5 e5 => ?_)
    subst e5
    refine xn_if_ne (tgt := 21) hx hb dX3_step_8 (by decide) (by decide) (fun c => absurd c (by decide)) (fun _ => ?_)
    exact x_throw (cls := xEA) (text := "not the kept places of a step") (ik := 47) (is := 109) (ic := 51) hx hb hst9 hts hown htb hlocks hZ hS (hl.1.trans hml.symm) (by decide +kernel) (by decide +kernel) (by decide +kernel) xbad_A (by decide +kernel) xgood_A (by decide) dX3_step_11 dX3_step_14 dX3_step_15 dX3_step_17 dX3_step_20 (Nat.le_of_ble_eq_true rfl) (Nat.le_of_ble_eq_true rfl) (by show 0 + 1 ≤ 10; omega) (by show 0 + 6 ≤ 60; omega) (fun H1 _ ho => ⟨Or.inl ⟨(show (if inR x (2 ^ n) ∧ stp (xN x) n n 0 = 1 then (if st = 10 then 2 else 0) else 1) = 1 by rw [if_neg hn]), rfl⟩, xXW_old hW ho⟩) (fun _ h => h) (by omega) (by omega)
  obtain ⟨j1, hj1b, rfl⟩ := nI_of hx0
  have hl : lv_has ls 2 [(0, .ref (ad 0)), (1, .int (nI j1))] := hl
  refine xcS (As := [.int (nI j1), .int (nI n)]) (rest := []) ⟨hx, hb, hml, hown, hts⟩ (cX1_isStep_ l D cI cC j1 n hn8 hj1b) (va_cwS 2 hts gX3_step_X1_isStep rfl rfl rfl (by decide +kernel) ⟨Nat.le_of_ble_eq_true rfl, Nat.le_of_ble_eq_true rfl⟩) hK trivial rfl hl.1 rfl (Nat.le_of_ble_eq_true rfl) dX3_step_5 ⟨(by show 0 ≤ 10; omega), (by show 0 ≤ 60; omega)⟩ (fun x5 e5 => ?_)
  subst e5
  refine xn_if_ne (tgt := 21) hx hb dX3_step_8 (by decide) (Nat.lt_of_le_of_lt (istep_le (stp_le _ _ _ _)) (by decide)) (fun c8 => ?_) (fun c8 => ?_)
  · have hi : inR (nI j1) (2 ^ n) ∧ stp (xN (nI j1)) n n 0 = 1 := by rw [inR_nI hj1b, xN_nI hj1b]; exact istep_1 c8 (stp_le _ _ _ _)
    refine lv_aload_n hx hb dX3_step_21 rfl (lv_at hl 0 rfl) ?_
    refine x_get (v := .ref (ad 2)) (C := RX3) (T := TX3) (N := 8) hx hb hts (by decide +kernel) hown hK hO rfl 1 (by decide) (hts (.fieldLink RX3 19 "BellRanks" "method" "LBellRanks$Method;") (by decide +kernel)) (fun _ h9 => h9) rfl dX3_step_22 ?_
    refine xcV (As := []) (rest := []) ⟨hx, hb, hml, hown, hts⟩ (cX1_length_ l D cI cC (ad 2) (ad 3) st kf) (cwV 0 hts gX3_step_X1_length rfl rfl rfl (by decide +kernel) ⟨Nat.le_of_ble_eq_true rfl, Nat.le_of_ble_eq_true rfl⟩) hK hMe (xRecv hK rfl hMe.1) rfl hl.1 rfl (Nat.le_of_ble_eq_true rfl) dX3_step_25 ⟨(by show 0 ≤ 10; omega), (by show 0 ≤ 60; omega)⟩ (fun x25 e25 => ?_)
    subst e25
    refine xn_bipush (v := 10) hx hb dX3_step_28 (by decide) ?_
    refine xn_icmp_lt (tgt := 43) hx hb dX3_step_30 (by decide) (by omega) (by decide) (fun c30 => ?_) (fun c30 => ?_)
    · refine lv_aload_n hx hb dX3_step_43 rfl (lv_at hl 0 rfl) ?_
      refine x_get (v := .ref (ad 2)) (C := RX3) (T := TX3) (N := 8) hx hb hts (by decide +kernel) hown hK hO rfl 1 (by decide) (hts (.fieldLink RX3 19 "BellRanks" "method" "LBellRanks$Method;") (by decide +kernel)) (fun _ h9 => h9) rfl dX3_step_44 ?_
      refine lv_iload_n hx hb dX3_step_47 rfl (lv_at hl 1 rfl) ?_
      refine xmV (As := [.int (nI j1)]) (rest := []) ⟨hx, hb, hml, hown, hts⟩ (cX1_add_ l D cI cC (ad 2) (ad 3) st kf (xne hj (by omega) (by omega) (by omega)) (by omega) j1) (cwV 1 hts gX3_step_X1_add rfl rfl rfl (by decide +kernel) ⟨Nat.le_of_ble_eq_true rfl, Nat.le_of_ble_eq_true rfl⟩) hK hMe (xRecv hK rfl hMe.1) rfl hl.1 rfl (Nat.le_of_ble_eq_true rfl) dX3_step_48 ⟨(by show 0 + 0 ≤ 10; omega), (by show 0 + 0 ≤ 60; omega)⟩ hS (fun q h => h.elim (fun h => ⟨2, by omega, h⟩) (fun h => ⟨3, by omega, h⟩)) (fun q h => h.elim (fun h => ⟨2, by omega, h⟩) (fun h => ⟨3, by omega, h⟩)) (fun u48 H1 locs1 hp48 hF48 hz48 hk48 hS => ?_)
      have hO : xXO D ad n ch rg H1 := xat_keep hO hk48 (fun z => z.elim (xne hj (by omega) (by omega) (by omega)) (xne hj (by omega) (by omega) (by omega)))
      have hBk : xXB D cC ad H1 := xat_keep hBk hk48 (fun z => z.elim (xne hj (by omega) (by omega) (by omega)) (xne hj (by omega) (by omega) (by omega)))
      have hRu : xCh D cI (ad 4) (ad 5) zr fr H1 := xCh_keep hRu hk48 (fun z => z.elim (xne hj (by omega) (by omega) (by omega)) (xne hj (by omega) (by omega) (by omega))) (fun z => z.elim (xne hj (by omega) (by omega) (by omega)) (xne hj (by omega) (by omega) (by omega)))
      have hMa : xCh D cI (ad 6) (ad 7) zm fm H1 := xCh_keep hMa hk48 (fun z => z.elim (xne hj (by omega) (by omega) (by omega)) (xne hj (by omega) (by omega) (by omega))) (fun z => z.elim (xne hj (by omega) (by omega) (by omega)) (xne hj (by omega) (by omega) (by omega)))
      have hRs : xRs D cI (ad 8) (ad 9) zs fs H1 := xRs_keep hRs hk48 (fun z => z.elim (xne hj (by omega) (by omega) (by omega)) (xne hj (by omega) (by omega) (by omega))) (fun z => z.elim (xne hj (by omega) (by omega) (by omega)) (xne hj (by omega) (by omega) (by omega)))
      have hCs : xXC D cI ad zf pm H1 := xXC_keep hCs hk48 (fun i hi1 hi2 => (fun z => z.elim (xne hj (by omega) (by omega) (by omega)) (xne hj (by omega) (by omega) (by omega))))
      have hMe : xMe D cI (ad 2) (ad 3) (st + 1) (va_up kf st j1) H1 := hF48
      refine lv_aload_n hx hb dX3_step_51 rfl (lv_at hl 0 rfl) ?_
      refine x_get (v := .ref (ad 2)) (C := RX3) (T := TX3) (N := 8) hx hb hts (by decide +kernel) hown hK hO rfl 1 (by decide) (hts (.fieldLink RX3 19 "BellRanks" "method" "LBellRanks$Method;") (by decide +kernel)) (fun _ h9 => h9) rfl dX3_step_52 ?_
      refine xcV (As := []) (rest := []) ⟨hx, hb, hml, hown, hts⟩ (cX1_length_ l D cI cC (ad 2) (ad 3) (st + 1) (va_up kf st j1)) (cwV 0 hts gX3_step_X1_length rfl rfl rfl (by decide +kernel) ⟨Nat.le_of_ble_eq_true rfl, Nat.le_of_ble_eq_true rfl⟩) hK hMe (xRecv hK rfl hMe.1) rfl hl.1 rfl (Nat.le_of_ble_eq_true rfl) dX3_step_55 ⟨(by show 0 ≤ 10; omega), (by show 0 ≤ 60; omega)⟩ (fun x55 e55 => ?_)
      subst e55
      have ht : tStep (n, ch, pm, st, kf, rg) (nI j1) = 0 := (show (if inR (nI j1) (2 ^ n) ∧ stp (xN (nI j1)) n n 0 = 1 then (if st = 10 then 2 else 0) else 1) = 0 by rw [if_pos hi, if_neg (show ¬ st = 10 by omega)])
      refine W.widen (k := 10) (n := 60) (by omega) (by omega) ?_
      refine vx_ret ?_
      have hnw : nStep (n, ch, pm, st, kf, rg) (nI j1) = (n, ch, pm, st + 1, va_up kf st j1, rg) := (if_pos ht).trans (by simp only [xN_nI hj1b])
      exact x_miret hx hb hr hlocks () ⟨ht, rfl⟩ (by show xXW D cI cC ad (nStep (n, ch, pm, st, kf, rg) (nI j1)) _; rw [hnw]; exact (xXW_mk (S := (n, ch, pm, st + 1, va_up kf st j1, rg)) hO hBk hMe hRu hfr hMa hfm hRs hCs hz)) hS (fun _ h => h) dX3_step_58
    · exact x_throw (cls := xES) (text := "the method has 10 steps") (ik := 114) (is := 116) (ic := 118) hx hb hst9 hts hown htb hlocks hZ hS (hl.1.trans hml.symm) (by decide +kernel) (by decide +kernel) (by decide +kernel) xbad_S (by decide +kernel) xgood_S (by decide) dX3_step_33 dX3_step_36 dX3_step_37 dX3_step_39 dX3_step_42 (Nat.le_of_ble_eq_true rfl) (Nat.le_of_ble_eq_true rfl) (by show 0 + 1 ≤ 10; omega) (by show 0 + 6 ≤ 60; omega) (fun H1 _ ho => ⟨Or.inr ⟨(show (if inR (nI j1) (2 ^ n) ∧ stp (xN (nI j1)) n n 0 = 1 then (if st = 10 then 2 else 0) else 1) = 2 by rw [if_pos hi, if_pos (show st = 10 by omega)]), rfl⟩, xXW_old hW ho⟩) (fun _ h => h) (by omega) (by omega)
  · have hn : ¬ (inR (nI j1) (2 ^ n) ∧ stp (xN (nI j1)) n n 0 = 1) := by rw [inR_nI hj1b, xN_nI hj1b]; exact istep_0 c8 (stp_le _ _ _ _)
    exact x_throw (cls := xEA) (text := "not the kept places of a step") (ik := 47) (is := 109) (ic := 51) hx hb hst9 hts hown htb hlocks hZ hS (hl.1.trans hml.symm) (by decide +kernel) (by decide +kernel) (by decide +kernel) xbad_A (by decide +kernel) xgood_A (by decide) dX3_step_11 dX3_step_14 dX3_step_15 dX3_step_17 dX3_step_20 (Nat.le_of_ble_eq_true rfl) (Nat.le_of_ble_eq_true rfl) (by show 0 + 1 ≤ 10; omega) (by show 0 + 6 ≤ 60; omega) (fun H1 _ ho => ⟨Or.inl ⟨(show (if inR (nI j1) (2 ^ n) ∧ stp (xN (nI j1)) n n 0 = 1 then (if st = 10 then 2 else 0) else 1) = 1 by rw [if_neg hn]), rfl⟩, xXW_old hW ho⟩) (fun _ h => h) (by omega) (by omega)

set_option maxRecDepth 100000 in
set_option maxHeartbeats 4000000 in
theorem kRing_ (l : Launch) (hst9 : l.stackTraces = false) (D : va_G) (cI cC : ClassId) (ad : Nat → Nat) (hj : xInj ad) (S : AS) (hI : AI S) (x : Int32) (y : Int32) : vx_Met l yX3_ring wsX3_ring (xRm 14 10 60) (va_Pc [.ref (ad 0), .int x, .int y] (xBZ D cI cC (xXW D cI cC ad S) (xAD ad))) (xI (fun r (_ : Unit) => tRing S x y = 0 ∧ r = rRing S x y) (fun _ H => xXW D cI cC ad (nRing S x y) H) (xAD ad)) (xX (xAD ad) (fun E H => ((tRing S x y = 1 ∧ E = xEI) ∨ (tRing S x y = 2 ∧ E = xEA)) ∧ xXW D cI cC ad S H)) 10 60 (xAD ad) := by
  obtain ⟨n, ch, pm, st, kf, rg⟩ := S
  obtain ⟨⟨hn2, hn8⟩, hch, hst, hpm8, hpm, hkv, hkb⟩ := id hI
  dsimp only at hn2 hn8 hch hst hpm8 hpm hkv hkb
  refine vx_ofW (cc := cX3_ring) (maxL := 5) (ret := (some .int)) (by decide) rfl ?_
  intro p e s m args below meth c s₁ B hml htb hv
  obtain ⟨rfl, hP, hK, hZ⟩ := hv
  have hx := B.exec
  have hb := B.bytes
  have hr := B.returns
  have hts := atoms_spec (ws := wsX3_ring) B.pre
  have hown : s.vm.findClass RX3 = some m.cls := findClass_of_methodNamed B.named
  have hlocks := B.notSynchronized
  have hW := hP
  have hl := lv_entry ([.ref (ad 0), .int x, .int y]) (n := 5) (Nat.le_of_ble_eq_true rfl)
  rw [lg_entry_eq]
  generalize (lg_sl ([.ref (ad 0), .int x, .int y]) ++ List.replicate (5 - (lg_sl ([.ref (ad 0), .int x, .int y])).length) Slot.unset).toArray = ls at hl ⊢
  have hl : lv_has ls 5 [(0, .ref (ad 0)), (1, .int x), (2, .int y)] := hl
  obtain ⟨zr, zm, zs, fr, fm, fs, zf, hO, hBk, hMe, hRu, hfr, hMa, hfm, hRs, hCs, hz⟩ := id hW
  have hO : xXO D ad n ch rg s.heap := hO
  have hMe : xMe D cI (ad 2) (ad 3) st kf s.heap := hMe
  have hCs : xXC D cI ad zf pm s.heap := hCs
  have hz : ∀ k, k < ch → zf k = n := hz
  have hS : va_S (xAD ad) s.heap s.heap [] := va_S.rf
  refine lv_aload_n hx hb dX3_ring_0 rfl (lv_at hl 0 rfl) ?_
  refine lv_iload_n hx hb dX3_ring_1 rfl (lv_at hl 1 rfl) ?_
  refine xtR (As := [.int x]) (rest := []) ⟨hx, hb, hml, hown, hts⟩ (cX3_find_ l hst9 D cI cC ad _ n ch rg (by omega) x) (cwV 1 hts gX3_ring_X3_find rfl rfl rfl (by decide +kernel) ⟨Nat.le_of_ble_eq_true rfl, Nat.le_of_ble_eq_true rfl⟩) hK ((hZ.kept hS.2.1).narrow (fun q h => h.elim)) ⟨rfl, hO, hBk⟩ (xRecv hK rfl hO) rfl hl.1 rfl (Nat.le_of_ble_eq_true rfl) dX3_ring_2 ⟨(by show 0 + 1 ≤ 10; omega), (by show 0 + 6 ≤ 60; omega)⟩ hS (fun q h => h.elim) (fun q h => h.elim) (fun E ce q9 H1 locs1 hB hz9 hk9 hS h1 h2 h3 => ?_) (fun u ra H1 locs1 hp hF hz9 hk2 hS => ?_)
  · obtain ⟨rfl, hn⟩ := hB
    exact x_pass htb hlocks h1 h2 h3 ⟨Or.inl ⟨(show (if inR x ch then (if inR y 201 ∧ 1 ≤ xN y then 0 else 2) else 1) = 1 by rw [if_neg hn]), rfl⟩, (xXW_old hW (fun x9 hx9 => hk9 x9 hx9 id))⟩ hS (fun _ h => h) (by omega) (by omega)
  obtain ⟨rfl, hra⟩ := hF
  have hi2 := hp
  obtain ⟨j1, hj1, hj1b, rfl⟩ := inR_of hp
  rw [xN_nI hj1b] at hra
  subst hra
  have hl : lv_has ls 5 [(0, .ref (ad 0)), (1, .int (nI j1)), (2, .int y)] := hl
  have hC1 : xCh D cI (ad (10 + j1)) (ad (26 + j1)) n (pm j1) s.heap := xXC_at hCs (show j1 < 16 by omega) (hz j1 hj1)
  refine lv_astore_n (lv' := [(3, .ref (ad (10 + j1))), (0, .ref (ad 0)), (1, .int (nI j1)), (2, .int y)]) hx hb dX3_ring_5 rfl hl (by decide) rfl (fun ls hl => ?_)
  refine lv_iload_n hx hb dX3_ring_6 rfl (lv_at hl 3 rfl) ?_
  refine xtVS (As := [.int y]) (rest := []) ⟨hx, hb, hml, hown, hts⟩ (cX3_checkSteps_ l hst9 D cI cC ad _ y) (va_cwS 1 hts gX3_ring_X3_checkSteps rfl rfl rfl (by decide +kernel) ⟨Nat.le_of_ble_eq_true rfl, Nat.le_of_ble_eq_true rfl⟩) hK ((hZ.kept hS.2.1).narrow (fun q h => h.elim)) rfl rfl hl.1 rfl (Nat.le_of_ble_eq_true rfl) dX3_ring_7 ⟨(by show 0 + 1 + 1 ≤ 10; omega), (by show 0 + 6 + 6 ≤ 60; omega)⟩ hS (fun q h => h.elim) (fun q h => h.elim) (fun E ce q9 H1 locs1 hB hz9 hk9 hS h1 h2 h3 => ?_) (fun u H1 locs1 hp hF hz9 hk7 hS => ?_)
  · obtain ⟨rfl, hn⟩ := hB
    exact x_pass htb hlocks h1 h2 h3 ⟨Or.inr ⟨(show (if inR (nI j1) ch then (if inR y 201 ∧ 1 ≤ xN y then 0 else 2) else 1) = 2 by rw [if_pos hi2, if_neg hn]), rfl⟩, (xXW_old hW (fun x9 hx9 => hk9 x9 hx9 id))⟩ hS (fun _ h => h) (by omega) (by omega)
  obtain rfl := hF
  have hi7 := hp
  obtain ⟨j2, hj2, hj2b, rfl⟩ := inR_of hi7.1
  have hl : lv_has ls 5 [(3, .ref (ad (10 + j1))), (0, .ref (ad 0)), (1, .int (nI j1)), (2, .int (nI j2))] := hl
  refine lv_aload_n hx hb dX3_ring_10 rfl (lv_at hl 1 rfl) ?_
  refine x_get (v := .ref (ad 2)) (C := RX3) (T := TX3) (N := 8) hx hb hts (by decide +kernel) hown hK hO rfl 1 (by decide) (hts (.fieldLink RX3 19 "BellRanks" "method" "LBellRanks$Method;") (by decide +kernel)) (fun _ h9 => h9) rfl dX3_ring_11 ?_
  refine xcV (As := []) (rest := []) ⟨hx, hb, hml, hown, hts⟩ (cX1_length_ l D cI cC (ad 2) (ad 3) st kf) (cwV 0 hts gX3_ring_X1_length rfl rfl rfl (by decide +kernel) ⟨Nat.le_of_ble_eq_true rfl, Nat.le_of_ble_eq_true rfl⟩) hK hMe (xRecv hK rfl hMe.1) rfl hl.1 rfl (Nat.le_of_ble_eq_true rfl) dX3_ring_14 ⟨(by show 0 + 1 + 1 ≤ 10; omega), (by show 0 + 6 + 6 ≤ 60; omega)⟩ (fun x14 e14 => ?_)
  subst e14
  refine xn_if_le (tgt := 55) hx hb dX3_ring_17 (by decide) (by omega) (fun c17 => ?_) (fun c17 => ?_)
  · refine lv_aload_n hx hb dX3_ring_55 rfl (lv_at hl 0 rfl) ?_
    refine xcV (As := []) (rest := []) ⟨hx, hb, hml, hown, hts⟩ (cX0_rank_ l D cI cC (ad (10 + j1)) (ad (26 + j1)) n (pm j1) hn8 (fun i9 => Nat.lt_trans ((hpm8 j1) i9) (by decide))) (cwV 0 hts gX3_ring_X0_rank rfl rfl rfl (by decide +kernel) ⟨Nat.le_of_ble_eq_true rfl, Nat.le_of_ble_eq_true rfl⟩) hK hC1 (xRecv hK rfl hC1.1) rfl hl.1 rfl (Nat.le_of_ble_eq_true rfl) dX3_ring_56 ⟨(by show 0 + 1 + 1 ≤ 10; omega), (by show 0 + 6 + 6 ≤ 60; omega)⟩ (fun x56 e56 => ?_)
    subst e56
    have hrg : rgF (n, ch, pm, st, kf, rg) j1 j2 = pm j1 := if_pos c17
    have hCs : xXC D cI ad zf (va_up pm j1 (pm j1)) s.heap := by rw [va_up_same]; exact hCs
    have ht : tRing (n, ch, pm, st, kf, rg) (nI j1) (nI j2) = 0 := (show (if inR (nI j1) ch then (if inR (nI j2) 201 ∧ 1 ≤ xN (nI j2) then 0 else 2) else 1) = 0 by rw [if_pos hi2, if_pos hi7])
    refine W.widen (k := 10) (n := 60) (by omega) (by omega) ?_
    refine vx_ret ?_
    have hnw : nRing (n, ch, pm, st, kf, rg) (nI j1) (nI j2) = (n, ch, va_up pm j1 (pm j1), st, kf, rg) := (if_pos ht).trans (by simp only [xN_nI hj1b, xN_nI hj2b, hrg, if_pos c17])
    exact x_miret hx hb hr hlocks () ⟨ht, (by show nI _ = rRing _ _ _; unfold rRing; simp only [xN_nI hj1b, xN_nI hj2b]; rw [hrg])⟩ (by show xXW D cI cC ad (nRing (n, ch, pm, st, kf, rg) (nI j1) (nI j2)) _; rw [hnw]; exact (xXW_mk (S := (n, ch, va_up pm j1 (pm j1), st, kf, rg)) hO hBk hMe hRu hfr hMa hfm hRs hCs hz)) hS (fun _ h => h) dX3_ring_59
  · have hst0 : 0 < st := c17
    refine xn_iconst (v := 0) hx hb dX3_ring_20 (by decide) ?_
    refine lv_istore (lv' := [(4, .int (nI 0)), (3, .ref (ad (10 + j1))), (0, .ref (ad 0)), (1, .int (nI j1)), (2, .int (nI j2))]) hx hb dX3_ring_21 hl (by decide) rfl (fun ls hl => ?_)
    refine x_loopH (σ := Nat) (fun a => j2 - a) (fun a H locs cells slots ls => (a ≤ j2) ∧ (xXO D ad n ch rg H) ∧ (xXB D cC ad H) ∧ (xMe D cI (ad 2) (ad 3) st kf H) ∧ (xCh D cI (ad 4) (ad 5) zr fr H) ∧ (xCh D cI (ad 6) (ad 7) zm fm H) ∧ (xRs D cI (ad 8) (ad 9) zs fs H) ∧ (xCh D cI (ad (10 + j1)) (ad (26 + j1)) n (rgs kf st n (pm j1) a) H) ∧ (xXC D cI ad (va_up zf j1 n) (va_up pm j1 (rgs kf st n (pm j1) a)) H) ∧ (va_S (xAD ad) s.heap H locs) ∧ (cells ≤ 2) ∧ (slots ≤ 12) ∧ lv_has ls 5 [(0, .ref (ad 0)), (1, .int (nI j1)), (2, .int (nI j2)), (3, .ref (ad (10 + j1))), (4, .int (nI a))]) ?_ 0 _ _ _ _ ls ⟨(Nat.zero_le _), hO, hBk, hMe, hRu, hMa, hRs, hC1, (by rw [va_up_id (hz j1 hj1)]; show xXC D cI ad zf (va_up pm j1 (pm j1)) _; rw [va_up_same]; exact hCs), hS, (by omega), (by omega), lv_sub hl [2, 3, 4, 1, 0] rfl⟩
    rintro i H locs cells slots ls ⟨h2, hO, hBk, hMe, hRu, hMa, hRs, hC1, hCs, hS, hce, hse, hl⟩ ih23
    
    refine lv_iload hx hb dX3_ring_23 (lv_at hl 4 rfl) ?_
    refine lv_iload_n hx hb dX3_ring_25 rfl (lv_at hl 2 rfl) ?_
    refine xn_icmp_ge (tgt := 45) hx hb dX3_ring_26 (by decide) (by omega) (by omega) (fun c26 => ?_) (fun c26 => ?_)
    · refine lv_aload_n hx hb dX3_ring_45 rfl (lv_at hl 0 rfl) ?_
      refine lv_dup hx hb dX3_ring_46 rfl ?_
      refine x_get (v := .int (nI rg)) (C := RX3) (T := TX3) (N := 8) hx hb hts (by decide +kernel) hown hK hO rfl 7 (by decide) (hts (.fieldLink RX3 44 "BellRanks" "rungInAll" "I") (by decide +kernel)) (fun _ h9 => h9) rfl dX3_ring_47 ?_
      refine lv_iload_n hx hb dX3_ring_50 rfl (lv_at hl 2 rfl) ?_
      refine xn_iadd hx hb dX3_ring_51 ?_
      refine x_put (v := .int (nI (rg + j2))) (ty := .int) (C := RX3) (T := TX3) (N := 8) hx hb hts (by decide +kernel) tyX3 tyX3_ok nmX3 hown hK hO hS ⟨0, by omega, rfl⟩ rfl 7 (by decide) (hts (.fieldLink RX3 44 "BellRanks" "rungInAll" "I") (by decide +kernel)) (fun _ h9 => h9) rfl (by decide +kernel) rfl rfl (Nat.le_of_ble_eq_true rfl) dX3_ring_52 (fun H1 locs1 hN hz9 oq hS => ?_)
      have hO : xXO D ad n ch (rg + j2) H1 := hN
      have hBk : xXB D cC ad H1 := va_at.kept hBk (oq _ (xne hj (by omega) (by omega) (by omega)))
      have hMe : xMe D cI (ad 2) (ad 3) st kf H1 := ⟨hMe.1.kept (oq _ (xne hj (by omega) (by omega) (by omega))), hMe.2.kept (oq _ (xne hj (by omega) (by omega) (by omega)))⟩
      have hRu : xCh D cI (ad 4) (ad 5) zr fr H1 := ⟨hRu.1.kept (oq _ (xne hj (by omega) (by omega) (by omega))), hRu.2.kept (oq _ (xne hj (by omega) (by omega) (by omega)))⟩
      have hMa : xCh D cI (ad 6) (ad 7) zm fm H1 := ⟨hMa.1.kept (oq _ (xne hj (by omega) (by omega) (by omega))), hMa.2.kept (oq _ (xne hj (by omega) (by omega) (by omega)))⟩
      have hRs : xRs D cI (ad 8) (ad 9) zs fs H1 := ⟨hRs.1.kept (oq _ (xne hj (by omega) (by omega) (by omega))), hRs.2.kept (oq _ (xne hj (by omega) (by omega) (by omega)))⟩
      have hC1 : xCh D cI (ad (10 + j1)) (ad (26 + j1)) n (rgs kf st n (pm j1) i) H1 := ⟨hC1.1.kept (oq _ (xne hj (by omega) (by omega) (by omega))), hC1.2.kept (oq _ (xne hj (by omega) (by omega) (by omega)))⟩
      have hCs : xXC D cI ad (va_up zf j1 n) (va_up pm j1 (rgs kf st n (pm j1) i)) H1 := fun k hk9 => ⟨(hCs k hk9).1.kept (oq _ (xne hj (by omega) (by omega) (by omega))), (hCs k hk9).2.kept (oq _ (xne hj (by omega) (by omega) (by omega)))⟩
      refine lv_aload_n hx hb dX3_ring_55 rfl (lv_at hl 3 rfl) ?_
      refine xcV (As := []) (rest := []) ⟨hx, hb, hml, hown, hts⟩ (cX0_rank_ l D cI cC (ad (10 + j1)) (ad (26 + j1)) n (rgs kf st n (pm j1) i) hn8 (fun i9 => Nat.lt_trans ((rgs_bd (hpm8 j1) i) i9) (by decide))) (cwV 0 hts gX3_ring_X0_rank rfl rfl rfl (by decide +kernel) ⟨Nat.le_of_ble_eq_true rfl, Nat.le_of_ble_eq_true rfl⟩) hK hC1 (xRecv hK rfl hC1.1) rfl hl.1 rfl (Nat.le_of_ble_eq_true rfl) dX3_ring_56 ⟨(by show cells ≤ 10; omega), (by show slots ≤ 60; omega)⟩ (fun x56 e56 => ?_)
      subst e56
      have hi9 : i = j2 := by omega
      have hrg : rgF (n, ch, pm, st, kf, rg) j1 j2 = rgs kf st n (pm j1) j2 := if_neg (show ¬ st = 0 by omega)
      rw [hi9] at hCs
      have hz : ∀ k, k < ch → va_up zf j1 n k = n := zf_set hz
      have ht : tRing (n, ch, pm, st, kf, rg) (nI j1) (nI j2) = 0 := (show (if inR (nI j1) ch then (if inR (nI j2) 201 ∧ 1 ≤ xN (nI j2) then 0 else 2) else 1) = 0 by rw [if_pos hi2, if_pos hi7])
      refine W.widen (k := 10) (n := 60) (by omega) (by omega) ?_
      refine vx_ret ?_
      have hnw : nRing (n, ch, pm, st, kf, rg) (nI j1) (nI j2) = (n, ch, va_up pm j1 (rgs kf st n (pm j1) j2), st, kf, rg + j2) := (if_pos ht).trans (by simp only [xN_nI hj1b, xN_nI hj2b, hrg, if_neg (show ¬ st = 0 by omega)])
      exact x_miret hx hb hr hlocks () ⟨ht, (by show nI _ = rRing _ _ _; unfold rRing; simp only [xN_nI hj1b, xN_nI hj2b]; rw [hrg, hi9])⟩ (by show xXW D cI cC ad (nRing (n, ch, pm, st, kf, rg) (nI j1) (nI j2)) _; rw [hnw]; exact (xXW_mk (S := (n, ch, va_up pm j1 (rgs kf st n (pm j1) j2), st, kf, rg + j2)) hO hBk hMe hRu hfr hMa hfm hRs hCs hz)) hS (fun _ h => h) dX3_ring_59
    · refine lv_aload_n hx hb dX3_ring_29 rfl (lv_at hl 0 rfl) ?_
      refine x_get (v := .ref (ad 2)) (C := RX3) (T := TX3) (N := 8) hx hb hts (by decide +kernel) hown hK hO rfl 1 (by decide) (hts (.fieldLink RX3 19 "BellRanks" "method" "LBellRanks$Method;") (by decide +kernel)) (fun _ h9 => h9) rfl dX3_ring_30 ?_
      refine lv_aload_n hx hb dX3_ring_33 rfl (lv_at hl 3 rfl) ?_
      refine lv_iload hx hb dX3_ring_34 (lv_at hl 4 rfl) ?_
      refine xmV (As := [.ref (ad (10 + j1)), .int (nI i)]) (rest := []) ⟨hx, hb, hml, hown, hts⟩ (cX1_ringOn_ l D cI cC (ad 2) (ad 3) st kf (ad (10 + j1)) (ad (26 + j1)) n (rgs kf st n (pm j1) i) (xne hj (by omega) (by omega) (by omega)) hn8 hst0 (by omega) hkb i (by omega)) (cwV 2 hts gX3_ring_X1_ringOn rfl rfl rfl (by decide +kernel) ⟨Nat.le_of_ble_eq_true rfl, Nat.le_of_ble_eq_true rfl⟩) hK ⟨hMe, hC1⟩ (xRecv hK rfl hMe.1) rfl hl.1 rfl (Nat.le_of_ble_eq_true rfl) dX3_ring_36 ⟨(by show cells + 0 ≤ 10; omega), (by show slots + 0 ≤ 60; omega)⟩ hS (fun q h => ⟨26 + j1, by omega, h⟩) (fun q h => ⟨26 + j1, by omega, h⟩) (fun u36 H1 locs1 hp36 hF36 hz36 hk36 hS => ?_)
      have hO : xXO D ad n ch rg H1 := xat_keep hO hk36 (xne hj (by omega) (by omega) (by omega))
      have hBk : xXB D cC ad H1 := xat_keep hBk hk36 (xne hj (by omega) (by omega) (by omega))
      have hMe : xMe D cI (ad 2) (ad 3) st kf H1 := xMe_keep hMe hk36 (xne hj (by omega) (by omega) (by omega)) (xne hj (by omega) (by omega) (by omega))
      have hRu : xCh D cI (ad 4) (ad 5) zr fr H1 := xCh_keep hRu hk36 (xne hj (by omega) (by omega) (by omega)) (xne hj (by omega) (by omega) (by omega))
      have hMa : xCh D cI (ad 6) (ad 7) zm fm H1 := xCh_keep hMa hk36 (xne hj (by omega) (by omega) (by omega)) (xne hj (by omega) (by omega) (by omega))
      have hRs : xRs D cI (ad 8) (ad 9) zs fs H1 := xRs_keep hRs hk36 (xne hj (by omega) (by omega) (by omega)) (xne hj (by omega) (by omega) (by omega))
      have hC1 : xCh D cI (ad (10 + j1)) (ad (26 + j1)) n (rst (kf (i % st)) n n 0 (rgs kf st n (pm j1) i)) H1 := hF36
      have hCs := xXC_set hCs hk36 (fun i h5 h6 h7 h8 => (xne hj (by omega) (by omega) (by omega))) hC1 (show j1 < 16 by omega)
      rw [va_up_up, va_up_up] at hCs
      refine xn_iinc (v := i + 1) (lv' := [(4, .int (nI (i + 1))), (0, .ref (ad 0)), (1, .int (nI j1)), (2, .int (nI j2)), (3, .ref (ad (10 + j1)))]) hx hb dX3_ring_39 hl (k := 4) rfl (xinc1 _) (by decide) rfl (fun ls hl => ?_)
      refine lv_goto (tgt := 23) hx hb dX3_ring_42 (by decide) ?_
      exact ih23 (i + 1) _ _ _ _ ls ⟨(by omega), hO, hBk, hMe, hRu, hMa, hRs, hC1, hCs, hS, hce, hse, lv_sub hl [1, 2, 3, 4, 0] rfl⟩ (by omega)

set_option maxRecDepth 100000 in
set_option maxHeartbeats 4000000 in
theorem kBell_ (l : Launch) (hst9 : l.stackTraces = false) (D : va_G) (cI cC : ClassId) (ad : Nat → Nat) (hj : xInj ad) (S : AS) (hI : AI S) (x : Int32) (y : Int32) : vx_Met l yX3_bell wsX3_bell (xRm 14 10 60) (va_Pc [.ref (ad 0), .int x, .int y] (xBZ D cI cC (xXW D cI cC ad S) (xAD ad))) (xI (fun r (_ : Unit) => tBell S x y = 0 ∧ r = rBell S x y) (fun _ H => xXW D cI cC ad (S) H) (xAD ad)) (xX (xAD ad) (fun E H => (tBell S x y = 1 ∧ E = xEI) ∧ xXW D cI cC ad S H)) 10 60 (xAD ad) := by
  obtain ⟨n, ch, pm, st, kf, rg⟩ := S
  obtain ⟨⟨hn2, hn8⟩, hch, hst, hpm8, hpm, hkv, hkb⟩ := id hI
  dsimp only at hn2 hn8 hch hst hpm8 hpm hkv hkb
  refine vx_ofW (cc := cX3_bell) (maxL := 4) (ret := (some .int)) (by decide) rfl ?_
  intro p e s m args below meth c s₁ B hml htb hv
  obtain ⟨rfl, hP, hK, hZ⟩ := hv
  have hx := B.exec
  have hb := B.bytes
  have hr := B.returns
  have hts := atoms_spec (ws := wsX3_bell) B.pre
  have hown : s.vm.findClass RX3 = some m.cls := findClass_of_methodNamed B.named
  have hlocks := B.notSynchronized
  have hW := hP
  have hl := lv_entry ([.ref (ad 0), .int x, .int y]) (n := 4) (Nat.le_of_ble_eq_true rfl)
  rw [lg_entry_eq]
  generalize (lg_sl ([.ref (ad 0), .int x, .int y]) ++ List.replicate (4 - (lg_sl ([.ref (ad 0), .int x, .int y])).length) Slot.unset).toArray = ls at hl ⊢
  have hl : lv_has ls 4 [(0, .ref (ad 0)), (1, .int x), (2, .int y)] := hl
  obtain ⟨zr, zm, zs, fr, fm, fs, zf, hO, hBk, hMe, hRu, hfr, hMa, hfm, hRs, hCs, hz⟩ := id hW
  have hO : xXO D ad n ch rg s.heap := hO
  have hMe : xMe D cI (ad 2) (ad 3) st kf s.heap := hMe
  have hCs : xXC D cI ad zf pm s.heap := hCs
  have hz : ∀ k, k < ch → zf k = n := hz
  have hS : va_S (xAD ad) s.heap s.heap [] := va_S.rf
  refine lv_aload_n hx hb dX3_bell_0 rfl (lv_at hl 0 rfl) ?_
  refine lv_iload_n hx hb dX3_bell_1 rfl (lv_at hl 1 rfl) ?_
  refine xtR (As := [.int x]) (rest := []) ⟨hx, hb, hml, hown, hts⟩ (cX3_find_ l hst9 D cI cC ad _ n ch rg (by omega) x) (cwV 1 hts gX3_bell_X3_find rfl rfl rfl (by decide +kernel) ⟨Nat.le_of_ble_eq_true rfl, Nat.le_of_ble_eq_true rfl⟩) hK ((hZ.kept hS.2.1).narrow (fun q h => h.elim)) ⟨rfl, hO, hBk⟩ (xRecv hK rfl hO) rfl hl.1 rfl (Nat.le_of_ble_eq_true rfl) dX3_bell_2 ⟨(by show 0 + 1 ≤ 10; omega), (by show 0 + 6 ≤ 60; omega)⟩ hS (fun q h => h.elim) (fun q h => h.elim) (fun E ce q9 H1 locs1 hB hz9 hk9 hS h1 h2 h3 => ?_) (fun u ra H1 locs1 hp hF hz9 hk2 hS => ?_)
  · obtain ⟨rfl, hn⟩ := hB
    exact x_pass htb hlocks h1 h2 h3 ⟨⟨if_neg (fun z => hn z.1), rfl⟩, (xXW_old hW (fun x9 hx9 => hk9 x9 hx9 id))⟩ hS (fun _ h => h) (by omega) (by omega)
  obtain ⟨rfl, hra⟩ := hF
  have hi2 := hp
  obtain ⟨j1, hj1, hj1b, rfl⟩ := inR_of hp
  rw [xN_nI hj1b] at hra
  subst hra
  have hl : lv_has ls 4 [(0, .ref (ad 0)), (1, .int (nI j1)), (2, .int y)] := hl
  have hC1 : xCh D cI (ad (10 + j1)) (ad (26 + j1)) n (pm j1) s.heap := xXC_at hCs (show j1 < 16 by omega) (hz j1 hj1)
  refine lv_astore_n (lv' := [(3, .ref (ad (10 + j1))), (0, .ref (ad 0)), (1, .int (nI j1)), (2, .int y)]) hx hb dX3_bell_5 rfl hl (by decide) rfl (fun ls hl => ?_)
  refine lv_aload_n hx hb dX3_bell_6 rfl (lv_at hl 1 rfl) ?_
  refine lv_iload_n hx hb dX3_bell_7 rfl (lv_at hl 3 rfl) ?_
  refine xtV (As := [.int y]) (rest := []) ⟨hx, hb, hml, hown, hts⟩ (cX3_checkPlace_ l hst9 D cI cC ad _ n ch rg hn8 y) (cwV 1 hts gX3_bell_X3_checkPlace rfl rfl rfl (by decide +kernel) ⟨Nat.le_of_ble_eq_true rfl, Nat.le_of_ble_eq_true rfl⟩) hK ((hZ.kept hS.2.1).narrow (fun q h => h.elim)) ⟨rfl, hO⟩ (xRecv hK rfl hO) rfl hl.1 rfl (Nat.le_of_ble_eq_true rfl) dX3_bell_8 ⟨(by show 0 + 1 + 1 ≤ 10; omega), (by show 0 + 6 + 6 ≤ 60; omega)⟩ hS (fun q h => h.elim) (fun q h => h.elim) (fun E ce q9 H1 locs1 hB hz9 hk9 hS h1 h2 h3 => ?_) (fun u H1 locs1 hp hF hz9 hk8 hS => ?_)
  · obtain ⟨rfl, hn⟩ := hB
    exact x_pass htb hlocks h1 h2 h3 ⟨⟨if_neg (fun z => hn z.2), rfl⟩, (xXW_old hW (fun x9 hx9 => hk9 x9 hx9 id))⟩ hS (fun _ h => h) (by omega) (by omega)
  obtain rfl := hF
  have hi8 := hp
  obtain ⟨j2, hj2, hj2b, rfl⟩ := inR_of hi8
  have hl : lv_has ls 4 [(3, .ref (ad (10 + j1))), (0, .ref (ad 0)), (1, .int (nI j1)), (2, .int (nI j2))] := hl
  refine lv_aload_n hx hb dX3_bell_11 rfl (lv_at hl 0 rfl) ?_
  refine lv_iload_n hx hb dX3_bell_12 rfl (lv_at hl 3 rfl) ?_
  refine xcV (As := [.int (nI j2)]) (rest := []) ⟨hx, hb, hml, hown, hts⟩ (cX0_bellAt_ l D cI cC (ad (10 + j1)) (ad (26 + j1)) n (pm j1) j2 (by omega)) (cwV 1 hts gX3_bell_X0_bellAt rfl rfl rfl (by decide +kernel) ⟨Nat.le_of_ble_eq_true rfl, Nat.le_of_ble_eq_true rfl⟩) hK hC1 (xRecv hK rfl hC1.1) rfl hl.1 rfl (Nat.le_of_ble_eq_true rfl) dX3_bell_13 ⟨(by show 0 + 1 + 1 ≤ 10; omega), (by show 0 + 6 + 6 ≤ 60; omega)⟩ (fun x13 e13 => ?_)
  subst e13
  have ht : tBell (n, ch, pm, st, kf, rg) (nI j1) (nI j2) = 0 := if_pos ⟨hi2, hi8⟩
  refine W.widen (k := 10) (n := 60) (by omega) (by omega) ?_
  refine vx_ret ?_
  exact x_miret hx hb hr hlocks () ⟨ht, (by show nI _ = rBell _ _ _; unfold rBell; simp only [xN_nI hj1b, xN_nI hj2b])⟩ (xXW_mk (S := (n, ch, pm, st, kf, rg)) hO hBk hMe hRu hfr hMa hfm hRs hCs hz) hS (fun _ h => h) dX3_bell_16

set_option maxRecDepth 100000 in
set_option maxHeartbeats 4000000 in
theorem kRound_ (l : Launch) (hst9 : l.stackTraces = false) (D : va_G) (cI cC : ClassId) (ad : Nat → Nat) (hj : xInj ad) (S : AS) (hI : AI S) (x : Int32) (y : Int32) : vx_Met l yX3_round wsX3_round (xRm 14 10 60) (va_Pc [.ref (ad 0), .int x, .int y] (xBZ D cI cC (xXW D cI cC ad S) (xAD ad))) (xI (fun r (_ : Unit) => tBell S x y = 0 ∧ r = rRound S x y) (fun _ H => xXW D cI cC ad (S) H) (xAD ad)) (xX (xAD ad) (fun E H => (tBell S x y = 1 ∧ E = xEI) ∧ xXW D cI cC ad S H)) 10 60 (xAD ad) := by
  obtain ⟨n, ch, pm, st, kf, rg⟩ := S
  obtain ⟨⟨hn2, hn8⟩, hch, hst, hpm8, hpm, hkv, hkb⟩ := id hI
  dsimp only at hn2 hn8 hch hst hpm8 hpm hkv hkb
  refine vx_ofW (cc := cX3_round) (maxL := 4) (ret := (some .int)) (by decide) rfl ?_
  intro p e s m args below meth c s₁ B hml htb hv
  obtain ⟨rfl, hP, hK, hZ⟩ := hv
  have hx := B.exec
  have hb := B.bytes
  have hr := B.returns
  have hts := atoms_spec (ws := wsX3_round) B.pre
  have hown : s.vm.findClass RX3 = some m.cls := findClass_of_methodNamed B.named
  have hlocks := B.notSynchronized
  have hW := hP
  have hl := lv_entry ([.ref (ad 0), .int x, .int y]) (n := 4) (Nat.le_of_ble_eq_true rfl)
  rw [lg_entry_eq]
  generalize (lg_sl ([.ref (ad 0), .int x, .int y]) ++ List.replicate (4 - (lg_sl ([.ref (ad 0), .int x, .int y])).length) Slot.unset).toArray = ls at hl ⊢
  have hl : lv_has ls 4 [(0, .ref (ad 0)), (1, .int x), (2, .int y)] := hl
  obtain ⟨zr, zm, zs, fr, fm, fs, zf, hO, hBk, hMe, hRu, hfr, hMa, hfm, hRs, hCs, hz⟩ := id hW
  have hO : xXO D ad n ch rg s.heap := hO
  have hMe : xMe D cI (ad 2) (ad 3) st kf s.heap := hMe
  have hCs : xXC D cI ad zf pm s.heap := hCs
  have hz : ∀ k, k < ch → zf k = n := hz
  have hS : va_S (xAD ad) s.heap s.heap [] := va_S.rf
  refine lv_aload_n hx hb dX3_round_0 rfl (lv_at hl 0 rfl) ?_
  refine lv_iload_n hx hb dX3_round_1 rfl (lv_at hl 1 rfl) ?_
  refine xtR (As := [.int x]) (rest := []) ⟨hx, hb, hml, hown, hts⟩ (cX3_find_ l hst9 D cI cC ad _ n ch rg (by omega) x) (cwV 1 hts gX3_round_X3_find rfl rfl rfl (by decide +kernel) ⟨Nat.le_of_ble_eq_true rfl, Nat.le_of_ble_eq_true rfl⟩) hK ((hZ.kept hS.2.1).narrow (fun q h => h.elim)) ⟨rfl, hO, hBk⟩ (xRecv hK rfl hO) rfl hl.1 rfl (Nat.le_of_ble_eq_true rfl) dX3_round_2 ⟨(by show 0 + 1 ≤ 10; omega), (by show 0 + 6 ≤ 60; omega)⟩ hS (fun q h => h.elim) (fun q h => h.elim) (fun E ce q9 H1 locs1 hB hz9 hk9 hS h1 h2 h3 => ?_) (fun u ra H1 locs1 hp hF hz9 hk2 hS => ?_)
  · obtain ⟨rfl, hn⟩ := hB
    exact x_pass htb hlocks h1 h2 h3 ⟨⟨if_neg (fun z => hn z.1), rfl⟩, (xXW_old hW (fun x9 hx9 => hk9 x9 hx9 id))⟩ hS (fun _ h => h) (by omega) (by omega)
  obtain ⟨rfl, hra⟩ := hF
  have hi2 := hp
  obtain ⟨j1, hj1, hj1b, rfl⟩ := inR_of hp
  rw [xN_nI hj1b] at hra
  subst hra
  have hl : lv_has ls 4 [(0, .ref (ad 0)), (1, .int (nI j1)), (2, .int y)] := hl
  have hC1 : xCh D cI (ad (10 + j1)) (ad (26 + j1)) n (pm j1) s.heap := xXC_at hCs (show j1 < 16 by omega) (hz j1 hj1)
  refine lv_astore_n (lv' := [(3, .ref (ad (10 + j1))), (0, .ref (ad 0)), (1, .int (nI j1)), (2, .int y)]) hx hb dX3_round_5 rfl hl (by decide) rfl (fun ls hl => ?_)
  refine lv_aload_n hx hb dX3_round_6 rfl (lv_at hl 1 rfl) ?_
  refine lv_iload_n hx hb dX3_round_7 rfl (lv_at hl 3 rfl) ?_
  refine xtV (As := [.int y]) (rest := []) ⟨hx, hb, hml, hown, hts⟩ (cX3_checkPlace_ l hst9 D cI cC ad _ n ch rg hn8 y) (cwV 1 hts gX3_round_X3_checkPlace rfl rfl rfl (by decide +kernel) ⟨Nat.le_of_ble_eq_true rfl, Nat.le_of_ble_eq_true rfl⟩) hK ((hZ.kept hS.2.1).narrow (fun q h => h.elim)) ⟨rfl, hO⟩ (xRecv hK rfl hO) rfl hl.1 rfl (Nat.le_of_ble_eq_true rfl) dX3_round_8 ⟨(by show 0 + 1 + 1 ≤ 10; omega), (by show 0 + 6 + 6 ≤ 60; omega)⟩ hS (fun q h => h.elim) (fun q h => h.elim) (fun E ce q9 H1 locs1 hB hz9 hk9 hS h1 h2 h3 => ?_) (fun u H1 locs1 hp hF hz9 hk8 hS => ?_)
  · obtain ⟨rfl, hn⟩ := hB
    exact x_pass htb hlocks h1 h2 h3 ⟨⟨if_neg (fun z => hn z.2), rfl⟩, (xXW_old hW (fun x9 hx9 => hk9 x9 hx9 id))⟩ hS (fun _ h => h) (by omega) (by omega)
  obtain rfl := hF
  have hi8 := hp
  obtain ⟨j2, hj2, hj2b, rfl⟩ := inR_of hi8
  have hl : lv_has ls 4 [(3, .ref (ad (10 + j1))), (0, .ref (ad 0)), (1, .int (nI j1)), (2, .int (nI j2))] := hl
  refine lv_aload_n hx hb dX3_round_11 rfl (lv_at hl 0 rfl) ?_
  refine lv_iload_n hx hb dX3_round_12 rfl (lv_at hl 3 rfl) ?_
  refine xcV (As := [.int (nI j2)]) (rest := []) ⟨hx, hb, hml, hown, hts⟩ (cX0_ringLength_ l D cI cC (ad (10 + j1)) (ad (26 + j1)) n (pm j1) hn8 (hpm8 j1) j2 (by omega)) (cwV 1 hts gX3_round_X0_ringLength rfl rfl rfl (by decide +kernel) ⟨Nat.le_of_ble_eq_true rfl, Nat.le_of_ble_eq_true rfl⟩) hK hC1 (xRecv hK rfl hC1.1) rfl hl.1 rfl (Nat.le_of_ble_eq_true rfl) dX3_round_13 ⟨(by show 0 + 1 + 1 ≤ 10; omega), (by show 0 + 6 + 6 ≤ 60; omega)⟩ (fun x13 e13 => ?_)
  subst e13
  have ht : tBell (n, ch, pm, st, kf, rg) (nI j1) (nI j2) = 0 := if_pos ⟨hi2, hi8⟩
  refine W.widen (k := 10) (n := 60) (by omega) (by omega) ?_
  refine vx_ret ?_
  exact x_miret hx hb hr hlocks () ⟨ht, (by show nI _ = rRound _ _ _; unfold rRound; simp only [xN_nI hj1b, xN_nI hj2b])⟩ (xXW_mk (S := (n, ch, pm, st, kf, rg)) hO hBk hMe hRu hfr hMa hfm hRs hCs hz) hS (fun _ h => h) dX3_round_16

set_option maxRecDepth 100000 in
set_option maxHeartbeats 4000000 in
theorem kTold_ (l : Launch) (hst9 : l.stackTraces = false) (D : va_G) (cI cC : ClassId) (ad : Nat → Nat) (hj : xInj ad) (S : AS) (hI : AI S) (x : Int32) (y : Int32) : vx_Met l yX3_told wsX3_told (xRm 14 10 60) (va_Pc [.ref (ad 0), .int x, .int y] (xBZ D cI cC (xXW D cI cC ad S) (xAD ad))) (xI (fun r (_ : Unit) => tTold S x y = 0 ∧ r = rTold S x y) (fun _ H => xXW D cI cC ad (S) H) (xAD ad)) (xX (xAD ad) (fun E H => (tTold S x y = 1 ∧ E = xEI) ∧ xXW D cI cC ad S H)) 10 60 (xAD ad) := by
  obtain ⟨n, ch, pm, st, kf, rg⟩ := S
  obtain ⟨⟨hn2, hn8⟩, hch, hst, hpm8, hpm, hkv, hkb⟩ := id hI
  dsimp only at hn2 hn8 hch hst hpm8 hpm hkv hkb
  refine vx_ofW (cc := cX3_told) (maxL := 4) (ret := (some .int)) (by decide) rfl ?_
  intro p e s m args below meth c s₁ B hml htb hv
  obtain ⟨rfl, hP, hK, hZ⟩ := hv
  have hx := B.exec
  have hb := B.bytes
  have hr := B.returns
  have hts := atoms_spec (ws := wsX3_told) B.pre
  have hown : s.vm.findClass RX3 = some m.cls := findClass_of_methodNamed B.named
  have hlocks := B.notSynchronized
  have hW := hP
  have hl := lv_entry ([.ref (ad 0), .int x, .int y]) (n := 4) (Nat.le_of_ble_eq_true rfl)
  rw [lg_entry_eq]
  generalize (lg_sl ([.ref (ad 0), .int x, .int y]) ++ List.replicate (4 - (lg_sl ([.ref (ad 0), .int x, .int y])).length) Slot.unset).toArray = ls at hl ⊢
  have hl : lv_has ls 4 [(0, .ref (ad 0)), (1, .int x), (2, .int y)] := hl
  obtain ⟨zr, zm, zs, fr, fm, fs, zf, hO, hBk, hMe, hRu, hfr, hMa, hfm, hRs, hCs, hz⟩ := id hW
  have hO : xXO D ad n ch rg s.heap := hO
  have hMe : xMe D cI (ad 2) (ad 3) st kf s.heap := hMe
  have hCs : xXC D cI ad zf pm s.heap := hCs
  have hz : ∀ k, k < ch → zf k = n := hz
  have hS : va_S (xAD ad) s.heap s.heap [] := va_S.rf
  refine lv_aload_n hx hb dX3_told_0 rfl (lv_at hl 0 rfl) ?_
  refine lv_iload_n hx hb dX3_told_1 rfl (lv_at hl 1 rfl) ?_
  refine xtR (As := [.int x]) (rest := []) ⟨hx, hb, hml, hown, hts⟩ (cX3_find_ l hst9 D cI cC ad _ n ch rg (by omega) x) (cwV 1 hts gX3_told_X3_find rfl rfl rfl (by decide +kernel) ⟨Nat.le_of_ble_eq_true rfl, Nat.le_of_ble_eq_true rfl⟩) hK ((hZ.kept hS.2.1).narrow (fun q h => h.elim)) ⟨rfl, hO, hBk⟩ (xRecv hK rfl hO) rfl hl.1 rfl (Nat.le_of_ble_eq_true rfl) dX3_told_2 ⟨(by show 0 + 1 ≤ 10; omega), (by show 0 + 6 ≤ 60; omega)⟩ hS (fun q h => h.elim) (fun q h => h.elim) (fun E ce q9 H1 locs1 hB hz9 hk9 hS h1 h2 h3 => ?_) (fun u ra H1 locs1 hp hF hz9 hk2 hS => ?_)
  · obtain ⟨rfl, hn⟩ := hB
    exact x_pass htb hlocks h1 h2 h3 ⟨⟨if_neg (fun z => hn z.1), rfl⟩, (xXW_old hW (fun x9 hx9 => hk9 x9 hx9 id))⟩ hS (fun _ h => h) (by omega) (by omega)
  obtain ⟨rfl, hra⟩ := hF
  have hi2 := hp
  obtain ⟨j1, hj1, hj1b, rfl⟩ := inR_of hp
  rw [xN_nI hj1b] at hra
  subst hra
  have hl : lv_has ls 4 [(0, .ref (ad 0)), (1, .int (nI j1)), (2, .int y)] := hl
  have hC1 : xCh D cI (ad (10 + j1)) (ad (26 + j1)) n (pm j1) s.heap := xXC_at hCs (show j1 < 16 by omega) (hz j1 hj1)
  refine lv_astore_n (lv' := [(3, .ref (ad (10 + j1))), (0, .ref (ad 0)), (1, .int (nI j1)), (2, .int y)]) hx hb dX3_told_5 rfl hl (by decide) rfl (fun ls hl => ?_)
  refine lv_iload_n hx hb dX3_told_6 rfl (lv_at hl 3 rfl) ?_
  by_cases hy : inR y 8
  · obtain ⟨w, hw, hwb, rfl⟩ := inR_of hy
    have hl : lv_has ls 4 [(3, .ref (ad (10 + j1))), (0, .ref (ad 0)), (1, .int (nI j1)), (2, .int (nI w))] := hl
    rcases (show w = 0 ∨ w = 1 ∨ w = 2 ∨ w = 3 ∨ w = 4 ∨ w = 5 ∨ w = 6 ∨ w = 7 by omega) with rfl | rfl | rfl | rfl | rfl | rfl | rfl | rfl
    · refine lv_tableIn (off := 45) (tgt := 52) hx hb dX3_told_7 (by decide) (by decide) rfl (by decide) ?_
      have hl : lv_has ls 4 [(3, .ref (ad (10 + j1))), (0, .ref (ad 0)), (1, .int (nI j1)), (2, .int (nI 0))] := hl
      refine lv_aload_n hx hb dX3_told_52 rfl (lv_at hl 0 rfl) ?_
      refine xcV (As := []) (rest := []) ⟨hx, hb, hml, hown, hts⟩ (cX0_rank_ l D cI cC (ad (10 + j1)) (ad (26 + j1)) n (pm j1) hn8 (fun i9 => Nat.lt_trans ((hpm8 j1) i9) (by decide))) (cwV 0 hts gX3_told_X0_rank rfl rfl rfl (by decide +kernel) ⟨Nat.le_of_ble_eq_true rfl, Nat.le_of_ble_eq_true rfl⟩) hK hC1 (xRecv hK rfl hC1.1) rfl hl.1 rfl (Nat.le_of_ble_eq_true rfl) dX3_told_53 ⟨(by show 0 + 1 ≤ 10; omega), (by show 0 + 6 ≤ 60; omega)⟩ (fun x53 e53 => ?_)
      subst e53
      have ht : tTold (n, ch, pm, st, kf, rg) (nI j1) (nI 0) = 0 := if_pos ⟨hi2, hy⟩
      refine W.widen (k := 10) (n := 60) (by omega) (by omega) ?_
      refine vx_ret ?_
      exact x_miret hx hb hr hlocks () ⟨ht, (by show nI _ = rTold _ _ _; unfold rTold; simp only [xN_nI hj1b, xN_nI (show 0 < 2 ^ 31 by decide)]; rfl)⟩ (xXW_mk (S := (n, ch, pm, st, kf, rg)) hO hBk hMe hRu hfr hMa hfm hRs hCs hz) hS (fun _ h => h) dX3_told_56
    · refine lv_tableIn (off := 50) (tgt := 57) hx hb dX3_told_7 (by decide) (by decide) rfl (by decide) ?_
      have hl : lv_has ls 4 [(3, .ref (ad (10 + j1))), (0, .ref (ad 0)), (1, .int (nI j1)), (2, .int (nI 1))] := hl
      refine lv_aload_n hx hb dX3_told_57 rfl (lv_at hl 0 rfl) ?_
      refine xcV (As := []) (rest := []) ⟨hx, hb, hml, hown, hts⟩ (cX0_inversions_ l D cI cC (ad (10 + j1)) (ad (26 + j1)) n (pm j1) hn8 (fun i9 => Nat.lt_trans ((hpm8 j1) i9) (by decide))) (cwV 0 hts gX3_told_X0_inversions rfl rfl rfl (by decide +kernel) ⟨Nat.le_of_ble_eq_true rfl, Nat.le_of_ble_eq_true rfl⟩) hK hC1 (xRecv hK rfl hC1.1) rfl hl.1 rfl (Nat.le_of_ble_eq_true rfl) dX3_told_58 ⟨(by show 0 + 1 ≤ 10; omega), (by show 0 + 6 ≤ 60; omega)⟩ (fun x58 e58 => ?_)
      subst e58
      have ht : tTold (n, ch, pm, st, kf, rg) (nI j1) (nI 1) = 0 := if_pos ⟨hi2, hy⟩
      refine W.widen (k := 10) (n := 60) (by omega) (by omega) ?_
      refine vx_ret ?_
      exact x_miret hx hb hr hlocks () ⟨ht, (by show nI _ = rTold _ _ _; unfold rTold; simp only [xN_nI hj1b, xN_nI (show 1 < 2 ^ 31 by decide)]; rfl)⟩ (xXW_mk (S := (n, ch, pm, st, kf, rg)) hO hBk hMe hRu hfr hMa hfm hRs hCs hz) hS (fun _ h => h) dX3_told_61
    · refine lv_tableIn (off := 55) (tgt := 62) hx hb dX3_told_7 (by decide) (by decide) rfl (by decide) ?_
      have hl : lv_has ls 4 [(3, .ref (ad (10 + j1))), (0, .ref (ad 0)), (1, .int (nI j1)), (2, .int (nI 2))] := hl
      refine lv_aload_n hx hb dX3_told_62 rfl (lv_at hl 0 rfl) ?_
      refine xcV (As := []) (rest := []) ⟨hx, hb, hml, hown, hts⟩ (cX0_inversions_ l D cI cC (ad (10 + j1)) (ad (26 + j1)) n (pm j1) hn8 (fun i9 => Nat.lt_trans ((hpm8 j1) i9) (by decide))) (cwV 0 hts gX3_told_X0_inversions rfl rfl rfl (by decide +kernel) ⟨Nat.le_of_ble_eq_true rfl, Nat.le_of_ble_eq_true rfl⟩) hK hC1 (xRecv hK rfl hC1.1) rfl hl.1 rfl (Nat.le_of_ble_eq_true rfl) dX3_told_63 ⟨(by show 0 + 1 ≤ 10; omega), (by show 0 + 6 ≤ 60; omega)⟩ (fun x63 e63 => ?_)
      subst e63
      refine xn_iconst (v := 1) hx hb dX3_told_66 (by decide) ?_
      refine lv_iand hx hb dX3_told_67 ?_
      refine xz_i (xand1 (Nat.lt_of_le_of_lt (ivs_le _ _) (by have h9 : n * n ≤ 8 * 8 := Nat.mul_le_mul hn8 hn8; omega))) ?_
      have ht : tTold (n, ch, pm, st, kf, rg) (nI j1) (nI 2) = 0 := if_pos ⟨hi2, hy⟩
      refine W.widen (k := 10) (n := 60) (by omega) (by omega) ?_
      refine vx_ret ?_
      exact x_miret hx hb hr hlocks () ⟨ht, (by show nI _ = rTold _ _ _; unfold rTold; simp only [xN_nI hj1b, xN_nI (show 2 < 2 ^ 31 by decide)]; rfl)⟩ (xXW_mk (S := (n, ch, pm, st, kf, rg)) hO hBk hMe hRu hfr hMa hfm hRs hCs hz) hS (fun _ h => h) dX3_told_68
    · refine lv_tableIn (off := 62) (tgt := 69) hx hb dX3_told_7 (by decide) (by decide) rfl (by decide) ?_
      have hl : lv_has ls 4 [(3, .ref (ad (10 + j1))), (0, .ref (ad 0)), (1, .int (nI j1)), (2, .int (nI 3))] := hl
      refine lv_aload_n hx hb dX3_told_69 rfl (lv_at hl 0 rfl) ?_
      refine xcV (As := []) (rest := []) ⟨hx, hb, hml, hown, hts⟩ (cX0_ringCount_ l D cI cC (ad (10 + j1)) (ad (26 + j1)) n (pm j1) hn8 (hpm8 j1)) (cwV 0 hts gX3_told_X0_ringCount rfl rfl rfl (by decide +kernel) ⟨Nat.le_of_ble_eq_true rfl, Nat.le_of_ble_eq_true rfl⟩) hK hC1 (xRecv hK rfl hC1.1) rfl hl.1 rfl (Nat.le_of_ble_eq_true rfl) dX3_told_70 ⟨(by show 0 + 1 ≤ 10; omega), (by show 0 + 6 ≤ 60; omega)⟩ (fun x70 e70 => ?_)
      subst e70
      have ht : tTold (n, ch, pm, st, kf, rg) (nI j1) (nI 3) = 0 := if_pos ⟨hi2, hy⟩
      refine W.widen (k := 10) (n := 60) (by omega) (by omega) ?_
      refine vx_ret ?_
      exact x_miret hx hb hr hlocks () ⟨ht, (by show nI _ = rTold _ _ _; unfold rTold; simp only [xN_nI hj1b, xN_nI (show 3 < 2 ^ 31 by decide)]; rfl)⟩ (xXW_mk (S := (n, ch, pm, st, kf, rg)) hO hBk hMe hRu hfr hMa hfm hRs hCs hz) hS (fun _ h => h) dX3_told_73
    · refine lv_tableIn (off := 67) (tgt := 74) hx hb dX3_told_7 (by decide) (by decide) rfl (by decide) ?_
      have hl : lv_has ls 4 [(3, .ref (ad (10 + j1))), (0, .ref (ad 0)), (1, .int (nI j1)), (2, .int (nI 4))] := hl
      refine lv_aload_n hx hb dX3_told_74 rfl (lv_at hl 0 rfl) ?_
      refine xcV (As := []) (rest := []) ⟨hx, hb, hml, hown, hts⟩ (cX0_longestRing_ l D cI cC (ad (10 + j1)) (ad (26 + j1)) n (pm j1) hn8 (hpm8 j1)) (cwV 0 hts gX3_told_X0_longestRing rfl rfl rfl (by decide +kernel) ⟨Nat.le_of_ble_eq_true rfl, Nat.le_of_ble_eq_true rfl⟩) hK hC1 (xRecv hK rfl hC1.1) rfl hl.1 rfl (Nat.le_of_ble_eq_true rfl) dX3_told_75 ⟨(by show 0 + 1 ≤ 10; omega), (by show 0 + 6 ≤ 60; omega)⟩ (fun x75 e75 => ?_)
      subst e75
      have ht : tTold (n, ch, pm, st, kf, rg) (nI j1) (nI 4) = 0 := if_pos ⟨hi2, hy⟩
      refine W.widen (k := 10) (n := 60) (by omega) (by omega) ?_
      refine vx_ret ?_
      exact x_miret hx hb hr hlocks () ⟨ht, (by show nI _ = rTold _ _ _; unfold rTold; simp only [xN_nI hj1b, xN_nI (show 4 < 2 ^ 31 by decide)]; rfl)⟩ (xXW_mk (S := (n, ch, pm, st, kf, rg)) hO hBk hMe hRu hfr hMa hfm hRs hCs hz) hS (fun _ h => h) dX3_told_78
    · refine lv_tableIn (off := 72) (tgt := 79) hx hb dX3_told_7 (by decide) (by decide) rfl (by decide) ?_
      have hl : lv_has ls 4 [(3, .ref (ad (10 + j1))), (0, .ref (ad 0)), (1, .int (nI j1)), (2, .int (nI 5))] := hl
      refine lv_aload_n hx hb dX3_told_79 rfl (lv_at hl 0 rfl) ?_
      refine xcV (As := []) (rest := []) ⟨hx, hb, hml, hown, hts⟩ (cX0_order_ l D cI cC (ad (10 + j1)) (ad (26 + j1)) n (pm j1) hn8 (hpm8 j1) (fun i9 h9 => Nat.lt_trans (ord_ok hn8 i9 h9).2.1 (by decide))) (cwV 0 hts gX3_told_X0_order rfl rfl rfl (by decide +kernel) ⟨Nat.le_of_ble_eq_true rfl, Nat.le_of_ble_eq_true rfl⟩) hK hC1 (xRecv hK rfl hC1.1) rfl hl.1 rfl (Nat.le_of_ble_eq_true rfl) dX3_told_80 ⟨(by show 0 + 1 ≤ 10; omega), (by show 0 + 6 ≤ 60; omega)⟩ (fun x80 e80 => ?_)
      subst e80
      have ht : tTold (n, ch, pm, st, kf, rg) (nI j1) (nI 5) = 0 := if_pos ⟨hi2, hy⟩
      refine W.widen (k := 10) (n := 60) (by omega) (by omega) ?_
      refine vx_ret ?_
      exact x_miret hx hb hr hlocks () ⟨ht, (by show nI _ = rTold _ _ _; unfold rTold; simp only [xN_nI hj1b, xN_nI (show 5 < 2 ^ 31 by decide)]; rfl)⟩ (xXW_mk (S := (n, ch, pm, st, kf, rg)) hO hBk hMe hRu hfr hMa hfm hRs hCs hz) hS (fun _ h => h) dX3_told_83
    · refine lv_tableIn (off := 77) (tgt := 84) hx hb dX3_told_7 (by decide) (by decide) rfl (by decide) ?_
      have hl : lv_has ls 4 [(3, .ref (ad (10 + j1))), (0, .ref (ad 0)), (1, .int (nI j1)), (2, .int (nI 6))] := hl
      refine lv_aload_n hx hb dX3_told_84 rfl (lv_at hl 0 rfl) ?_
      refine xcV (As := []) (rest := []) ⟨hx, hb, hml, hown, hts⟩ (cX0_ownPlaces_ l D cI cC (ad (10 + j1)) (ad (26 + j1)) n (pm j1) hn8 (fun i9 => Nat.lt_trans ((hpm8 j1) i9) (by decide))) (cwV 0 hts gX3_told_X0_ownPlaces rfl rfl rfl (by decide +kernel) ⟨Nat.le_of_ble_eq_true rfl, Nat.le_of_ble_eq_true rfl⟩) hK hC1 (xRecv hK rfl hC1.1) rfl hl.1 rfl (Nat.le_of_ble_eq_true rfl) dX3_told_85 ⟨(by show 0 + 1 ≤ 10; omega), (by show 0 + 6 ≤ 60; omega)⟩ (fun x85 e85 => ?_)
      subst e85
      have ht : tTold (n, ch, pm, st, kf, rg) (nI j1) (nI 6) = 0 := if_pos ⟨hi2, hy⟩
      refine W.widen (k := 10) (n := 60) (by omega) (by omega) ?_
      refine vx_ret ?_
      exact x_miret hx hb hr hlocks () ⟨ht, (by show nI _ = rTold _ _ _; unfold rTold; simp only [xN_nI hj1b, xN_nI (show 6 < 2 ^ 31 by decide)]; rfl)⟩ (xXW_mk (S := (n, ch, pm, st, kf, rg)) hO hBk hMe hRu hfr hMa hfm hRs hCs hz) hS (fun _ h => h) dX3_told_88
    · refine lv_tableIn (off := 82) (tgt := 89) hx hb dX3_told_7 (by decide) (by decide) rfl (by decide) ?_
      have hl : lv_has ls 4 [(3, .ref (ad (10 + j1))), (0, .ref (ad 0)), (1, .int (nI j1)), (2, .int (nI 7))] := hl
      refine lv_aload_n hx hb dX3_told_89 rfl (lv_at hl 0 rfl) ?_
      refine xn_iconst (v := 0) hx hb dX3_told_90 (by decide) ?_
      refine xcV (As := [.int (nI 0)]) (rest := []) ⟨hx, hb, hml, hown, hts⟩ (cX0_placeOf_ l D cI cC (ad (10 + j1)) (ad (26 + j1)) n (pm j1) hn8 (fun i9 => Nat.lt_trans ((hpm8 j1) i9) (by decide)) 0 (by decide)) (cwV 1 hts gX3_told_X0_placeOf rfl rfl rfl (by decide +kernel) ⟨Nat.le_of_ble_eq_true rfl, Nat.le_of_ble_eq_true rfl⟩) hK hC1 (xRecv hK rfl hC1.1) rfl hl.1 rfl (Nat.le_of_ble_eq_true rfl) dX3_told_91 ⟨(by show 0 + 1 ≤ 10; omega), (by show 0 + 6 ≤ 60; omega)⟩ (fun x91 e91 => ?_)
      subst e91
      have ht : tTold (n, ch, pm, st, kf, rg) (nI j1) (nI 7) = 0 := if_pos ⟨hi2, hy⟩
      refine W.widen (k := 10) (n := 60) (by omega) (by omega) ?_
      refine vx_ret ?_
      exact x_miret hx hb hr hlocks () ⟨ht, (by show nI _ = rTold _ _ _; unfold rTold; simp only [xN_nI hj1b, xN_nI (show 7 < 2 ^ 31 by decide)]; rfl)⟩ (xXW_mk (S := (n, ch, pm, st, kf, rg)) hO hBk hMe hRu hfr hMa hfm hRs hCs hz) hS (fun _ h => h) dX3_told_94
  have hn := hy
  refine lv_tableOut (tgt := 95) hx hb dX3_told_7 (nin_toInt (N := 8) (by decide) hy) (by decide) ?_
  exact x_throw (cls := xEI) (text := "what is not 0 to 7") (ik := 61) (is := 152) (ic := 65) hx hb hst9 hts hown htb hlocks hZ hS (hl.1.trans hml.symm) (by decide +kernel) (by decide +kernel) (by decide +kernel) xbad_I (by decide +kernel) xgood_I (by decide) dX3_told_95 dX3_told_98 dX3_told_99 dX3_told_101 dX3_told_104 (Nat.le_of_ble_eq_true rfl) (Nat.le_of_ble_eq_true rfl) (by show 0 + 1 + 1 ≤ 10; omega) (by show 0 + 6 + 6 ≤ 60; omega) (fun H1 _ ho => ⟨⟨if_neg (fun z => hn z.2), rfl⟩, xXW_old hW ho⟩) (fun _ h => h) (by omega) (by omega)

set_option maxRecDepth 100000 in
set_option maxHeartbeats 4000000 in
theorem kApart_ (l : Launch) (hst9 : l.stackTraces = false) (D : va_G) (cI cC : ClassId) (ad : Nat → Nat) (hj : xInj ad) (S : AS) (hI : AI S) (x : Int32) (y : Int32) : vx_Met l yX3_apart wsX3_apart (xRm 14 10 60) (va_Pc [.ref (ad 0), .int x, .int y] (xBZ D cI cC (xXW D cI cC ad S) (xAD ad))) (xI (fun r (_ : Unit) => tTwo S x y = 0 ∧ r = rApart S x y) (fun _ H => xXW D cI cC ad (S) H) (xAD ad)) (xX (xAD ad) (fun E H => (tTwo S x y = 1 ∧ E = xEI) ∧ xXW D cI cC ad S H)) 10 60 (xAD ad) := by
  obtain ⟨n, ch, pm, st, kf, rg⟩ := S
  obtain ⟨⟨hn2, hn8⟩, hch, hst, hpm8, hpm, hkv, hkb⟩ := id hI
  dsimp only at hn2 hn8 hch hst hpm8 hpm hkv hkb
  refine vx_ofW (cc := cX3_apart) (maxL := 8) (ret := (some .int)) (by decide) rfl ?_
  intro p e s m args below meth c s₁ B hml htb hv
  obtain ⟨rfl, hP, hK, hZ⟩ := hv
  have hx := B.exec
  have hb := B.bytes
  have hr := B.returns
  have hts := atoms_spec (ws := wsX3_apart) B.pre
  have hown : s.vm.findClass RX3 = some m.cls := findClass_of_methodNamed B.named
  have hlocks := B.notSynchronized
  have hW := hP
  have hl := lv_entry ([.ref (ad 0), .int x, .int y]) (n := 8) (Nat.le_of_ble_eq_true rfl)
  rw [lg_entry_eq]
  generalize (lg_sl ([.ref (ad 0), .int x, .int y]) ++ List.replicate (8 - (lg_sl ([.ref (ad 0), .int x, .int y])).length) Slot.unset).toArray = ls at hl ⊢
  have hl : lv_has ls 8 [(0, .ref (ad 0)), (1, .int x), (2, .int y)] := hl
  obtain ⟨zr, zm, zs, fr, fm, fs, zf, hO, hBk, hMe, hRu, hfr, hMa, hfm, hRs, hCs, hz⟩ := id hW
  have hO : xXO D ad n ch rg s.heap := hO
  have hMe : xMe D cI (ad 2) (ad 3) st kf s.heap := hMe
  have hCs : xXC D cI ad zf pm s.heap := hCs
  have hz : ∀ k, k < ch → zf k = n := hz
  have hS : va_S (xAD ad) s.heap s.heap [] := va_S.rf
  
  refine lv_aload_n hx hb dX3_apart_0 rfl (lv_at hl 0 rfl) ?_
  refine lv_iload_n hx hb dX3_apart_1 rfl (lv_at hl 1 rfl) ?_
  refine xtR (As := [.int x]) (rest := []) ⟨hx, hb, hml, hown, hts⟩ (cX3_find_ l hst9 D cI cC ad _ n ch rg (by omega) x) (cwV 1 hts gX3_apart_X3_find rfl rfl rfl (by decide +kernel) ⟨Nat.le_of_ble_eq_true rfl, Nat.le_of_ble_eq_true rfl⟩) hK ((hZ.kept hS.2.1).narrow (fun q h => h.elim)) ⟨rfl, hO, hBk⟩ (xRecv hK rfl hO) rfl hl.1 rfl (Nat.le_of_ble_eq_true rfl) dX3_apart_2 ⟨(by show 0 + 1 ≤ 10; omega), (by show 0 + 6 ≤ 60; omega)⟩ hS (fun q h => h.elim) (fun q h => h.elim) (fun E ce q9 H1 locs1 hB hz9 hk9 hS h1 h2 h3 => ?_) (fun u ra H1 locs1 hp hF hz9 hk2 hS => ?_)
  · obtain ⟨rfl, hn⟩ := hB
    exact x_pass htb hlocks h1 h2 h3 ⟨⟨if_neg (fun z => hn z.1), rfl⟩, (xXW_old hW (fun x9 hx9 => hk9 x9 hx9 id))⟩ hS (fun _ h => h) (by omega) (by omega)
  obtain ⟨rfl, hra⟩ := hF
  have hi2 := hp
  obtain ⟨j1, hj1, hj1b, rfl⟩ := inR_of hp
  rw [xN_nI hj1b] at hra
  subst hra
  have hl : lv_has ls 8 [(0, .ref (ad 0)), (1, .int (nI j1)), (2, .int y)] := hl
  have hC1 : xCh D cI (ad (10 + j1)) (ad (26 + j1)) n (pm j1) s.heap := xXC_at hCs (show j1 < 16 by omega) (hz j1 hj1)
  refine lv_astore_n (lv' := [(3, .ref (ad (10 + j1))), (0, .ref (ad 0)), (1, .int (nI j1)), (2, .int y)]) hx hb dX3_apart_5 rfl hl (by decide) rfl (fun ls hl => ?_)
  refine lv_aload_n hx hb dX3_apart_6 rfl (lv_at hl 1 rfl) ?_
  refine lv_iload_n hx hb dX3_apart_7 rfl (lv_at hl 3 rfl) ?_
  refine xtR (As := [.int y]) (rest := []) ⟨hx, hb, hml, hown, hts⟩ (cX3_find_ l hst9 D cI cC ad _ n ch rg (by omega) y) (cwV 1 hts gX3_apart_X3_find rfl rfl rfl (by decide +kernel) ⟨Nat.le_of_ble_eq_true rfl, Nat.le_of_ble_eq_true rfl⟩) hK ((hZ.kept hS.2.1).narrow (fun q h => h.elim)) ⟨rfl, hO, hBk⟩ (xRecv hK rfl hO) rfl hl.1 rfl (Nat.le_of_ble_eq_true rfl) dX3_apart_8 ⟨(by show 0 + 1 + 1 ≤ 10; omega), (by show 0 + 6 + 6 ≤ 60; omega)⟩ hS (fun q h => h.elim) (fun q h => h.elim) (fun E ce q9 H1 locs1 hB hz9 hk9 hS h1 h2 h3 => ?_) (fun u ra H1 locs1 hp hF hz9 hk8 hS => ?_)
  · obtain ⟨rfl, hn⟩ := hB
    exact x_pass htb hlocks h1 h2 h3 ⟨⟨if_neg (fun z => hn z.2), rfl⟩, (xXW_old hW (fun x9 hx9 => hk9 x9 hx9 id))⟩ hS (fun _ h => h) (by omega) (by omega)
  obtain ⟨rfl, hra⟩ := hF
  have hi8 := hp
  obtain ⟨j2, hj2, hj2b, rfl⟩ := inR_of hp
  rw [xN_nI hj2b] at hra
  subst hra
  have hl : lv_has ls 8 [(3, .ref (ad (10 + j1))), (0, .ref (ad 0)), (1, .int (nI j1)), (2, .int (nI j2))] := hl
  have hC2 : xCh D cI (ad (10 + j2)) (ad (26 + j2)) n (pm j2) s.heap := xXC_at hCs (show j2 < 16 by omega) (hz j2 hj2)
  refine lv_astore (lv' := [(4, .ref (ad (10 + j2))), (3, .ref (ad (10 + j1))), (0, .ref (ad 0)), (1, .int (nI j1)), (2, .int (nI j2))]) hx hb dX3_apart_11 hl (by decide) rfl (fun ls hl => ?_)
  refine xn_iconst (v := 0) hx hb dX3_apart_13 (by decide) ?_
  refine lv_istore (lv' := [(5, .int (nI 0)), (4, .ref (ad (10 + j2))), (3, .ref (ad (10 + j1))), (0, .ref (ad 0)), (1, .int (nI j1)), (2, .int (nI j2))]) hx hb dX3_apart_14 hl (by decide) rfl (fun ls hl => ?_)
  refine xn_iconst (v := 0) hx hb dX3_apart_16 (by decide) ?_
  refine lv_istore (lv' := [(6, .int (nI 0)), (5, .int (nI 0)), (4, .ref (ad (10 + j2))), (3, .ref (ad (10 + j1))), (0, .ref (ad 0)), (1, .int (nI j1)), (2, .int (nI j2))]) hx hb dX3_apart_17 hl (by decide) rfl (fun ls hl => ?_)
  refine x_loop (σ := Nat × Nat) (fun a => n - a.2) (fun a ls => (a.2 ≤ n) ∧ (a.1 = sm (lss (apF (n, ch, pm, st, kf, rg) j1 j2) n) a.2) ∧ lv_has ls 8 [(0, .ref (ad 0)), (1, .int (nI j1)), (2, .int (nI j2)), (3, .ref (ad (10 + j1))), (4, .ref (ad (10 + j2))), (5, .int (nI a.1)), (6, .int (nI a.2))]) ?_ (0, 0) ls ⟨(Nat.zero_le _), rfl, lv_sub hl [4, 5, 6, 3, 2, 1, 0] rfl⟩
  rintro ⟨L, i⟩ ls ⟨h2, h3, hl⟩ ih19
  dsimp only at h2 h3 hl
  refine lv_iload hx hb dX3_apart_19 (lv_at hl 6 rfl) ?_
  refine lv_aload_n hx hb dX3_apart_21 rfl (lv_at hl 0 rfl) ?_
  refine x_get (v := .int (nI n)) (C := RX3) (T := TX3) (N := 8) hx hb hts (by decide +kernel) hown hK hO rfl 5 (by decide) (hts (.fieldLink RX3 37 "BellRanks" "bells" "I") (by decide +kernel)) (fun _ h9 => h9) rfl dX3_apart_22 ?_
  refine xn_icmp_ge (tgt := 83) hx hb dX3_apart_25 (by decide) (by omega) (by omega) (fun c25 => ?_) (fun c25 => ?_)
  · refine lv_iload hx hb dX3_apart_83 (lv_at hl 5 rfl) ?_
    have ht : tTwo (n, ch, pm, st, kf, rg) (nI j1) (nI j2) = 0 := if_pos ⟨hi2, hi8⟩
    refine W.widen (k := 10) (n := 60) (by omega) (by omega) ?_
    refine vx_ret ?_
    exact x_miret hx hb hr hlocks () ⟨ht, (by show nI _ = rApart _ _ _; unfold rApart; simp only [xN_nI hj1b, xN_nI hj2b]; rw [h3, show i = n by omega]; rfl)⟩ (xXW_mk (S := (n, ch, pm, st, kf, rg)) hO hBk hMe hRu hfr hMa hfm hRs hCs hz) hS (fun _ h => h) dX3_apart_85
  · refine lv_iload hx hb dX3_apart_28 (lv_at hl 6 rfl) ?_
    refine xn_iconst (v := 1) hx hb dX3_apart_30 (by decide) ?_
    refine xn_iadd hx hb dX3_apart_31 ?_
    refine lv_istore (lv' := [(7, .int (nI (i + 1))), (0, .ref (ad 0)), (1, .int (nI j1)), (2, .int (nI j2)), (3, .ref (ad (10 + j1))), (4, .ref (ad (10 + j2))), (5, .int (nI L)), (6, .int (nI i))]) hx hb dX3_apart_32 hl (by decide) rfl (fun ls hl => ?_)
    refine x_loop (σ := Nat × Nat) (fun a => n - a.2) (fun a ls => (i < a.2 ∧ a.2 ≤ n) ∧ (a.1 = sm (lss (apF (n, ch, pm, st, kf, rg) j1 j2) n) i + sm (lsf (apF (n, ch, pm, st, kf, rg) j1 j2) i) a.2) ∧ lv_has ls 8 [(0, .ref (ad 0)), (1, .int (nI j1)), (2, .int (nI j2)), (3, .ref (ad (10 + j1))), (4, .ref (ad (10 + j2))), (5, .int (nI a.1)), (6, .int (nI i)), (7, .int (nI a.2))]) ?_ (L, i + 1) ls ⟨⟨by dsimp only; omega, by dsimp only; omega⟩, (by dsimp only; rw [h3, sm_zero (fun q hq => lsf_le (by omega))]; rfl), lv_sub hl [1, 2, 3, 4, 5, 6, 7, 0] rfl⟩
    rintro ⟨L2, jj⟩ ls ⟨h4, h5, hl⟩ ih34
    dsimp only at h4 h5 hl
    refine lv_iload hx hb dX3_apart_34 (lv_at hl 7 rfl) ?_
    refine lv_aload_n hx hb dX3_apart_36 rfl (lv_at hl 0 rfl) ?_
    refine x_get (v := .int (nI n)) (C := RX3) (T := TX3) (N := 8) hx hb hts (by decide +kernel) hown hK hO rfl 5 (by decide) (hts (.fieldLink RX3 37 "BellRanks" "bells" "I") (by decide +kernel)) (fun _ h9 => h9) rfl dX3_apart_37 ?_
    refine xn_icmp_ge (tgt := 77) hx hb dX3_apart_40 (by decide) (by omega) (by omega) (fun c40 => ?_) (fun c40 => ?_)
    · refine xn_iinc (v := i + 1) (lv' := [(6, .int (nI (i + 1))), (0, .ref (ad 0)), (1, .int (nI j1)), (2, .int (nI j2)), (3, .ref (ad (10 + j1))), (4, .ref (ad (10 + j2))), (5, .int (nI L2)), (7, .int (nI jj))]) hx hb dX3_apart_77 hl (k := 6) rfl (xinc1 _) (by decide) rfl (fun ls hl => ?_)
      refine lv_goto (tgt := 19) hx hb dX3_apart_80 (by decide) ?_
      exact ih19 (L2, i + 1) ls ⟨(by dsimp only; omega), (by dsimp only; rw [h5, show jj = n by omega]; rfl), lv_sub hl [1, 2, 3, 4, 5, 6, 0] rfl⟩ (by dsimp only; omega)
    · refine lv_aload hx hb dX3_apart_43 (lv_at hl 4 rfl) ?_
      refine lv_aload_n hx hb dX3_apart_45 rfl (lv_at hl 3 rfl) ?_
      refine lv_iload hx hb dX3_apart_46 (lv_at hl 6 rfl) ?_
      refine xcV (As := [.int (nI i)]) (rest := [.ref (ad (10 + j2))]) ⟨hx, hb, hml, hown, hts⟩ (cX0_bellAt_ l D cI cC (ad (10 + j1)) (ad (26 + j1)) n (pm j1) i (by omega)) (cwV 1 hts gX3_apart_X0_bellAt rfl rfl rfl (by decide +kernel) ⟨Nat.le_of_ble_eq_true rfl, Nat.le_of_ble_eq_true rfl⟩) hK hC1 (xRecv hK rfl hC1.1) rfl hl.1 rfl (Nat.le_of_ble_eq_true rfl) dX3_apart_48 ⟨(by show 0 + 1 + 1 ≤ 10; omega), (by show 0 + 6 + 6 ≤ 60; omega)⟩ (fun x48 e48 => ?_)
      subst e48
      refine xcV (As := [.int (nI ((pm j1) i))]) (rest := []) ⟨hx, hb, hml, hown, hts⟩ (cX0_placeOf_ l D cI cC (ad (10 + j2)) (ad (26 + j2)) n (pm j2) hn8 (fun i9 => Nat.lt_trans ((hpm8 j2) i9) (by decide)) ((pm j1) i) (Nat.lt_trans (hpm8 _ _) (by decide))) (cwV 1 hts gX3_apart_X0_placeOf rfl rfl rfl (by decide +kernel) ⟨Nat.le_of_ble_eq_true rfl, Nat.le_of_ble_eq_true rfl⟩) hK hC2 (xRecv hK rfl hC2.1) rfl hl.1 rfl (Nat.le_of_ble_eq_true rfl) dX3_apart_51 ⟨(by show 0 + 1 + 1 ≤ 10; omega), (by show 0 + 6 + 6 ≤ 60; omega)⟩ (fun x51 e51 => ?_)
      subst e51
      refine lv_aload hx hb dX3_apart_54 (lv_at hl 4 rfl) ?_
      refine lv_aload_n hx hb dX3_apart_56 rfl (lv_at hl 3 rfl) ?_
      refine lv_iload hx hb dX3_apart_57 (lv_at hl 7 rfl) ?_
      refine xcV (As := [.int (nI jj)]) (rest := [.ref (ad (10 + j2)), .int (nI (pos (pm j2) n ((pm j1) i)))]) ⟨hx, hb, hml, hown, hts⟩ (cX0_bellAt_ l D cI cC (ad (10 + j1)) (ad (26 + j1)) n (pm j1) jj (by omega)) (cwV 1 hts gX3_apart_X0_bellAt rfl rfl rfl (by decide +kernel) ⟨Nat.le_of_ble_eq_true rfl, Nat.le_of_ble_eq_true rfl⟩) hK hC1 (xRecv hK rfl hC1.1) rfl hl.1 rfl (Nat.le_of_ble_eq_true rfl) dX3_apart_59 ⟨(by show 0 + 1 + 1 ≤ 10; omega), (by show 0 + 6 + 6 ≤ 60; omega)⟩ (fun x59 e59 => ?_)
      subst e59
      refine xcV (As := [.int (nI ((pm j1) jj))]) (rest := [.int (nI (pos (pm j2) n ((pm j1) i)))]) ⟨hx, hb, hml, hown, hts⟩ (cX0_placeOf_ l D cI cC (ad (10 + j2)) (ad (26 + j2)) n (pm j2) hn8 (fun i9 => Nat.lt_trans ((hpm8 j2) i9) (by decide)) ((pm j1) jj) (Nat.lt_trans (hpm8 _ _) (by decide))) (cwV 1 hts gX3_apart_X0_placeOf rfl rfl rfl (by decide +kernel) ⟨Nat.le_of_ble_eq_true rfl, Nat.le_of_ble_eq_true rfl⟩) hK hC2 (xRecv hK rfl hC2.1) rfl hl.1 rfl (Nat.le_of_ble_eq_true rfl) dX3_apart_62 ⟨(by show 0 + 1 + 1 ≤ 10; omega), (by show 0 + 6 + 6 ≤ 60; omega)⟩ (fun x62 e62 => ?_)
      subst e62
      refine xn_icmp_le (tgt := 71) hx hb dX3_apart_65 (by decide) (Nat.lt_of_le_of_lt (fnd_spec _ n).1 (by omega)) (Nat.lt_of_le_of_lt (fnd_spec _ n).1 (by omega)) (fun c65 => ?_) (fun c65 => ?_)
      · refine xn_iinc (v := jj + 1) (lv' := [(7, .int (nI (jj + 1))), (0, .ref (ad 0)), (1, .int (nI j1)), (2, .int (nI j2)), (3, .ref (ad (10 + j1))), (4, .ref (ad (10 + j2))), (5, .int (nI L2)), (6, .int (nI i))]) hx hb dX3_apart_71 hl (k := 7) rfl (xinc1 _) (by decide) rfl (fun ls hl => ?_)
        refine lv_goto (tgt := 34) hx hb dX3_apart_74 (by decide) ?_
        exact ih34 (L2, jj + 1) ls ⟨⟨by dsimp only; omega, by dsimp only; omega⟩, (by dsimp only; rw [sm_succ, ← Nat.add_assoc, ← h5, lsf0 (f := apF (n, ch, pm, st, kf, rg) j1 j2) c65] <;> rfl), lv_sub hl [1, 2, 3, 4, 5, 6, 7, 0] rfl⟩ (by dsimp only; omega)
      · refine xn_iinc (v := L2 + 1) (lv' := [(5, .int (nI (L2 + 1))), (0, .ref (ad 0)), (1, .int (nI j1)), (2, .int (nI j2)), (3, .ref (ad (10 + j1))), (4, .ref (ad (10 + j2))), (6, .int (nI i)), (7, .int (nI jj))]) hx hb dX3_apart_68 hl (k := 5) rfl (xinc1 _) (by decide) rfl (fun ls hl => ?_)
        refine xn_iinc (v := jj + 1) (lv' := [(7, .int (nI (jj + 1))), (5, .int (nI (L2 + 1))), (0, .ref (ad 0)), (1, .int (nI j1)), (2, .int (nI j2)), (3, .ref (ad (10 + j1))), (4, .ref (ad (10 + j2))), (6, .int (nI i))]) hx hb dX3_apart_71 hl (k := 7) rfl (xinc1 _) (by decide) rfl (fun ls hl => ?_)
        refine lv_goto (tgt := 34) hx hb dX3_apart_74 (by decide) ?_
        exact ih34 (L2 + 1, jj + 1) ls ⟨⟨by dsimp only; omega, by dsimp only; omega⟩, (by dsimp only; rw [sm_succ, ← Nat.add_assoc, ← h5, lsf1 (f := apF (n, ch, pm, st, kf, rg) j1 j2) h4.1 c65] <;> rfl), lv_sub hl [2, 3, 4, 5, 6, 1, 7, 0] rfl⟩ (by dsimp only; omega)

set_option maxRecDepth 100000 in
set_option maxHeartbeats 4000000 in
theorem kCount_ (l : Launch) (hst9 : l.stackTraces = false) (D : va_G) (cI cC : ClassId) (ad : Nat → Nat) (hj : xInj ad) (S : AS) (hI : AI S) (x : Int32) : vx_Met l yX3_count wsX3_count (xRm 14 10 60) (va_Pc [.ref (ad 0), .int x] (xBZ D cI cC (xXW D cI cC ad S) (xAD ad))) (xI (fun r (_ : Unit) => tCount S x = 0 ∧ r = rCount S x) (fun _ H => xXW D cI cC ad (S) H) (xAD ad)) (xX (xAD ad) (fun E H => (tCount S x = 1 ∧ E = xEI) ∧ xXW D cI cC ad S H)) 10 60 (xAD ad) := by
  obtain ⟨n, ch, pm, st, kf, rg⟩ := S
  obtain ⟨⟨hn2, hn8⟩, hch, hst, hpm8, hpm, hkv, hkb⟩ := id hI
  dsimp only at hn2 hn8 hch hst hpm8 hpm hkv hkb
  refine vx_ofW (cc := cX3_count) (maxL := 2) (ret := (some .int)) (by decide) rfl ?_
  intro p e s m args below meth c s₁ B hml htb hv
  obtain ⟨rfl, hP, hK, hZ⟩ := hv
  have hx := B.exec
  have hb := B.bytes
  have hr := B.returns
  have hts := atoms_spec (ws := wsX3_count) B.pre
  have hown : s.vm.findClass RX3 = some m.cls := findClass_of_methodNamed B.named
  have hlocks := B.notSynchronized
  have hW := hP
  have hl := lv_entry ([.ref (ad 0), .int x]) (n := 2) (Nat.le_of_ble_eq_true rfl)
  rw [lg_entry_eq]
  generalize (lg_sl ([.ref (ad 0), .int x]) ++ List.replicate (2 - (lg_sl ([.ref (ad 0), .int x])).length) Slot.unset).toArray = ls at hl ⊢
  have hl : lv_has ls 2 [(0, .ref (ad 0)), (1, .int x)] := hl
  obtain ⟨zr, zm, zs, fr, fm, fs, zf, hO, hBk, hMe, hRu, hfr, hMa, hfm, hRs, hCs, hz⟩ := id hW
  have hO : xXO D ad n ch rg s.heap := hO
  have hMe : xMe D cI (ad 2) (ad 3) st kf s.heap := hMe
  have hCs : xXC D cI ad zf pm s.heap := hCs
  have hz : ∀ k, k < ch → zf k = n := hz
  have hS : va_S (xAD ad) s.heap s.heap [] := va_S.rf
  refine lv_iload_n hx hb dX3_count_0 rfl (lv_at hl 1 rfl) ?_
  by_cases hy : inR x 6
  · obtain ⟨w, hw, hwb, rfl⟩ := inR_of hy
    have hl : lv_has ls 2 [(0, .ref (ad 0)), (1, .int (nI w))] := hl
    rcases (show w = 0 ∨ w = 1 ∨ w = 2 ∨ w = 3 ∨ w = 4 ∨ w = 5 by omega) with rfl | rfl | rfl | rfl | rfl | rfl
    · refine lv_tableIn (off := 39) (tgt := 40) hx hb dX3_count_1 (by decide) (by decide) rfl (by decide) ?_
      have hl : lv_has ls 2 [(0, .ref (ad 0)), (1, .int (nI 0))] := hl
      refine lv_aload_n hx hb dX3_count_40 rfl (lv_at hl 0 rfl) ?_
      refine x_get (v := .int (nI n)) (C := RX3) (T := TX3) (N := 8) hx hb hts (by decide +kernel) hown hK hO rfl 5 (by decide) (hts (.fieldLink RX3 37 "BellRanks" "bells" "I") (by decide +kernel)) (fun _ h9 => h9) rfl dX3_count_41 ?_
      have ht : tCount (n, ch, pm, st, kf, rg) (nI 0) = 0 := if_pos hy
      refine W.widen (k := 10) (n := 60) (by omega) (by omega) ?_
      refine vx_ret ?_
      exact x_miret hx hb hr hlocks () ⟨ht, (by show nI _ = rCount _ _; unfold rCount; simp only [xN_nI (show 0 < 2 ^ 31 by decide)]; rfl)⟩ (xXW_mk (S := (n, ch, pm, st, kf, rg)) hO hBk hMe hRu hfr hMa hfm hRs hCs hz) hS (fun _ h => h) dX3_count_44
    · refine lv_tableIn (off := 44) (tgt := 45) hx hb dX3_count_1 (by decide) (by decide) rfl (by decide) ?_
      have hl : lv_has ls 2 [(0, .ref (ad 0)), (1, .int (nI 1))] := hl
      refine lv_aload_n hx hb dX3_count_45 rfl (lv_at hl 0 rfl) ?_
      refine x_get (v := .int (nI n)) (C := RX3) (T := TX3) (N := 8) hx hb hts (by decide +kernel) hown hK hO rfl 5 (by decide) (hts (.fieldLink RX3 37 "BellRanks" "bells" "I") (by decide +kernel)) (fun _ h9 => h9) rfl dX3_count_46 ?_
      refine xcS (As := [.int (nI n)]) (rest := []) ⟨hx, hb, hml, hown, hts⟩ (cX3_changesOf_ l D cI cC n (by omega) (by omega)) (va_cwS 1 hts gX3_count_X3_changesOf rfl rfl rfl (by decide +kernel) ⟨Nat.le_of_ble_eq_true rfl, Nat.le_of_ble_eq_true rfl⟩) hK trivial rfl hl.1 rfl (Nat.le_of_ble_eq_true rfl) dX3_count_49 ⟨(by show 0 ≤ 10; omega), (by show 0 ≤ 60; omega)⟩ (fun x49 e49 => ?_)
      subst e49
      have ht : tCount (n, ch, pm, st, kf, rg) (nI 1) = 0 := if_pos hy
      refine W.widen (k := 10) (n := 60) (by omega) (by omega) ?_
      refine vx_ret ?_
      exact x_miret hx hb hr hlocks () ⟨ht, (by show nI _ = rCount _ _; unfold rCount; simp only [xN_nI (show 1 < 2 ^ 31 by decide)]; rfl)⟩ (xXW_mk (S := (n, ch, pm, st, kf, rg)) hO hBk hMe hRu hfr hMa hfm hRs hCs hz) hS (fun _ h => h) dX3_count_52
    · refine lv_tableIn (off := 52) (tgt := 53) hx hb dX3_count_1 (by decide) (by decide) rfl (by decide) ?_
      have hl : lv_has ls 2 [(0, .ref (ad 0)), (1, .int (nI 2))] := hl
      refine lv_aload_n hx hb dX3_count_53 rfl (lv_at hl 0 rfl) ?_
      refine x_get (v := .int (nI ch)) (C := RX3) (T := TX3) (N := 8) hx hb hts (by decide +kernel) hown hK hO rfl 6 (by decide) (hts (.fieldLink RX3 41 "BellRanks" "written" "I") (by decide +kernel)) (fun _ h9 => h9) rfl dX3_count_54 ?_
      have ht : tCount (n, ch, pm, st, kf, rg) (nI 2) = 0 := if_pos hy
      refine W.widen (k := 10) (n := 60) (by omega) (by omega) ?_
      refine vx_ret ?_
      exact x_miret hx hb hr hlocks () ⟨ht, (by show nI _ = rCount _ _; unfold rCount; simp only [xN_nI (show 2 < 2 ^ 31 by decide)]; rfl)⟩ (xXW_mk (S := (n, ch, pm, st, kf, rg)) hO hBk hMe hRu hfr hMa hfm hRs hCs hz) hS (fun _ h => h) dX3_count_57
    · refine lv_tableIn (off := 57) (tgt := 58) hx hb dX3_count_1 (by decide) (by decide) rfl (by decide) ?_
      have hl : lv_has ls 2 [(0, .ref (ad 0)), (1, .int (nI 3))] := hl
      refine lv_aload_n hx hb dX3_count_58 rfl (lv_at hl 0 rfl) ?_
      refine xmI (As := []) (rest := []) ⟨hx, hb, hml, hown, hts⟩ (cX3_differentInBook_ l D cI cC ad hj n ch rg zs fs zf pm hn8 (by omega) hpm8 hz) (cwV 0 hts gX3_count_X3_differentInBook rfl rfl rfl (by decide +kernel) ⟨Nat.le_of_ble_eq_true rfl, Nat.le_of_ble_eq_true rfl⟩) hK ⟨hO, hBk, hRs, hCs⟩ (xRecv hK rfl hO) rfl hl.1 rfl (Nat.le_of_ble_eq_true rfl) dX3_count_59 ⟨(by show 0 + 0 ≤ 10; omega), (by show 0 + 0 ≤ 60; omega)⟩ hS (fun q h => h.elim (fun h => ⟨8, by omega, h⟩) (fun h => ⟨9, by omega, h⟩)) (fun q h => h.elim (fun h => ⟨8, by omega, h⟩) (fun h => ⟨9, by omega, h⟩)) (fun x59 u59 H1 locs1 hp59 hF59 hz59 hk59 hS => ?_)
      have hO : xXO D ad n ch rg H1 := xat_keep hO hk59 (fun z => z.elim (xne hj (by omega) (by omega) (by omega)) (xne hj (by omega) (by omega) (by omega)))
      have hBk : xXB D cC ad H1 := xat_keep hBk hk59 (fun z => z.elim (xne hj (by omega) (by omega) (by omega)) (xne hj (by omega) (by omega) (by omega)))
      have hMe : xMe D cI (ad 2) (ad 3) st kf H1 := xMe_keep hMe hk59 (fun z => z.elim (xne hj (by omega) (by omega) (by omega)) (xne hj (by omega) (by omega) (by omega))) (fun z => z.elim (xne hj (by omega) (by omega) (by omega)) (xne hj (by omega) (by omega) (by omega)))
      have hRu : xCh D cI (ad 4) (ad 5) zr fr H1 := xCh_keep hRu hk59 (fun z => z.elim (xne hj (by omega) (by omega) (by omega)) (xne hj (by omega) (by omega) (by omega))) (fun z => z.elim (xne hj (by omega) (by omega) (by omega)) (xne hj (by omega) (by omega) (by omega)))
      have hMa : xCh D cI (ad 6) (ad 7) zm fm H1 := xCh_keep hMa hk59 (fun z => z.elim (xne hj (by omega) (by omega) (by omega)) (xne hj (by omega) (by omega) (by omega))) (fun z => z.elim (xne hj (by omega) (by omega) (by omega)) (xne hj (by omega) (by omega) (by omega)))
      have hCs : xXC D cI ad zf pm H1 := xXC_keep hCs hk59 (fun i hi1 hi2 => (fun z => z.elim (xne hj (by omega) (by omega) (by omega)) (xne hj (by omega) (by omega) (by omega))))
      have hRs : xRs D cI (ad 8) (ad 9) u59.1 u59.2 H1 := hF59
      subst hp59
      have ht : tCount (n, ch, pm, st, kf, rg) (nI 3) = 0 := if_pos hy
      refine W.widen (k := 10) (n := 60) (by omega) (by omega) ?_
      refine vx_ret ?_
      exact x_miret hx hb hr hlocks () ⟨ht, (by show nI _ = rCount _ _; unfold rCount; simp only [xN_nI (show 3 < 2 ^ 31 by decide)]; rfl)⟩ (xXW_mk (S := (n, ch, pm, st, kf, rg)) hO hBk hMe hRu hfr hMa hfm hRs hCs hz) hS (fun _ h => h) dX3_count_62
    · refine lv_tableIn (off := 62) (tgt := 63) hx hb dX3_count_1 (by decide) (by decide) rfl (by decide) ?_
      have hl : lv_has ls 2 [(0, .ref (ad 0)), (1, .int (nI 4))] := hl
      refine lv_aload_n hx hb dX3_count_63 rfl (lv_at hl 0 rfl) ?_
      refine x_get (v := .ref (ad 2)) (C := RX3) (T := TX3) (N := 8) hx hb hts (by decide +kernel) hown hK hO rfl 1 (by decide) (hts (.fieldLink RX3 19 "BellRanks" "method" "LBellRanks$Method;") (by decide +kernel)) (fun _ h9 => h9) rfl dX3_count_64 ?_
      refine xcV (As := []) (rest := []) ⟨hx, hb, hml, hown, hts⟩ (cX1_length_ l D cI cC (ad 2) (ad 3) st kf) (cwV 0 hts gX3_count_X1_length rfl rfl rfl (by decide +kernel) ⟨Nat.le_of_ble_eq_true rfl, Nat.le_of_ble_eq_true rfl⟩) hK hMe (xRecv hK rfl hMe.1) rfl hl.1 rfl (Nat.le_of_ble_eq_true rfl) dX3_count_67 ⟨(by show 0 ≤ 10; omega), (by show 0 ≤ 60; omega)⟩ (fun x67 e67 => ?_)
      subst e67
      have ht : tCount (n, ch, pm, st, kf, rg) (nI 4) = 0 := if_pos hy
      refine W.widen (k := 10) (n := 60) (by omega) (by omega) ?_
      refine vx_ret ?_
      exact x_miret hx hb hr hlocks () ⟨ht, (by show nI _ = rCount _ _; unfold rCount; simp only [xN_nI (show 4 < 2 ^ 31 by decide)]; rfl)⟩ (xXW_mk (S := (n, ch, pm, st, kf, rg)) hO hBk hMe hRu hfr hMa hfm hRs hCs hz) hS (fun _ h => h) dX3_count_70
    · refine lv_tableIn (off := 70) (tgt := 71) hx hb dX3_count_1 (by decide) (by decide) rfl (by decide) ?_
      have hl : lv_has ls 2 [(0, .ref (ad 0)), (1, .int (nI 5))] := hl
      refine lv_aload_n hx hb dX3_count_71 rfl (lv_at hl 0 rfl) ?_
      refine x_get (v := .int (nI rg)) (C := RX3) (T := TX3) (N := 8) hx hb hts (by decide +kernel) hown hK hO rfl 7 (by decide) (hts (.fieldLink RX3 44 "BellRanks" "rungInAll" "I") (by decide +kernel)) (fun _ h9 => h9) rfl dX3_count_72 ?_
      have ht : tCount (n, ch, pm, st, kf, rg) (nI 5) = 0 := if_pos hy
      refine W.widen (k := 10) (n := 60) (by omega) (by omega) ?_
      refine vx_ret ?_
      exact x_miret hx hb hr hlocks () ⟨ht, (by show nI _ = rCount _ _; unfold rCount; simp only [xN_nI (show 5 < 2 ^ 31 by decide)]; rfl)⟩ (xXW_mk (S := (n, ch, pm, st, kf, rg)) hO hBk hMe hRu hfr hMa hfm hRs hCs hz) hS (fun _ h => h) dX3_count_75
  have hn := hy
  refine lv_tableOut (tgt := 76) hx hb dX3_count_1 (nin_toInt (N := 6) (by decide) hy) (by decide) ?_
  exact x_throw (cls := xEI) (text := "what is not 0 to 5") (ik := 61) (is := 160) (ic := 65) hx hb hst9 hts hown htb hlocks hZ hS (hl.1.trans hml.symm) (by decide +kernel) (by decide +kernel) (by decide +kernel) xbad_I (by decide +kernel) xgood_I (by decide) dX3_count_76 dX3_count_79 dX3_count_80 dX3_count_82 dX3_count_85 (Nat.le_of_ble_eq_true rfl) (Nat.le_of_ble_eq_true rfl) (by show 0 + 1 ≤ 10; omega) (by show 0 + 6 ≤ 60; omega) (fun H1 _ ho => ⟨⟨if_neg hn, rfl⟩, xXW_old hW ho⟩) (fun _ h => h) (by omega) (by omega)

set_option maxRecDepth 100000 in
set_option maxHeartbeats 4000000 in
theorem kKept_ (l : Launch) (hst9 : l.stackTraces = false) (D : va_G) (cI cC : ClassId) (ad : Nat → Nat) (hj : xInj ad) (S : AS) (hI : AI S) (x : Int32) : vx_Met l yX3_kept wsX3_kept (xRm 14 10 60) (va_Pc [.ref (ad 0), .int x] (xBZ D cI cC (xXW D cI cC ad S) (xAD ad))) (xI (fun r (_ : Unit) => tKept S x = 0 ∧ r = rKept S x) (fun _ H => xXW D cI cC ad (S) H) (xAD ad)) (xX (xAD ad) (fun E H => (tKept S x = 1 ∧ E = xEI) ∧ xXW D cI cC ad S H)) 10 60 (xAD ad) := by
  obtain ⟨n, ch, pm, st, kf, rg⟩ := S
  obtain ⟨⟨hn2, hn8⟩, hch, hst, hpm8, hpm, hkv, hkb⟩ := id hI
  dsimp only at hn2 hn8 hch hst hpm8 hpm hkv hkb
  refine vx_ofW (cc := cX3_kept) (maxL := 2) (ret := (some .int)) (by decide) rfl ?_
  intro p e s m args below meth c s₁ B hml htb hv
  obtain ⟨rfl, hP, hK, hZ⟩ := hv
  have hx := B.exec
  have hb := B.bytes
  have hr := B.returns
  have hts := atoms_spec (ws := wsX3_kept) B.pre
  have hown : s.vm.findClass RX3 = some m.cls := findClass_of_methodNamed B.named
  have hlocks := B.notSynchronized
  have hW := hP
  have hl := lv_entry ([.ref (ad 0), .int x]) (n := 2) (Nat.le_of_ble_eq_true rfl)
  rw [lg_entry_eq]
  generalize (lg_sl ([.ref (ad 0), .int x]) ++ List.replicate (2 - (lg_sl ([.ref (ad 0), .int x])).length) Slot.unset).toArray = ls at hl ⊢
  have hl : lv_has ls 2 [(0, .ref (ad 0)), (1, .int x)] := hl
  obtain ⟨zr, zm, zs, fr, fm, fs, zf, hO, hBk, hMe, hRu, hfr, hMa, hfm, hRs, hCs, hz⟩ := id hW
  have hO : xXO D ad n ch rg s.heap := hO
  have hMe : xMe D cI (ad 2) (ad 3) st kf s.heap := hMe
  have hCs : xXC D cI ad zf pm s.heap := hCs
  have hz : ∀ k, k < ch → zf k = n := hz
  have hS : va_S (xAD ad) s.heap s.heap [] := va_S.rf
  refine lv_iload_n hx hb dX3_kept_0 rfl (lv_at hl 1 rfl) ?_
  refine lv_if_lt (tgt := 15) hx hb dX3_kept_1 (by decide) (fun c1 => ?_) (fun c1 => ?_)
  · have hn : ¬ inR x st := fun z => z.1 c1
    exact x_throw (cls := xEI) (text := "no such step") (ik := 61) (is := 162) (ic := 65) hx hb hst9 hts hown htb hlocks hZ hS (hl.1.trans hml.symm) (by decide +kernel) (by decide +kernel) (by decide +kernel) xbad_I (by decide +kernel) xgood_I (by decide) dX3_kept_15 dX3_kept_18 dX3_kept_19 dX3_kept_21 dX3_kept_24 (Nat.le_of_ble_eq_true rfl) (Nat.le_of_ble_eq_true rfl) (by show 0 + 1 ≤ 10; omega) (by show 0 + 6 ≤ 60; omega) (fun H1 _ ho => ⟨⟨if_neg hn, rfl⟩, xXW_old hW ho⟩) (fun _ h => h) (by omega) (by omega)
  · refine lv_iload_n hx hb dX3_kept_4 rfl (lv_at hl 1 rfl) ?_
    refine lv_aload_n hx hb dX3_kept_5 rfl (lv_at hl 0 rfl) ?_
    refine x_get (v := .ref (ad 2)) (C := RX3) (T := TX3) (N := 8) hx hb hts (by decide +kernel) hown hK hO rfl 1 (by decide) (hts (.fieldLink RX3 19 "BellRanks" "method" "LBellRanks$Method;") (by decide +kernel)) (fun _ h9 => h9) rfl dX3_kept_6 ?_
    refine xcV (As := []) (rest := [.int x]) ⟨hx, hb, hml, hown, hts⟩ (cX1_length_ l D cI cC (ad 2) (ad 3) st kf) (cwV 0 hts gX3_kept_X1_length rfl rfl rfl (by decide +kernel) ⟨Nat.le_of_ble_eq_true rfl, Nat.le_of_ble_eq_true rfl⟩) hK hMe (xRecv hK rfl hMe.1) rfl hl.1 rfl (Nat.le_of_ble_eq_true rfl) dX3_kept_9 ⟨(by show 0 ≤ 10; omega), (by show 0 ≤ 60; omega)⟩ (fun x9 e9 => ?_)
    subst e9
    refine lv_icmp_lt (tgt := 25) hx hb dX3_kept_12 (by decide) (fun c12 => ?_) (fun c12 => ?_)
    · have hi : inR x st := (inR_ltI c1 (by omega)).mp c12
      obtain ⟨j1, hj1, hj1b, rfl⟩ := inR_of hi
      have hl : lv_has ls 2 [(0, .ref (ad 0)), (1, .int (nI j1))] := hl
      refine lv_aload_n hx hb dX3_kept_25 rfl (lv_at hl 0 rfl) ?_
      refine x_get (v := .ref (ad 2)) (C := RX3) (T := TX3) (N := 8) hx hb hts (by decide +kernel) hown hK hO rfl 1 (by decide) (hts (.fieldLink RX3 19 "BellRanks" "method" "LBellRanks$Method;") (by decide +kernel)) (fun _ h9 => h9) rfl dX3_kept_26 ?_
      refine lv_iload_n hx hb dX3_kept_29 rfl (lv_at hl 1 rfl) ?_
      refine xcV (As := [.int (nI j1)]) (rest := []) ⟨hx, hb, hml, hown, hts⟩ (cX1_keptAt_ l D cI cC (ad 2) (ad 3) st kf j1 (by omega)) (cwV 1 hts gX3_kept_X1_keptAt rfl rfl rfl (by decide +kernel) ⟨Nat.le_of_ble_eq_true rfl, Nat.le_of_ble_eq_true rfl⟩) hK hMe (xRecv hK rfl hMe.1) rfl hl.1 rfl (Nat.le_of_ble_eq_true rfl) dX3_kept_30 ⟨(by show 0 ≤ 10; omega), (by show 0 ≤ 60; omega)⟩ (fun x30 e30 => ?_)
      subst e30
      have ht : tKept (n, ch, pm, st, kf, rg) (nI j1) = 0 := if_pos hi
      refine W.widen (k := 10) (n := 60) (by omega) (by omega) ?_
      refine vx_ret ?_
      exact x_miret hx hb hr hlocks () ⟨ht, (by show nI _ = rKept _ _; unfold rKept; simp only [xN_nI hj1b])⟩ (xXW_mk (S := (n, ch, pm, st, kf, rg)) hO hBk hMe hRu hfr hMa hfm hRs hCs hz) hS (fun _ h => h) dX3_kept_33
    · have hn : ¬ inR x st := fun z => c12 ((inR_ltI c1 (by omega)).mpr z)
      exact x_throw (cls := xEI) (text := "no such step") (ik := 61) (is := 162) (ic := 65) hx hb hst9 hts hown htb hlocks hZ hS (hl.1.trans hml.symm) (by decide +kernel) (by decide +kernel) (by decide +kernel) xbad_I (by decide +kernel) xgood_I (by decide) dX3_kept_15 dX3_kept_18 dX3_kept_19 dX3_kept_21 dX3_kept_24 (Nat.le_of_ble_eq_true rfl) (Nat.le_of_ble_eq_true rfl) (by show 0 + 1 ≤ 10; omega) (by show 0 + 6 ≤ 60; omega) (fun H1 _ ho => ⟨⟨if_neg hn, rfl⟩, xXW_old hW ho⟩) (fun _ h => h) (by omega) (by omega)
end
section
/-! BELLRANKS' CALLS, second part -/
set_option maxRecDepth 100000 in
set_option maxHeartbeats 4000000 in
theorem kComes_ (l : Launch) (hst9 : l.stackTraces = false) (D : va_G) (cI cC : ClassId) (ad : Nat → Nat) (hj : xInj ad) (S : AS) (hI : AI S) (x : Int32) : vx_Met l yX3_comes wsX3_comes (xRm 14 10 60) (va_Pc [.ref (ad 0), .int x] (xBZ D cI cC (xXW D cI cC ad S) (xAD ad))) (xI (fun r (_ : Unit) => tIn S x = 0 ∧ r = rComes S x) (fun _ H => xXW D cI cC ad (S) H) (xAD ad)) (xX (xAD ad) (fun E H => (tIn S x = 1 ∧ E = xEI) ∧ xXW D cI cC ad S H)) 10 60 (xAD ad) := by
  obtain ⟨n, ch, pm, st, kf, rg⟩ := S
  obtain ⟨⟨hn2, hn8⟩, hch, hst, hpm8, hpm, hkv, hkb⟩ := id hI
  dsimp only at hn2 hn8 hch hst hpm8 hpm hkv hkb
  refine vx_ofW (cc := cX3_comes) (maxL := 4) (ret := (some .int)) (by decide) rfl ?_
  intro p e s m args below meth c s₁ B hml htb hv
  obtain ⟨rfl, hP, hK, hZ⟩ := hv
  have hx := B.exec
  have hb := B.bytes
  have hr := B.returns
  have hts := atoms_spec (ws := wsX3_comes) B.pre
  have hown : s.vm.findClass RX3 = some m.cls := findClass_of_methodNamed B.named
  have hlocks := B.notSynchronized
  have hW := hP
  have hl := lv_entry ([.ref (ad 0), .int x]) (n := 4) (Nat.le_of_ble_eq_true rfl)
  rw [lg_entry_eq]
  generalize (lg_sl ([.ref (ad 0), .int x]) ++ List.replicate (4 - (lg_sl ([.ref (ad 0), .int x])).length) Slot.unset).toArray = ls at hl ⊢
  have hl : lv_has ls 4 [(0, .ref (ad 0)), (1, .int x)] := hl
  obtain ⟨zr, zm, zs, fr, fm, fs, zf, hO, hBk, hMe, hRu, hfr, hMa, hfm, hRs, hCs, hz⟩ := id hW
  have hO : xXO D ad n ch rg s.heap := hO
  have hMe : xMe D cI (ad 2) (ad 3) st kf s.heap := hMe
  have hCs : xXC D cI ad zf pm s.heap := hCs
  have hz : ∀ k, k < ch → zf k = n := hz
  have hS : va_S (xAD ad) s.heap s.heap [] := va_S.rf
  refine lv_aload_n hx hb dX3_comes_0 rfl (lv_at hl 0 rfl) ?_
  refine lv_iload_n hx hb dX3_comes_1 rfl (lv_at hl 1 rfl) ?_
  refine xtR (As := [.int x]) (rest := []) ⟨hx, hb, hml, hown, hts⟩ (cX3_find_ l hst9 D cI cC ad _ n ch rg (by omega) x) (cwV 1 hts gX3_comes_X3_find rfl rfl rfl (by decide +kernel) ⟨Nat.le_of_ble_eq_true rfl, Nat.le_of_ble_eq_true rfl⟩) hK ((hZ.kept hS.2.1).narrow (fun q h => h.elim)) ⟨rfl, hO, hBk⟩ (xRecv hK rfl hO) rfl hl.1 rfl (Nat.le_of_ble_eq_true rfl) dX3_comes_2 ⟨(by show 0 + 1 ≤ 10; omega), (by show 0 + 6 ≤ 60; omega)⟩ hS (fun q h => h.elim) (fun q h => h.elim) (fun E ce q9 H1 locs1 hB hz9 hk9 hS h1 h2 h3 => ?_) (fun u ra H1 locs1 hp hF hz9 hk2 hS => ?_)
  · obtain ⟨rfl, hn⟩ := hB
    exact x_pass htb hlocks h1 h2 h3 ⟨⟨if_neg hn, rfl⟩, (xXW_old hW (fun x9 hx9 => hk9 x9 hx9 id))⟩ hS (fun _ h => h) (by omega) (by omega)
  obtain ⟨rfl, hra⟩ := hF
  have hi2 := hp
  obtain ⟨j1, hj1, hj1b, rfl⟩ := inR_of hp
  rw [xN_nI hj1b] at hra
  subst hra
  have hl : lv_has ls 4 [(0, .ref (ad 0)), (1, .int (nI j1))] := hl
  have hC1 : xCh D cI (ad (10 + j1)) (ad (26 + j1)) n (pm j1) s.heap := xXC_at hCs (show j1 < 16 by omega) (hz j1 hj1)
  refine lv_astore_n (lv' := [(2, .ref (ad (10 + j1))), (0, .ref (ad 0)), (1, .int (nI j1))]) hx hb dX3_comes_5 rfl hl (by decide) rfl (fun ls hl => ?_)
  refine lv_aload_n hx hb dX3_comes_6 rfl (lv_at hl 1 rfl) ?_
  refine x_get (v := .ref (ad 2)) (C := RX3) (T := TX3) (N := 8) hx hb hts (by decide +kernel) hown hK hO rfl 1 (by decide) (hts (.fieldLink RX3 19 "BellRanks" "method" "LBellRanks$Method;") (by decide +kernel)) (fun _ h9 => h9) rfl dX3_comes_7 ?_
  refine xcV (As := []) (rest := []) ⟨hx, hb, hml, hown, hts⟩ (cX1_length_ l D cI cC (ad 2) (ad 3) st kf) (cwV 0 hts gX3_comes_X1_length rfl rfl rfl (by decide +kernel) ⟨Nat.le_of_ble_eq_true rfl, Nat.le_of_ble_eq_true rfl⟩) hK hMe (xRecv hK rfl hMe.1) rfl hl.1 rfl (Nat.le_of_ble_eq_true rfl) dX3_comes_10 ⟨(by show 0 + 1 ≤ 10; omega), (by show 0 + 6 ≤ 60; omega)⟩ (fun x10 e10 => ?_)
  subst e10
  refine xn_if_ne (tgt := 18) hx hb dX3_comes_13 (by decide) (by omega) (fun c13 => ?_) (fun c13 => ?_)
  · have hst0 : 0 < st := by omega
    refine lv_aload_n hx hb dX3_comes_18 rfl (lv_at hl 1 rfl) ?_
    refine x_get (v := .ref (ad 4)) (C := RX3) (T := TX3) (N := 8) hx hb hts (by decide +kernel) hown hK hO rfl 2 (by decide) (hts (.fieldLink RX3 23 "BellRanks" "rung" "LBellRanks$Change;") (by decide +kernel)) (fun _ h9 => h9) rfl dX3_comes_19 ?_
    refine lv_aload_n hx hb dX3_comes_22 rfl (lv_at hl 0 rfl) ?_
    refine xmV (As := [.ref (ad (10 + j1))]) (rest := []) ⟨hx, hb, hml, hown, hts⟩ (cX0_setCopy_ l D cI cC (ad 4) (ad 5) zr fr (ad (10 + j1)) (ad (26 + j1)) n (pm j1) (xne hj (by omega) (by omega) (by omega)) (xne hj (by omega) (by omega) (by omega)) (xne hj (by omega) (by omega) (by omega)) (xne hj (by omega) (by omega) (by omega)) (xne hj (by omega) (by omega) (by omega)) hn8) (cwV 1 hts gX3_comes_X0_setCopy rfl rfl rfl (by decide +kernel) ⟨Nat.le_of_ble_eq_true rfl, Nat.le_of_ble_eq_true rfl⟩) hK ⟨hRu, hC1⟩ (xRecv hK rfl hRu.1) rfl hl.1 rfl (Nat.le_of_ble_eq_true rfl) dX3_comes_23 ⟨(by show 0 + 1 + 0 ≤ 10; omega), (by show 0 + 6 + 0 ≤ 60; omega)⟩ hS (fun q h => h.elim (fun h => ⟨4, by omega, h⟩) (fun h => ⟨5, by omega, h⟩)) (fun q h => h.elim (fun h => ⟨4, by omega, h⟩) (fun h => ⟨5, by omega, h⟩)) (fun u23 H1 locs1 hp23 hF23 hz23 hk23 hS => ?_)
    have hO : xXO D ad n ch rg H1 := xat_keep hO hk23 (fun z => z.elim (xne hj (by omega) (by omega) (by omega)) (xne hj (by omega) (by omega) (by omega)))
    have hBk : xXB D cC ad H1 := xat_keep hBk hk23 (fun z => z.elim (xne hj (by omega) (by omega) (by omega)) (xne hj (by omega) (by omega) (by omega)))
    have hMe : xMe D cI (ad 2) (ad 3) st kf H1 := xMe_keep hMe hk23 (fun z => z.elim (xne hj (by omega) (by omega) (by omega)) (xne hj (by omega) (by omega) (by omega))) (fun z => z.elim (xne hj (by omega) (by omega) (by omega)) (xne hj (by omega) (by omega) (by omega)))
    have hMa : xCh D cI (ad 6) (ad 7) zm fm H1 := xCh_keep hMa hk23 (fun z => z.elim (xne hj (by omega) (by omega) (by omega)) (xne hj (by omega) (by omega) (by omega))) (fun z => z.elim (xne hj (by omega) (by omega) (by omega)) (xne hj (by omega) (by omega) (by omega)))
    have hRs : xRs D cI (ad 8) (ad 9) zs fs H1 := xRs_keep hRs hk23 (fun z => z.elim (xne hj (by omega) (by omega) (by omega)) (xne hj (by omega) (by omega) (by omega))) (fun z => z.elim (xne hj (by omega) (by omega) (by omega)) (xne hj (by omega) (by omega) (by omega)))
    have hC1 : xCh D cI (ad (10 + j1)) (ad (26 + j1)) n (pm j1) H1 := xCh_keep hC1 hk23 (fun z => z.elim (xne hj (by omega) (by omega) (by omega)) (xne hj (by omega) (by omega) (by omega))) (fun z => z.elim (xne hj (by omega) (by omega) (by omega)) (xne hj (by omega) (by omega) (by omega)))
    have hCs : xXC D cI ad zf pm H1 := xXC_keep hCs hk23 (fun i hi1 hi2 => (fun z => z.elim (xne hj (by omega) (by omega) (by omega)) (xne hj (by omega) (by omega) (by omega))))
    have hRu : xCh D cI (ad 4) (ad 5) n (cpy fr (pm j1) n) H1 := hF23
    have hfr0 := hfr
    have hfr : ∀ i, cpy fr (pm j1) n i < 8 := cpy_bd hfr (fun i _ => hpm8 j1 i)
    refine xn_iconst (v := 1) hx hb dX3_comes_26 (by decide) ?_
    refine lv_istore_n (lv' := [(3, .int (nI 1)), (2, .ref (ad (10 + j1))), (0, .ref (ad 0)), (1, .int (nI j1))]) hx hb dX3_comes_27 rfl hl (by decide) rfl (fun ls hl => ?_)
    refine x_loopH (σ := Nat) (fun a => 400 - a) (fun a H locs cells slots ls => (a ≤ 400) ∧ (∀ q8, q8 < a → cmP (n, ch, pm, st, kf, rg) j1 q8 = false) ∧ (xXO D ad n ch rg H) ∧ (xXB D cC ad H) ∧ (xMe D cI (ad 2) (ad 3) st kf H) ∧ (xCh D cI (ad 4) (ad 5) n (rgs kf st n (cpy fr (pm j1) n) a) H) ∧ (xCh D cI (ad 6) (ad 7) zm fm H) ∧ (xRs D cI (ad 8) (ad 9) zs fs H) ∧ (xXC D cI ad zf pm H) ∧ (xCh D cI (ad (10 + j1)) (ad (26 + j1)) n (pm j1) H) ∧ (va_S (xAD ad) s.heap H locs) ∧ (cells ≤ 2) ∧ (slots ≤ 12) ∧ lv_has ls 4 [(0, .ref (ad 0)), (1, .int (nI j1)), (2, .ref (ad (10 + j1))), (3, .int (nI (a + 1)))]) ?_ 0 _ _ _ _ ls ⟨(Nat.zero_le _), (fun q8 h => absurd h (Nat.not_lt_zero _)), hO, hBk, hMe, hRu, hMa, hRs, hCs, hC1, hS, (by omega), (by omega), lv_sub hl [2, 3, 1, 0] rfl⟩
    rintro k H locs cells slots ls ⟨h2, h3, hO, hBk, hMe, hRu, hMa, hRs, hCs, hC1, hS, hce, hse, hl⟩ ih28
    
    refine lv_iload_n hx hb dX3_comes_28 rfl (lv_at hl 3 rfl) ?_
    refine xn_sipush (v := 400) hx hb dX3_comes_29 (by decide) ?_
    refine xn_icmp_gt (tgt := 68) hx hb dX3_comes_32 (by decide) (by omega) (by decide) (fun c32 => ?_) (fun c32 => ?_)
    · refine lv_iconst (v := -1) hx hb dX3_comes_68 (by decide) ?_
      have hfr : ∀ i, rgs kf st n (cpy fr (pm j1) n) k i < 8 := rgs_bd hfr k
      have ht : tIn (n, ch, pm, st, kf, rg) (nI j1) = 0 := if_pos hi2
      refine W.widen (k := 10) (n := 60) (by omega) (by omega) ?_
      refine vx_ret ?_
      exact x_miret hx hb hr hlocks () ⟨ht, (by show _ = rComes _ (nI j1); unfold rComes cmF; simp only [xN_nI hj1b]; rw [if_neg (show ¬ st = 0 by omega), fnd_eq (k := 400) (Nat.le_refl _) (fun q8 hq => h3 q8 (by omega)) (fun z => absurd z (Nat.lt_irrefl _)), if_neg (Nat.lt_irrefl _)])⟩ (xXW_mk (S := (n, ch, pm, st, kf, rg)) hO hBk hMe hRu hfr hMa hfm hRs hCs hz) hS (fun _ h => h) dX3_comes_69
    · refine lv_aload_n hx hb dX3_comes_35 rfl (lv_at hl 0 rfl) ?_
      refine x_get (v := .ref (ad 2)) (C := RX3) (T := TX3) (N := 8) hx hb hts (by decide +kernel) hown hK hO rfl 1 (by decide) (hts (.fieldLink RX3 19 "BellRanks" "method" "LBellRanks$Method;") (by decide +kernel)) (fun _ h9 => h9) rfl dX3_comes_36 ?_
      refine lv_aload_n hx hb dX3_comes_39 rfl (lv_at hl 0 rfl) ?_
      refine x_get (v := .ref (ad 4)) (C := RX3) (T := TX3) (N := 8) hx hb hts (by decide +kernel) hown hK hO rfl 2 (by decide) (hts (.fieldLink RX3 23 "BellRanks" "rung" "LBellRanks$Change;") (by decide +kernel)) (fun _ h9 => h9) rfl dX3_comes_40 ?_
      refine lv_iload_n hx hb dX3_comes_43 rfl (lv_at hl 3 rfl) ?_
      refine xn_iconst (v := 1) hx hb dX3_comes_44 (by decide) ?_
      refine xn_isub hx hb (by omega) dX3_comes_45 ?_
      refine xz_i (congrArg nI (Nat.add_sub_cancel k 1)) ?_
      refine xmV (As := [.ref (ad 4), .int (nI k)]) (rest := []) ⟨hx, hb, hml, hown, hts⟩ (cX1_ringOn_ l D cI cC (ad 2) (ad 3) st kf (ad 4) (ad 5) n (rgs kf st n (cpy fr (pm j1) n) k) (xne hj (by omega) (by omega) (by omega)) hn8 hst0 (by omega) hkb k (by omega)) (cwV 2 hts gX3_comes_X1_ringOn rfl rfl rfl (by decide +kernel) ⟨Nat.le_of_ble_eq_true rfl, Nat.le_of_ble_eq_true rfl⟩) hK ⟨hMe, hRu⟩ (xRecv hK rfl hMe.1) rfl hl.1 rfl (Nat.le_of_ble_eq_true rfl) dX3_comes_46 ⟨(by show cells + 0 ≤ 10; omega), (by show slots + 0 ≤ 60; omega)⟩ hS (fun q h => ⟨5, by omega, h⟩) (fun q h => ⟨5, by omega, h⟩) (fun u46 H1 locs1 hp46 hF46 hz46 hk46 hS => ?_)
      have hO : xXO D ad n ch rg H1 := xat_keep hO hk46 (xne hj (by omega) (by omega) (by omega))
      have hBk : xXB D cC ad H1 := xat_keep hBk hk46 (xne hj (by omega) (by omega) (by omega))
      have hMe : xMe D cI (ad 2) (ad 3) st kf H1 := xMe_keep hMe hk46 (xne hj (by omega) (by omega) (by omega)) (xne hj (by omega) (by omega) (by omega))
      have hMa : xCh D cI (ad 6) (ad 7) zm fm H1 := xCh_keep hMa hk46 (xne hj (by omega) (by omega) (by omega)) (xne hj (by omega) (by omega) (by omega))
      have hRs : xRs D cI (ad 8) (ad 9) zs fs H1 := xRs_keep hRs hk46 (xne hj (by omega) (by omega) (by omega)) (xne hj (by omega) (by omega) (by omega))
      have hC1 : xCh D cI (ad (10 + j1)) (ad (26 + j1)) n (pm j1) H1 := xCh_keep hC1 hk46 (xne hj (by omega) (by omega) (by omega)) (xne hj (by omega) (by omega) (by omega))
      have hCs : xXC D cI ad zf pm H1 := xXC_keep hCs hk46 (fun i hi1 hi2 => (xne hj (by omega) (by omega) (by omega)))
      have hRu : xCh D cI (ad 4) (ad 5) n (rst (kf (k % st)) n n 0 (rgs kf st n (cpy fr (pm j1) n) k)) H1 := hF46
      refine lv_aload_n hx hb dX3_comes_49 rfl (lv_at hl 0 rfl) ?_
      refine x_get (v := .ref (ad 4)) (C := RX3) (T := TX3) (N := 8) hx hb hts (by decide +kernel) hown hK hO rfl 2 (by decide) (hts (.fieldLink RX3 23 "BellRanks" "rung" "LBellRanks$Change;") (by decide +kernel)) (fun _ h9 => h9) rfl dX3_comes_50 ?_
      refine lv_aload_n hx hb dX3_comes_53 rfl (lv_at hl 2 rfl) ?_
      refine xcV (As := [.ref (ad (10 + j1))]) (rest := []) ⟨hx, hb, hml, hown, hts⟩ (cX0_isSame_ l D cI cC (ad 4) (ad 5) n (rst (kf (k % st)) n n 0 (rgs kf st n (cpy fr (pm j1) n) k)) (ad (10 + j1)) (ad (26 + j1)) n (pm j1) hn8 (fun i9 => Nat.lt_trans ((rgs_bd hfr (k + 1)) i9) (by decide)) (fun i9 => Nat.lt_trans ((hpm8 j1) i9) (by decide))) (cwV 1 hts gX3_comes_X0_isSame rfl rfl rfl (by decide +kernel) ⟨Nat.le_of_ble_eq_true rfl, Nat.le_of_ble_eq_true rfl⟩) hK ⟨hRu, hC1⟩ (xRecv hK rfl hRu.1) rfl hl.1 rfl (Nat.le_of_ble_eq_true rfl) dX3_comes_54 ⟨(by show cells ≤ 10; omega), (by show slots ≤ 60; omega)⟩ (fun x54 e54 => ?_)
      rcases e54 with ⟨rfl, hsm⟩ | ⟨rfl, hsm⟩
      · skip
        refine xn_if_eq (tgt := 62) hx hb dX3_comes_57 (by decide) (by decide) (fun c => absurd c (by decide)) (fun _ => ?_)
        refine lv_iload_n hx hb dX3_comes_60 rfl (lv_at hl 3 rfl) ?_
        have hm : hrk (rgs kf st n (pm j1) (k + 1)) n n = hrk (pm j1) n n := hrk_congr (fun i hi => (rgs_congr (fun x hx => (cpy_lt hx).symm) (k + 1) i hi).trans (hsm i hi)) n (Nat.le_refl _)
        have hfr : ∀ i, rst (kf (k % st)) n n 0 (rgs kf st n (cpy fr (pm j1) n) k) i < 8 := rgs_bd hfr (k + 1)
        have ht : tIn (n, ch, pm, st, kf, rg) (nI j1) = 0 := if_pos hi2
        refine W.widen (k := 10) (n := 60) (by omega) (by omega) ?_
        refine vx_ret ?_
        exact x_miret hx hb hr hlocks () ⟨ht, (by show _ = rComes _ (nI j1); unfold rComes cmF; simp only [xN_nI hj1b]; rw [if_neg (show ¬ st = 0 by omega), fnd_eq (k := k) h2 h3 (fun _ => beq_iff_eq.mpr hm), if_pos (show k < 400 by omega)])⟩ (xXW_mk (S := (n, ch, pm, st, kf, rg)) hO hBk hMe hRu hfr hMa hfm hRs hCs hz) hS (fun _ h => h) dX3_comes_61
      · skip
        refine xn_if_eq (tgt := 62) hx hb dX3_comes_57 (by decide) (by decide) (fun _ => ?_) (fun c => absurd c (by decide))
        have hnm : cmP (n, ch, pm, st, kf, rg) j1 k = false := by
          cases hc : cmP (n, ch, pm, st, kf, rg) j1 k
          · rfl
          · exfalso
            obtain ⟨q9, hq9, hne⟩ := hsm
            have hc : (hrk (rgs kf st n (pm j1) (k + 1)) n n == hrk (pm j1) n n) = true := hc
            exact hne ((rgs_congr (fun x hx => cpy_lt hx) (k + 1) q9 hq9).trans (hrk_inj (Prm.rgs (hpm j1 hj1) (k + 1)) (hpm j1 hj1) (eq_of_beq hc) q9 hq9))
        refine xn_iinc (v := k + 1 + 1) (lv' := [(3, .int (nI (k + 1 + 1))), (0, .ref (ad 0)), (1, .int (nI j1)), (2, .ref (ad (10 + j1)))]) hx hb dX3_comes_62 hl (k := 3) rfl (xinc1 _) (by decide) rfl (fun ls hl => ?_)
        refine lv_goto (tgt := 28) hx hb dX3_comes_65 (by decide) ?_
        exact ih28 (k + 1) _ _ _ _ ls ⟨(by omega), (fun q8 hq => by
              by_cases h9 : q8 = k
              · rw [h9]; exact hnm
              · exact h3 q8 (by omega)), hO, hBk, hMe, hRu, hMa, hRs, hCs, hC1, hS, hce, hse, lv_sub hl [1, 2, 3, 0] rfl⟩ (by omega)
  · refine lv_iconst (v := -1) hx hb dX3_comes_16 (by decide) ?_
    have ht : tIn (n, ch, pm, st, kf, rg) (nI j1) = 0 := if_pos hi2
    refine W.widen (k := 10) (n := 60) (by omega) (by omega) ?_
    refine vx_ret ?_
    exact x_miret hx hb hr hlocks () ⟨ht, (by show _ = rComes _ (nI j1); unfold rComes cmF; simp only [xN_nI hj1b]; rw [if_pos (show st = 0 by omega)])⟩ (xXW_mk (S := (n, ch, pm, st, kf, rg)) hO hBk hMe hRu hfr hMa hfm hRs hCs hz) hS (fun _ h => h) dX3_comes_17

set_option maxRecDepth 100000 in
set_option maxHeartbeats 4000000 in
theorem kDiffer_ (l : Launch) (hst9 : l.stackTraces = false) (D : va_G) (cI cC : ClassId) (ad : Nat → Nat) (hj : xInj ad) (S : AS) (hI : AI S) (x : Int32) : vx_Met l yX3_differ wsX3_differ (xRm 14 10 60) (va_Pc [.ref (ad 0), .int x] (xBZ D cI cC (xXW D cI cC ad S) (xAD ad))) (xI (fun r (_ : Unit) => tDiffer S x = 0 ∧ r = rDiffer S x) (fun _ H => xXW D cI cC ad (S) H) (xAD ad)) (xX (xAD ad) (fun E H => (tDiffer S x = 1 ∧ E = xEA) ∧ xXW D cI cC ad S H)) 10 60 (xAD ad) := by
  obtain ⟨n, ch, pm, st, kf, rg⟩ := S
  obtain ⟨⟨hn2, hn8⟩, hch, hst, hpm8, hpm, hkv, hkb⟩ := id hI
  dsimp only at hn2 hn8 hch hst hpm8 hpm hkv hkb
  refine vx_ofW (cc := cX3_differ) (maxL := 3) (ret := (some .int)) (by decide) rfl ?_
  intro p e s m args below meth c s₁ B hml htb hv
  obtain ⟨rfl, hP, hK, hZ⟩ := hv
  have hx := B.exec
  have hb := B.bytes
  have hr := B.returns
  have hts := atoms_spec (ws := wsX3_differ) B.pre
  have hown : s.vm.findClass RX3 = some m.cls := findClass_of_methodNamed B.named
  have hlocks := B.notSynchronized
  have hW := hP
  have hl := lv_entry ([.ref (ad 0), .int x]) (n := 3) (Nat.le_of_ble_eq_true rfl)
  rw [lg_entry_eq]
  generalize (lg_sl ([.ref (ad 0), .int x]) ++ List.replicate (3 - (lg_sl ([.ref (ad 0), .int x])).length) Slot.unset).toArray = ls at hl ⊢
  have hl : lv_has ls 3 [(0, .ref (ad 0)), (1, .int x)] := hl
  obtain ⟨zr, zm, zs, fr, fm, fs, zf, hO, hBk, hMe, hRu, hfr, hMa, hfm, hRs, hCs, hz⟩ := id hW
  have hO : xXO D ad n ch rg s.heap := hO
  have hMe : xMe D cI (ad 2) (ad 3) st kf s.heap := hMe
  have hCs : xXC D cI ad zf pm s.heap := hCs
  have hz : ∀ k, k < ch → zf k = n := hz
  have hS : va_S (xAD ad) s.heap s.heap [] := va_S.rf
  refine lv_iload_n hx hb dX3_differ_0 rfl (lv_at hl 1 rfl) ?_
  refine xtVS (As := [.int x]) (rest := []) ⟨hx, hb, hml, hown, hts⟩ (cX3_checkSteps_ l hst9 D cI cC ad _ x) (va_cwS 1 hts gX3_differ_X3_checkSteps rfl rfl rfl (by decide +kernel) ⟨Nat.le_of_ble_eq_true rfl, Nat.le_of_ble_eq_true rfl⟩) hK ((hZ.kept hS.2.1).narrow (fun q h => h.elim)) rfl rfl hl.1 rfl (Nat.le_of_ble_eq_true rfl) dX3_differ_1 ⟨(by show 0 + 1 ≤ 10; omega), (by show 0 + 6 ≤ 60; omega)⟩ hS (fun q h => h.elim) (fun q h => h.elim) (fun E ce q9 H1 locs1 hB hz9 hk9 hS h1 h2 h3 => ?_) (fun u H1 locs1 hp hF hz9 hk1 hS => ?_)
  · obtain ⟨rfl, hn⟩ := hB
    exact x_pass htb hlocks h1 h2 h3 ⟨⟨if_neg hn, rfl⟩, (xXW_old hW (fun x9 hx9 => hk9 x9 hx9 id))⟩ hS (fun _ h => h) (by omega) (by omega)
  obtain rfl := hF
  have hi1 := hp
  obtain ⟨j1, hj1, hj1b, rfl⟩ := inR_of hi1.1
  have hl : lv_has ls 3 [(0, .ref (ad 0)), (1, .int (nI j1))] := hl
  refine lv_aload_n hx hb dX3_differ_4 rfl (lv_at hl 0 rfl) ?_
  refine x_get (v := .ref (ad 4)) (C := RX3) (T := TX3) (N := 8) hx hb hts (by decide +kernel) hown hK hO rfl 2 (by decide) (hts (.fieldLink RX3 23 "BellRanks" "rung" "LBellRanks$Change;") (by decide +kernel)) (fun _ h9 => h9) rfl dX3_differ_5 ?_
  refine lv_aload_n hx hb dX3_differ_8 rfl (lv_at hl 0 rfl) ?_
  refine x_get (v := .int (nI n)) (C := RX3) (T := TX3) (N := 8) hx hb hts (by decide +kernel) hown hK hO rfl 5 (by decide) (hts (.fieldLink RX3 37 "BellRanks" "bells" "I") (by decide +kernel)) (fun _ h9 => h9) rfl dX3_differ_9 ?_
  refine xn_iconst (v := 0) hx hb dX3_differ_12 (by decide) ?_
  refine xmV (As := [.int (nI n), .int (nI 0)]) (rest := []) ⟨hx, hb, hml, hown, hts⟩ (cX0_setRank_ l D cI cC (ad 4) (ad 5) zr fr (xne hj (by omega) (by omega) (by omega)) hfr n 0 hn8 (by decide)) (cwV 2 hts gX3_differ_X0_setRank rfl rfl rfl (by decide +kernel) ⟨Nat.le_of_ble_eq_true rfl, Nat.le_of_ble_eq_true rfl⟩) hK hRu (xRecv hK rfl hRu.1) rfl hl.1 rfl (Nat.le_of_ble_eq_true rfl) dX3_differ_13 ⟨(by show 0 + 1 + 0 ≤ 10; omega), (by show 0 + 6 + 0 ≤ 60; omega)⟩ hS (fun q h => h.elim (fun h => ⟨4, by omega, h⟩) (fun h => ⟨5, by omega, h⟩)) (fun q h => h.elim (fun h => ⟨4, by omega, h⟩) (fun h => ⟨5, by omega, h⟩)) (fun u13 H1 locs1 hp13 hF13 hz13 hk13 hS => ?_)
  have hO : xXO D ad n ch rg H1 := xat_keep hO hk13 (fun z => z.elim (xne hj (by omega) (by omega) (by omega)) (xne hj (by omega) (by omega) (by omega)))
  have hBk : xXB D cC ad H1 := xat_keep hBk hk13 (fun z => z.elim (xne hj (by omega) (by omega) (by omega)) (xne hj (by omega) (by omega) (by omega)))
  have hMe : xMe D cI (ad 2) (ad 3) st kf H1 := xMe_keep hMe hk13 (fun z => z.elim (xne hj (by omega) (by omega) (by omega)) (xne hj (by omega) (by omega) (by omega))) (fun z => z.elim (xne hj (by omega) (by omega) (by omega)) (xne hj (by omega) (by omega) (by omega)))
  have hMa : xCh D cI (ad 6) (ad 7) zm fm H1 := xCh_keep hMa hk13 (fun z => z.elim (xne hj (by omega) (by omega) (by omega)) (xne hj (by omega) (by omega) (by omega))) (fun z => z.elim (xne hj (by omega) (by omega) (by omega)) (xne hj (by omega) (by omega) (by omega)))
  have hRs : xRs D cI (ad 8) (ad 9) zs fs H1 := xRs_keep hRs hk13 (fun z => z.elim (xne hj (by omega) (by omega) (by omega)) (xne hj (by omega) (by omega) (by omega))) (fun z => z.elim (xne hj (by omega) (by omega) (by omega)) (xne hj (by omega) (by omega) (by omega)))
  have hCs : xXC D cI ad zf pm H1 := xXC_keep hCs hk13 (fun i hi1 hi2 => (fun z => z.elim (xne hj (by omega) (by omega) (by omega)) (xne hj (by omega) (by omega) (by omega))))
  have hRu : xCh D cI (ad 4) (ad 5) n (srG fr n 0 n) H1 := hF13
  have hfr0 := hfr
  have hfr : ∀ i, srG fr n 0 n i < 8 := srG_bd8 hn8 hfr (fac_pos n)
  have hsid : ∀ x9, x9 < n → srG fr n 0 n x9 = x9 := hrk_inj (srG_hrk (fac_pos n)).1 (Prm.id n) ((srG_hrk (fac_pos n)).2.trans hrk_id.symm)
  refine lv_aload_n hx hb dX3_differ_16 rfl (lv_at hl 0 rfl) ?_
  refine x_get (v := .ref (ad 8)) (C := RX3) (T := TX3) (N := 8) hx hb hts (by decide +kernel) hown hK hO rfl 4 (by decide) (hts (.fieldLink RX3 33 "BellRanks" "ranks" "LBellRanks$RankSet;") (by decide +kernel)) (fun _ h9 => h9) rfl dX3_differ_17 ?_
  refine xmV (As := []) (rest := []) ⟨hx, hb, hml, hown, hts⟩ (cX2_removeAll_ l D cI cC (ad 8) (ad 9) zs fs (xne hj (by omega) (by omega) (by omega))) (cwV 0 hts gX3_differ_X2_removeAll rfl rfl rfl (by decide +kernel) ⟨Nat.le_of_ble_eq_true rfl, Nat.le_of_ble_eq_true rfl⟩) hK hRs (xRecv hK rfl hRs.1) rfl hl.1 rfl (Nat.le_of_ble_eq_true rfl) dX3_differ_20 ⟨(by show 0 + 1 + 0 ≤ 10; omega), (by show 0 + 6 + 0 ≤ 60; omega)⟩ hS (fun q h => h.elim (fun h => ⟨8, by omega, h⟩) (fun h => ⟨9, by omega, h⟩)) (fun q h => h.elim (fun h => ⟨8, by omega, h⟩) (fun h => ⟨9, by omega, h⟩)) (fun u20 H1 locs1 hp20 hF20 hz20 hk20 hS => ?_)
  have hO : xXO D ad n ch rg H1 := xat_keep hO hk20 (fun z => z.elim (xne hj (by omega) (by omega) (by omega)) (xne hj (by omega) (by omega) (by omega)))
  have hBk : xXB D cC ad H1 := xat_keep hBk hk20 (fun z => z.elim (xne hj (by omega) (by omega) (by omega)) (xne hj (by omega) (by omega) (by omega)))
  have hMe : xMe D cI (ad 2) (ad 3) st kf H1 := xMe_keep hMe hk20 (fun z => z.elim (xne hj (by omega) (by omega) (by omega)) (xne hj (by omega) (by omega) (by omega))) (fun z => z.elim (xne hj (by omega) (by omega) (by omega)) (xne hj (by omega) (by omega) (by omega)))
  have hRu : xCh D cI (ad 4) (ad 5) n (srG fr n 0 n) H1 := xCh_keep hRu hk20 (fun z => z.elim (xne hj (by omega) (by omega) (by omega)) (xne hj (by omega) (by omega) (by omega))) (fun z => z.elim (xne hj (by omega) (by omega) (by omega)) (xne hj (by omega) (by omega) (by omega)))
  have hMa : xCh D cI (ad 6) (ad 7) zm fm H1 := xCh_keep hMa hk20 (fun z => z.elim (xne hj (by omega) (by omega) (by omega)) (xne hj (by omega) (by omega) (by omega))) (fun z => z.elim (xne hj (by omega) (by omega) (by omega)) (xne hj (by omega) (by omega) (by omega)))
  have hCs : xXC D cI ad zf pm H1 := xXC_keep hCs hk20 (fun i hi1 hi2 => (fun z => z.elim (xne hj (by omega) (by omega) (by omega)) (xne hj (by omega) (by omega) (by omega))))
  have hRs : xRs D cI (ad 8) (ad 9) 0 fs H1 := hF20
  refine lv_aload_n hx hb dX3_differ_23 rfl (lv_at hl 0 rfl) ?_
  refine x_get (v := .ref (ad 8)) (C := RX3) (T := TX3) (N := 8) hx hb hts (by decide +kernel) hown hK hO rfl 4 (by decide) (hts (.fieldLink RX3 33 "BellRanks" "ranks" "LBellRanks$RankSet;") (by decide +kernel)) (fun _ h9 => h9) rfl dX3_differ_24 ?_
  refine lv_aload_n hx hb dX3_differ_27 rfl (lv_at hl 0 rfl) ?_
  refine x_get (v := .ref (ad 4)) (C := RX3) (T := TX3) (N := 8) hx hb hts (by decide +kernel) hown hK hO rfl 2 (by decide) (hts (.fieldLink RX3 23 "BellRanks" "rung" "LBellRanks$Change;") (by decide +kernel)) (fun _ h9 => h9) rfl dX3_differ_28 ?_
  refine xcV (As := []) (rest := [.ref (ad 8)]) ⟨hx, hb, hml, hown, hts⟩ (cX0_rank_ l D cI cC (ad 4) (ad 5) n (srG fr n 0 n) hn8 (fun i9 => Nat.lt_trans (hfr i9) (by decide))) (cwV 0 hts gX3_differ_X0_rank rfl rfl rfl (by decide +kernel) ⟨Nat.le_of_ble_eq_true rfl, Nat.le_of_ble_eq_true rfl⟩) hK hRu (xRecv hK rfl hRu.1) rfl hl.1 rfl (Nat.le_of_ble_eq_true rfl) dX3_differ_31 ⟨(by show 0 + 1 ≤ 10; omega), (by show 0 + 6 ≤ 60; omega)⟩ (fun x31 e31 => ?_)
  subst e31
  refine xmV (As := [.int (nI (hrk (srG fr n 0 n) n n))]) (rest := []) ⟨hx, hb, hml, hown, hts⟩ (cX2_add_ l D cI cC (ad 8) (ad 9) 0 fs (xne hj (by omega) (by omega) (by omega)) (by decide) (hrk (srG fr n 0 n) n n) (Nat.lt_trans (hrk_bd hn8) (by decide)) (fun i9 hi9 => absurd hi9 (Nat.not_lt_zero _))) (cwV 1 hts gX3_differ_X2_add rfl rfl rfl (by decide +kernel) ⟨Nat.le_of_ble_eq_true rfl, Nat.le_of_ble_eq_true rfl⟩) hK hRs (xRecv hK rfl hRs.1) rfl hl.1 rfl (Nat.le_of_ble_eq_true rfl) dX3_differ_34 ⟨(by show 0 + 1 + 0 ≤ 10; omega), (by show 0 + 6 + 0 ≤ 60; omega)⟩ hS (fun q h => h.elim (fun h => ⟨8, by omega, h⟩) (fun h => ⟨9, by omega, h⟩)) (fun q h => h.elim (fun h => ⟨8, by omega, h⟩) (fun h => ⟨9, by omega, h⟩)) (fun u34 H1 locs1 hp34 hF34 hz34 hk34 hS => ?_)
  have hO : xXO D ad n ch rg H1 := xat_keep hO hk34 (fun z => z.elim (xne hj (by omega) (by omega) (by omega)) (xne hj (by omega) (by omega) (by omega)))
  have hBk : xXB D cC ad H1 := xat_keep hBk hk34 (fun z => z.elim (xne hj (by omega) (by omega) (by omega)) (xne hj (by omega) (by omega) (by omega)))
  have hMe : xMe D cI (ad 2) (ad 3) st kf H1 := xMe_keep hMe hk34 (fun z => z.elim (xne hj (by omega) (by omega) (by omega)) (xne hj (by omega) (by omega) (by omega))) (fun z => z.elim (xne hj (by omega) (by omega) (by omega)) (xne hj (by omega) (by omega) (by omega)))
  have hRu : xCh D cI (ad 4) (ad 5) n (srG fr n 0 n) H1 := xCh_keep hRu hk34 (fun z => z.elim (xne hj (by omega) (by omega) (by omega)) (xne hj (by omega) (by omega) (by omega))) (fun z => z.elim (xne hj (by omega) (by omega) (by omega)) (xne hj (by omega) (by omega) (by omega)))
  have hMa : xCh D cI (ad 6) (ad 7) zm fm H1 := xCh_keep hMa hk34 (fun z => z.elim (xne hj (by omega) (by omega) (by omega)) (xne hj (by omega) (by omega) (by omega))) (fun z => z.elim (xne hj (by omega) (by omega) (by omega)) (xne hj (by omega) (by omega) (by omega)))
  have hCs : xXC D cI ad zf pm H1 := xXC_keep hCs hk34 (fun i hi1 hi2 => (fun z => z.elim (xne hj (by omega) (by omega) (by omega)) (xne hj (by omega) (by omega) (by omega))))
  have hRs : xRs D cI (ad 8) (ad 9) u34.1 u34.2 H1 := hF34
  have hdg0 := dg_step (g := dfG (n, ch, pm, st, kf, rg)) (L := 0) (k := 0) (fun v9 => ⟨fun ⟨i9, z, _⟩ => absurd z (Nat.not_lt_zero _), fun ⟨i9, z, _⟩ => absurd z (Nat.not_lt_zero _)⟩) rfl hp34 ((srG_hrk (fac_pos n)).2.trans hrk_id.symm)
  refine lv_aload_n hx hb dX3_differ_37 rfl (lv_at hl 0 rfl) ?_
  refine x_get (v := .ref (ad 2)) (C := RX3) (T := TX3) (N := 8) hx hb hts (by decide +kernel) hown hK hO rfl 1 (by decide) (hts (.fieldLink RX3 19 "BellRanks" "method" "LBellRanks$Method;") (by decide +kernel)) (fun _ h9 => h9) rfl dX3_differ_38 ?_
  refine xcV (As := []) (rest := []) ⟨hx, hb, hml, hown, hts⟩ (cX1_length_ l D cI cC (ad 2) (ad 3) st kf) (cwV 0 hts gX3_differ_X1_length rfl rfl rfl (by decide +kernel) ⟨Nat.le_of_ble_eq_true rfl, Nat.le_of_ble_eq_true rfl⟩) hK hMe (xRecv hK rfl hMe.1) rfl hl.1 rfl (Nat.le_of_ble_eq_true rfl) dX3_differ_41 ⟨(by show 0 + 1 ≤ 10; omega), (by show 0 + 6 ≤ 60; omega)⟩ (fun x41 e41 => ?_)
  subst e41
  refine xn_if_le (tgt := 86) hx hb dX3_differ_44 (by decide) (by omega) (fun c44 => ?_) (fun c44 => ?_)
  · refine lv_aload_n hx hb dX3_differ_86 rfl (lv_at hl 0 rfl) ?_
    refine x_get (v := .ref (ad 8)) (C := RX3) (T := TX3) (N := 8) hx hb hts (by decide +kernel) hown hK hO rfl 4 (by decide) (hts (.fieldLink RX3 33 "BellRanks" "ranks" "LBellRanks$RankSet;") (by decide +kernel)) (fun _ h9 => h9) rfl dX3_differ_87 ?_
    refine xcV (As := []) (rest := []) ⟨hx, hb, hml, hown, hts⟩ (cX2_size_ l D cI cC (ad 8) (ad 9) u34.1 u34.2) (cwV 0 hts gX3_differ_X2_size rfl rfl rfl (by decide +kernel) ⟨Nat.le_of_ble_eq_true rfl, Nat.le_of_ble_eq_true rfl⟩) hK hRs (xRecv hK rfl hRs.1) rfl hl.1 rfl (Nat.le_of_ble_eq_true rfl) dX3_differ_90 ⟨(by show 0 + 1 ≤ 10; omega), (by show 0 + 6 ≤ 60; omega)⟩ (fun x90 e90 => ?_)
    subst e90
    have ht : tDiffer (n, ch, pm, st, kf, rg) (nI j1) = 0 := if_pos hi1
    refine W.widen (k := 10) (n := 60) (by omega) (by omega) ?_
    refine vx_ret ?_
    exact x_miret hx hb hr hlocks () ⟨ht, (by show _ = rDiffer _ (nI j1); unfold rDiffer; simp only [xN_nI hj1b]; rw [if_pos (show st = 0 by omega), hdg0.1]; rfl)⟩ (xXW_mk (S := (n, ch, pm, st, kf, rg)) hO hBk hMe hRu hfr hMa hfm hRs hCs hz) hS (fun _ h => h) dX3_differ_93
  · have hst0 : 0 < st := by omega
    refine xn_iconst (v := 0) hx hb dX3_differ_47 (by decide) ?_
    refine lv_istore_n (lv' := [(2, .int (nI 0)), (0, .ref (ad 0)), (1, .int (nI j1))]) hx hb dX3_differ_48 rfl hl (by decide) rfl (fun ls hl => ?_)
    refine x_loopH (σ := Nat × Nat × (Nat → Nat)) (fun a => j1 - a.1) (fun a H locs cells slots ls => (a.1 ≤ j1) ∧ (a.2.1 = sm (nwf (dfG (n, ch, pm, st, kf, rg))) (a.1 + 1)) ∧ (∀ v9, (∃ i9, i9 < a.2.1 ∧ a.2.2 i9 = v9) ↔ (∃ q8, q8 < a.1 + 1 ∧ dfG (n, ch, pm, st, kf, rg) q8 = v9)) ∧ (xXO D ad n ch rg H) ∧ (xXB D cC ad H) ∧ (xMe D cI (ad 2) (ad 3) st kf H) ∧ (xCh D cI (ad 4) (ad 5) n (rgs kf st n (srG fr n 0 n) a.1) H) ∧ (xCh D cI (ad 6) (ad 7) zm fm H) ∧ (xRs D cI (ad 8) (ad 9) a.2.1 a.2.2 H) ∧ (xXC D cI ad zf pm H) ∧ (va_S (xAD ad) s.heap H locs) ∧ (cells ≤ 2) ∧ (slots ≤ 12) ∧ lv_has ls 3 [(0, .ref (ad 0)), (1, .int (nI j1)), (2, .int (nI a.1))]) ?_ (0, u34.1, u34.2) _ _ _ _ ls ⟨(Nat.zero_le _), hdg0.1, hdg0.2, hO, hBk, hMe, hRu, hMa, hRs, hCs, hS, (by omega), (by omega), lv_sub hl [1, 2, 0] rfl⟩
    rintro ⟨i, z9, g9⟩ H locs cells slots ls ⟨h2, h3, hset, hO, hBk, hMe, hRu, hMa, hRs, hCs, hS, hce, hse, hl⟩ ih49
    dsimp only at h2 h3 hset hO hBk hMe hRu hMa hRs hCs hS hce hse hl
    have hzl := sm_nwf_le (dfG (n, ch, pm, st, kf, rg)) (i + 1)
    rw [← h3] at hzl
    have hsb : ∀ i9, i9 < z9 → g9 i9 < 2 ^ 31 := fun i9 hi9 => by
      obtain ⟨q8, -, e9⟩ := (hset (g9 i9)).mp ⟨i9, hi9, rfl⟩
      rw [← e9]
      exact Nat.lt_trans (hrk_bd hn8) (by decide)
    refine lv_iload_n hx hb dX3_differ_49 rfl (lv_at hl 2 rfl) ?_
    refine lv_iload_n hx hb dX3_differ_50 rfl (lv_at hl 1 rfl) ?_
    refine xn_icmp_ge (tgt := 86) hx hb dX3_differ_51 (by decide) (by omega) (by omega) (fun c51 => ?_) (fun c51 => ?_)
    · refine lv_aload_n hx hb dX3_differ_86 rfl (lv_at hl 0 rfl) ?_
      refine x_get (v := .ref (ad 8)) (C := RX3) (T := TX3) (N := 8) hx hb hts (by decide +kernel) hown hK hO rfl 4 (by decide) (hts (.fieldLink RX3 33 "BellRanks" "ranks" "LBellRanks$RankSet;") (by decide +kernel)) (fun _ h9 => h9) rfl dX3_differ_87 ?_
      refine xcV (As := []) (rest := []) ⟨hx, hb, hml, hown, hts⟩ (cX2_size_ l D cI cC (ad 8) (ad 9) z9 g9) (cwV 0 hts gX3_differ_X2_size rfl rfl rfl (by decide +kernel) ⟨Nat.le_of_ble_eq_true rfl, Nat.le_of_ble_eq_true rfl⟩) hK hRs (xRecv hK rfl hRs.1) rfl hl.1 rfl (Nat.le_of_ble_eq_true rfl) dX3_differ_90 ⟨(by show cells ≤ 10; omega), (by show slots ≤ 60; omega)⟩ (fun x90 e90 => ?_)
      subst e90
      have hfr : ∀ i9, rgs kf st n (srG fr n 0 n) i i9 < 8 := rgs_bd hfr i
      have ht : tDiffer (n, ch, pm, st, kf, rg) (nI j1) = 0 := if_pos hi1
      refine W.widen (k := 10) (n := 60) (by omega) (by omega) ?_
      refine vx_ret ?_
      exact x_miret hx hb hr hlocks () ⟨ht, (by show _ = rDiffer _ (nI j1); unfold rDiffer; simp only [xN_nI hj1b]; rw [if_neg (show ¬ st = 0 by omega), h3, show i = j1 by omega])⟩ (xXW_mk (S := (n, ch, pm, st, kf, rg)) hO hBk hMe hRu hfr hMa hfm hRs hCs hz) hS (fun _ h => h) dX3_differ_93
    · refine lv_aload_n hx hb dX3_differ_54 rfl (lv_at hl 0 rfl) ?_
      refine x_get (v := .ref (ad 2)) (C := RX3) (T := TX3) (N := 8) hx hb hts (by decide +kernel) hown hK hO rfl 1 (by decide) (hts (.fieldLink RX3 19 "BellRanks" "method" "LBellRanks$Method;") (by decide +kernel)) (fun _ h9 => h9) rfl dX3_differ_55 ?_
      refine lv_aload_n hx hb dX3_differ_58 rfl (lv_at hl 0 rfl) ?_
      refine x_get (v := .ref (ad 4)) (C := RX3) (T := TX3) (N := 8) hx hb hts (by decide +kernel) hown hK hO rfl 2 (by decide) (hts (.fieldLink RX3 23 "BellRanks" "rung" "LBellRanks$Change;") (by decide +kernel)) (fun _ h9 => h9) rfl dX3_differ_59 ?_
      refine lv_iload_n hx hb dX3_differ_62 rfl (lv_at hl 2 rfl) ?_
      refine xmV (As := [.ref (ad 4), .int (nI i)]) (rest := []) ⟨hx, hb, hml, hown, hts⟩ (cX1_ringOn_ l D cI cC (ad 2) (ad 3) st kf (ad 4) (ad 5) n (rgs kf st n (srG fr n 0 n) i) (xne hj (by omega) (by omega) (by omega)) hn8 hst0 (by omega) hkb i (by omega)) (cwV 2 hts gX3_differ_X1_ringOn rfl rfl rfl (by decide +kernel) ⟨Nat.le_of_ble_eq_true rfl, Nat.le_of_ble_eq_true rfl⟩) hK ⟨hMe, hRu⟩ (xRecv hK rfl hMe.1) rfl hl.1 rfl (Nat.le_of_ble_eq_true rfl) dX3_differ_63 ⟨(by show cells + 0 ≤ 10; omega), (by show slots + 0 ≤ 60; omega)⟩ hS (fun q h => ⟨5, by omega, h⟩) (fun q h => ⟨5, by omega, h⟩) (fun u63 H1 locs1 hp63 hF63 hz63 hk63 hS => ?_)
      have hO : xXO D ad n ch rg H1 := xat_keep hO hk63 (xne hj (by omega) (by omega) (by omega))
      have hBk : xXB D cC ad H1 := xat_keep hBk hk63 (xne hj (by omega) (by omega) (by omega))
      have hMe : xMe D cI (ad 2) (ad 3) st kf H1 := xMe_keep hMe hk63 (xne hj (by omega) (by omega) (by omega)) (xne hj (by omega) (by omega) (by omega))
      have hMa : xCh D cI (ad 6) (ad 7) zm fm H1 := xCh_keep hMa hk63 (xne hj (by omega) (by omega) (by omega)) (xne hj (by omega) (by omega) (by omega))
      have hRs : xRs D cI (ad 8) (ad 9) z9 g9 H1 := xRs_keep hRs hk63 (xne hj (by omega) (by omega) (by omega)) (xne hj (by omega) (by omega) (by omega))
      have hCs : xXC D cI ad zf pm H1 := xXC_keep hCs hk63 (fun i hi1 hi2 => (xne hj (by omega) (by omega) (by omega)))
      have hRu : xCh D cI (ad 4) (ad 5) n (rst (kf (i % st)) n n 0 (rgs kf st n (srG fr n 0 n) i)) H1 := hF63
      refine lv_aload_n hx hb dX3_differ_66 rfl (lv_at hl 0 rfl) ?_
      refine x_get (v := .ref (ad 8)) (C := RX3) (T := TX3) (N := 8) hx hb hts (by decide +kernel) hown hK hO rfl 4 (by decide) (hts (.fieldLink RX3 33 "BellRanks" "ranks" "LBellRanks$RankSet;") (by decide +kernel)) (fun _ h9 => h9) rfl dX3_differ_67 ?_
      refine lv_aload_n hx hb dX3_differ_70 rfl (lv_at hl 0 rfl) ?_
      refine x_get (v := .ref (ad 4)) (C := RX3) (T := TX3) (N := 8) hx hb hts (by decide +kernel) hown hK hO rfl 2 (by decide) (hts (.fieldLink RX3 23 "BellRanks" "rung" "LBellRanks$Change;") (by decide +kernel)) (fun _ h9 => h9) rfl dX3_differ_71 ?_
      refine xcV (As := []) (rest := [.ref (ad 8)]) ⟨hx, hb, hml, hown, hts⟩ (cX0_rank_ l D cI cC (ad 4) (ad 5) n (rst (kf (i % st)) n n 0 (rgs kf st n (srG fr n 0 n) i)) hn8 (fun i9 => Nat.lt_trans ((rgs_bd hfr (i + 1)) i9) (by decide))) (cwV 0 hts gX3_differ_X0_rank rfl rfl rfl (by decide +kernel) ⟨Nat.le_of_ble_eq_true rfl, Nat.le_of_ble_eq_true rfl⟩) hK hRu (xRecv hK rfl hRu.1) rfl hl.1 rfl (Nat.le_of_ble_eq_true rfl) dX3_differ_74 ⟨(by show cells ≤ 10; omega), (by show slots ≤ 60; omega)⟩ (fun x74 e74 => ?_)
      subst e74
      refine xmV (As := [.int (nI (hrk (rst (kf (i % st)) n n 0 (rgs kf st n (srG fr n 0 n) i)) n n))]) (rest := []) ⟨hx, hb, hml, hown, hts⟩ (cX2_add_ l D cI cC (ad 8) (ad 9) z9 g9 (xne hj (by omega) (by omega) (by omega)) (by omega) (hrk (rst (kf (i % st)) n n 0 (rgs kf st n (srG fr n 0 n) i)) n n) (Nat.lt_trans (hrk_bd hn8) (by decide)) hsb) (cwV 1 hts gX3_differ_X2_add rfl rfl rfl (by decide +kernel) ⟨Nat.le_of_ble_eq_true rfl, Nat.le_of_ble_eq_true rfl⟩) hK hRs (xRecv hK rfl hRs.1) rfl hl.1 rfl (Nat.le_of_ble_eq_true rfl) dX3_differ_77 ⟨(by show cells + 0 ≤ 10; omega), (by show slots + 0 ≤ 60; omega)⟩ hS (fun q h => h.elim (fun h => ⟨8, by omega, h⟩) (fun h => ⟨9, by omega, h⟩)) (fun q h => h.elim (fun h => ⟨8, by omega, h⟩) (fun h => ⟨9, by omega, h⟩)) (fun u77 H1 locs1 hp77 hF77 hz77 hk77 hS => ?_)
      have hO : xXO D ad n ch rg H1 := xat_keep hO hk77 (fun z => z.elim (xne hj (by omega) (by omega) (by omega)) (xne hj (by omega) (by omega) (by omega)))
      have hBk : xXB D cC ad H1 := xat_keep hBk hk77 (fun z => z.elim (xne hj (by omega) (by omega) (by omega)) (xne hj (by omega) (by omega) (by omega)))
      have hMe : xMe D cI (ad 2) (ad 3) st kf H1 := xMe_keep hMe hk77 (fun z => z.elim (xne hj (by omega) (by omega) (by omega)) (xne hj (by omega) (by omega) (by omega))) (fun z => z.elim (xne hj (by omega) (by omega) (by omega)) (xne hj (by omega) (by omega) (by omega)))
      have hRu : xCh D cI (ad 4) (ad 5) n (rst (kf (i % st)) n n 0 (rgs kf st n (srG fr n 0 n) i)) H1 := xCh_keep hRu hk77 (fun z => z.elim (xne hj (by omega) (by omega) (by omega)) (xne hj (by omega) (by omega) (by omega))) (fun z => z.elim (xne hj (by omega) (by omega) (by omega)) (xne hj (by omega) (by omega) (by omega)))
      have hMa : xCh D cI (ad 6) (ad 7) zm fm H1 := xCh_keep hMa hk77 (fun z => z.elim (xne hj (by omega) (by omega) (by omega)) (xne hj (by omega) (by omega) (by omega))) (fun z => z.elim (xne hj (by omega) (by omega) (by omega)) (xne hj (by omega) (by omega) (by omega)))
      have hCs : xXC D cI ad zf pm H1 := xXC_keep hCs hk77 (fun i hi1 hi2 => (fun z => z.elim (xne hj (by omega) (by omega) (by omega)) (xne hj (by omega) (by omega) (by omega))))
      have hRs : xRs D cI (ad 8) (ad 9) u77.1 u77.2 H1 := hF77
      have hdg := dg_step (g := dfG (n, ch, pm, st, kf, rg)) hset h3 hp77 (hrk_congr (rgs_congr hsid (i + 1)) n (Nat.le_refl _))
      refine xn_iinc (v := i + 1) (lv' := [(2, .int (nI (i + 1))), (0, .ref (ad 0)), (1, .int (nI j1))]) hx hb dX3_differ_80 hl (k := 2) rfl (xinc1 _) (by decide) rfl (fun ls hl => ?_)
      refine lv_goto (tgt := 49) hx hb dX3_differ_83 (by decide) ?_
      exact ih49 (i + 1, u77.1, u77.2) _ _ _ _ ls ⟨(by dsimp only; omega), hdg.1, hdg.2, hO, hBk, hMe, hRu, hMa, hRs, hCs, hS, hce, hse, lv_sub hl [1, 2, 0] rfl⟩ (by dsimp only; omega)

set_option maxRecDepth 100000 in
set_option maxHeartbeats 4000000 in
theorem kAdvise_ (l : Launch) (hst9 : l.stackTraces = false) (D : va_G) (cI cC : ClassId) (ad : Nat → Nat) (hj : xInj ad) (S : AS) (hI : AI S) (x : Int32) : vx_Met l yX3_advise wsX3_advise (xRm 14 10 60) (va_Pc [.ref (ad 0), .int x] (xBZ D cI cC (xXW D cI cC ad S) (xAD ad))) (xI (fun r (_ : Unit) => tIn S x = 0 ∧ r = rAdvise S x) (fun _ H => xXW D cI cC ad (S) H) (xAD ad)) (xX (xAD ad) (fun E H => (tIn S x = 1 ∧ E = xEI) ∧ xXW D cI cC ad S H)) 10 60 (xAD ad) := by
  obtain ⟨n, ch, pm, st, kf, rg⟩ := S
  obtain ⟨⟨hn2, hn8⟩, hch, hst, hpm8, hpm, hkv, hkb⟩ := id hI
  dsimp only at hn2 hn8 hch hst hpm8 hpm hkv hkb
  refine vx_ofW (cc := cX3_advise) (maxL := 7) (ret := (some .int)) (by decide) rfl ?_
  intro p e s m args below meth c s₁ B hml htb hv
  obtain ⟨rfl, hP, hK, hZ⟩ := hv
  have hx := B.exec
  have hb := B.bytes
  have hr := B.returns
  have hts := atoms_spec (ws := wsX3_advise) B.pre
  have hown : s.vm.findClass RX3 = some m.cls := findClass_of_methodNamed B.named
  have hlocks := B.notSynchronized
  have hW := hP
  have hl := lv_entry ([.ref (ad 0), .int x]) (n := 7) (Nat.le_of_ble_eq_true rfl)
  rw [lg_entry_eq]
  generalize (lg_sl ([.ref (ad 0), .int x]) ++ List.replicate (7 - (lg_sl ([.ref (ad 0), .int x])).length) Slot.unset).toArray = ls at hl ⊢
  have hl : lv_has ls 7 [(0, .ref (ad 0)), (1, .int x)] := hl
  obtain ⟨zr, zm, zs, fr, fm, fs, zf, hO, hBk, hMe, hRu, hfr, hMa, hfm, hRs, hCs, hz⟩ := id hW
  have hO : xXO D ad n ch rg s.heap := hO
  have hMe : xMe D cI (ad 2) (ad 3) st kf s.heap := hMe
  have hCs : xXC D cI ad zf pm s.heap := hCs
  have hz : ∀ k, k < ch → zf k = n := hz
  have hS : va_S (xAD ad) s.heap s.heap [] := va_S.rf
  refine lv_aload_n hx hb dX3_advise_0 rfl (lv_at hl 0 rfl) ?_
  refine lv_iload_n hx hb dX3_advise_1 rfl (lv_at hl 1 rfl) ?_
  refine xtR (As := [.int x]) (rest := []) ⟨hx, hb, hml, hown, hts⟩ (cX3_find_ l hst9 D cI cC ad _ n ch rg (by omega) x) (cwV 1 hts gX3_advise_X3_find rfl rfl rfl (by decide +kernel) ⟨Nat.le_of_ble_eq_true rfl, Nat.le_of_ble_eq_true rfl⟩) hK ((hZ.kept hS.2.1).narrow (fun q h => h.elim)) ⟨rfl, hO, hBk⟩ (xRecv hK rfl hO) rfl hl.1 rfl (Nat.le_of_ble_eq_true rfl) dX3_advise_2 ⟨(by show 0 + 1 ≤ 10; omega), (by show 0 + 6 ≤ 60; omega)⟩ hS (fun q h => h.elim) (fun q h => h.elim) (fun E ce q9 H1 locs1 hB hz9 hk9 hS h1 h2 h3 => ?_) (fun u ra H1 locs1 hp hF hz9 hk2 hS => ?_)
  · obtain ⟨rfl, hn⟩ := hB
    exact x_pass htb hlocks h1 h2 h3 ⟨⟨if_neg hn, rfl⟩, (xXW_old hW (fun x9 hx9 => hk9 x9 hx9 id))⟩ hS (fun _ h => h) (by omega) (by omega)
  obtain ⟨rfl, hra⟩ := hF
  have hi2 := hp
  obtain ⟨j1, hj1, hj1b, rfl⟩ := inR_of hp
  rw [xN_nI hj1b] at hra
  subst hra
  have hl : lv_has ls 7 [(0, .ref (ad 0)), (1, .int (nI j1))] := hl
  have hC1 : xCh D cI (ad (10 + j1)) (ad (26 + j1)) n (pm j1) s.heap := xXC_at hCs (show j1 < 16 by omega) (hz j1 hj1)
  refine lv_astore_n (lv' := [(2, .ref (ad (10 + j1))), (0, .ref (ad 0)), (1, .int (nI j1))]) hx hb dX3_advise_5 rfl hl (by decide) rfl (fun ls hl => ?_)
  refine xn_iconst (v := 0) hx hb dX3_advise_6 (by decide) ?_
  refine lv_istore_n (lv' := [(3, .int (nI 0)), (2, .ref (ad (10 + j1))), (0, .ref (ad 0)), (1, .int (nI j1))]) hx hb dX3_advise_7 rfl hl (by decide) rfl (fun ls hl => ?_)
  refine xn_iconst (v := 0) hx hb dX3_advise_8 (by decide) ?_
  refine lv_istore (lv' := [(4, .int (nI 0)), (3, .int (nI 0)), (2, .ref (ad (10 + j1))), (0, .ref (ad 0)), (1, .int (nI j1))]) hx hb dX3_advise_9 hl (by decide) rfl (fun ls hl => ?_)
  refine xn_iconst (v := 0) hx hb dX3_advise_11 (by decide) ?_
  refine lv_istore (lv' := [(5, .int (nI 0)), (4, .int (nI 0)), (3, .int (nI 0)), (2, .ref (ad (10 + j1))), (0, .ref (ad 0)), (1, .int (nI j1))]) hx hb dX3_advise_12 hl (by decide) rfl (fun ls hl => ?_)
  refine x_loopH (σ := Nat × Nat × Nat × Nat × (Nat → Nat)) (fun a => ch - a.1) (fun a H locs cells slots ls => (a.1 ≤ ch) ∧ ((a.1 = 0 ∧ a.2.1 = 0) ∨ (0 < a.1 ∧ a.2.1 = adB (adG (n, ch, pm, st, kf, rg) j1) (a.1 - 1) ∧ a.2.2.1 = adG (n, ch, pm, st, kf, rg) j1 (adB (adG (n, ch, pm, st, kf, rg) j1) (a.1 - 1)))) ∧ (∀ x9, a.2.2.2.2 x9 < 8) ∧ (xXO D ad n ch rg H) ∧ (xXB D cC ad H) ∧ (xMe D cI (ad 2) (ad 3) st kf H) ∧ (xCh D cI (ad 4) (ad 5) zr fr H) ∧ (xCh D cI (ad 6) (ad 7) a.2.2.2.1 a.2.2.2.2 H) ∧ (xRs D cI (ad 8) (ad 9) zs fs H) ∧ (xXC D cI ad zf pm H) ∧ (xCh D cI (ad (10 + j1)) (ad (26 + j1)) n (pm j1) H) ∧ (va_S (xAD ad) s.heap H locs) ∧ (cells ≤ 2) ∧ (slots ≤ 12) ∧ lv_has ls 7 [(0, .ref (ad 0)), (1, .int (nI j1)), (2, .ref (ad (10 + j1))), (3, .int (nI a.2.1)), (4, .int (nI a.2.2.1)), (5, .int (nI a.1))]) ?_ (0, 0, 0, zm, fm) _ _ _ _ ls ⟨(Nat.zero_le _), (Or.inl ⟨rfl, rfl⟩), hfm, hO, hBk, hMe, hRu, hMa, hRs, hCs, hC1, hS, (by omega), (by omega), lv_sub hl [4, 5, 3, 2, 1, 0] rfl⟩
  rintro ⟨k, bst, lw, zm9, fm9⟩ H locs cells slots ls ⟨h2, h3, hfm, hO, hBk, hMe, hRu, hMa, hRs, hCs, hC1, hS, hce, hse, hl⟩ ih14
  dsimp only at h2 h3 hfm hO hBk hMe hRu hMa hRs hCs hC1 hS hce hse hl
  refine lv_iload hx hb dX3_advise_14 (lv_at hl 5 rfl) ?_
  refine lv_aload_n hx hb dX3_advise_16 rfl (lv_at hl 0 rfl) ?_
  refine x_get (v := .int (nI ch)) (C := RX3) (T := TX3) (N := 8) hx hb hts (by decide +kernel) hown hK hO rfl 6 (by decide) (hts (.fieldLink RX3 41 "BellRanks" "written" "I") (by decide +kernel)) (fun _ h9 => h9) rfl dX3_advise_17 ?_
  refine xn_icmp_ge (tgt := 72) hx hb dX3_advise_20 (by decide) (by omega) (by omega) (fun c20 => ?_) (fun c20 => ?_)
  · refine lv_iload_n hx hb dX3_advise_72 rfl (lv_at hl 3 rfl) ?_
    have ht : tIn (n, ch, pm, st, kf, rg) (nI j1) = 0 := if_pos hi2
    refine W.widen (k := 10) (n := 60) (by omega) (by omega) ?_
    refine vx_ret ?_
    exact x_miret hx hb hr hlocks () ⟨ht, (by show _ = rAdvise _ (nI j1); unfold rAdvise; simp only [xN_nI hj1b]; rcases h3 with z | z; exact absurd z.1 (by omega); rw [z.2.1, show k = ch by omega])⟩ (xXW_mk (S := (n, ch, pm, st, kf, rg)) hO hBk hMe hRu hfr hMa hfm hRs hCs hz) hS (fun _ h => h) dX3_advise_73
  · have hgk : ∀ z9, adG (n, ch, pm, st, kf, rg) j1 z9 < 2 ^ 31 := fun z9 => Nat.lt_of_le_of_lt (ivs_le _ _) (by have h9 : n * n ≤ 8 * 8 := Nat.mul_le_mul hn8 hn8; show n * n < 2 ^ 31; omega)
    refine lv_aload_n hx hb dX3_advise_23 rfl (lv_at hl 0 rfl) ?_
    refine x_get (v := .ref (ad 6)) (C := RX3) (T := TX3) (N := 8) hx hb hts (by decide +kernel) hown hK hO rfl 3 (by decide) (hts (.fieldLink RX3 27 "BellRanks" "made" "LBellRanks$Change;") (by decide +kernel)) (fun _ h9 => h9) rfl dX3_advise_24 ?_
    refine lv_aload_n hx hb dX3_advise_27 rfl (lv_at hl 2 rfl) ?_
    refine lv_aload_n hx hb dX3_advise_28 rfl (lv_at hl 0 rfl) ?_
    refine x_get (v := .ref (ad 1)) (C := RX3) (T := TX3) (N := 8) hx hb hts (by decide +kernel) hown hK hO rfl 0 (by decide) (hts (.fieldLink RX3 11 "BellRanks" "book" "[LBellRanks$Change;") (by decide +kernel)) (fun _ h9 => h9) rfl dX3_advise_29 ?_
    refine lv_iload hx hb dX3_advise_32 (lv_at hl 5 rfl) ?_
    refine x_aald hx hb hK hBk (show k < 16 by omega) (by decide) dX3_advise_34 ?_
    refine xmV (As := [.ref (ad (10 + j1)), .ref (ad (10 + k))]) (rest := []) ⟨hx, hb, hml, hown, hts⟩ (cX0_setBehind_ l D cI cC (ad 6) (ad 7) zm9 fm9 (ad (10 + k)) (ad (26 + k)) n (pm k) (ad (10 + j1)) (ad (26 + j1)) n (pm j1) (xne hj (by omega) (by omega) (by omega)) (xne hj (by omega) (by omega) (by omega)) (xne hj (by omega) (by omega) (by omega)) (xne hj (by omega) (by omega) (by omega)) (xne hj (by omega) (by omega) (by omega)) (xne hj (by omega) (by omega) (by omega)) (xne hj (by omega) (by omega) (by omega)) (xne hj (by omega) (by omega) (by omega)) (xne hj (by omega) (by omega) (by omega)) hn8 (hpm8 k)) (cwV 2 hts gX3_advise_X0_setBehind rfl rfl rfl (by decide +kernel) ⟨Nat.le_of_ble_eq_true rfl, Nat.le_of_ble_eq_true rfl⟩) hK ⟨hMa, hC1, (xXC_at hCs (show k < 16 by omega) (hz k (by omega)))⟩ (xRecv hK rfl hMa.1) rfl hl.1 rfl (Nat.le_of_ble_eq_true rfl) dX3_advise_35 ⟨(by show cells + 0 ≤ 10; omega), (by show slots + 0 ≤ 60; omega)⟩ hS (fun q h => h.elim (fun h => ⟨6, by omega, h⟩) (fun h => ⟨7, by omega, h⟩)) (fun q h => h.elim (fun h => ⟨6, by omega, h⟩) (fun h => ⟨7, by omega, h⟩)) (fun u35 H1 locs1 hp35 hF35 hz35 hk35 hS => ?_)
    have hO : xXO D ad n ch rg H1 := xat_keep hO hk35 (fun z => z.elim (xne hj (by omega) (by omega) (by omega)) (xne hj (by omega) (by omega) (by omega)))
    have hBk : xXB D cC ad H1 := xat_keep hBk hk35 (fun z => z.elim (xne hj (by omega) (by omega) (by omega)) (xne hj (by omega) (by omega) (by omega)))
    have hMe : xMe D cI (ad 2) (ad 3) st kf H1 := xMe_keep hMe hk35 (fun z => z.elim (xne hj (by omega) (by omega) (by omega)) (xne hj (by omega) (by omega) (by omega))) (fun z => z.elim (xne hj (by omega) (by omega) (by omega)) (xne hj (by omega) (by omega) (by omega)))
    have hRu : xCh D cI (ad 4) (ad 5) zr fr H1 := xCh_keep hRu hk35 (fun z => z.elim (xne hj (by omega) (by omega) (by omega)) (xne hj (by omega) (by omega) (by omega))) (fun z => z.elim (xne hj (by omega) (by omega) (by omega)) (xne hj (by omega) (by omega) (by omega)))
    have hRs : xRs D cI (ad 8) (ad 9) zs fs H1 := xRs_keep hRs hk35 (fun z => z.elim (xne hj (by omega) (by omega) (by omega)) (xne hj (by omega) (by omega) (by omega))) (fun z => z.elim (xne hj (by omega) (by omega) (by omega)) (xne hj (by omega) (by omega) (by omega)))
    have hC1 : xCh D cI (ad (10 + j1)) (ad (26 + j1)) n (pm j1) H1 := xCh_keep hC1 hk35 (fun z => z.elim (xne hj (by omega) (by omega) (by omega)) (xne hj (by omega) (by omega) (by omega))) (fun z => z.elim (xne hj (by omega) (by omega) (by omega)) (xne hj (by omega) (by omega) (by omega)))
    have hCs : xXC D cI ad zf pm H1 := xXC_keep hCs hk35 (fun i hi1 hi2 => (fun z => z.elim (xne hj (by omega) (by omega) (by omega)) (xne hj (by omega) (by omega) (by omega))))
    have hMa : xCh D cI (ad 6) (ad 7) n (cpy fm9 (fun q9 => (pm j1) ((pm k) q9)) n) H1 := hF35
    refine lv_aload_n hx hb dX3_advise_38 rfl (lv_at hl 0 rfl) ?_
    refine x_get (v := .ref (ad 6)) (C := RX3) (T := TX3) (N := 8) hx hb hts (by decide +kernel) hown hK hO rfl 3 (by decide) (hts (.fieldLink RX3 27 "BellRanks" "made" "LBellRanks$Change;") (by decide +kernel)) (fun _ h9 => h9) rfl dX3_advise_39 ?_
    refine xcV (As := []) (rest := []) ⟨hx, hb, hml, hown, hts⟩ (cX0_inversions_ l D cI cC (ad 6) (ad 7) n (cpy fm9 (fun q9 => (pm j1) ((pm k) q9)) n) hn8 (fun i9 => Nat.lt_trans ((cpy_bd hfm (fun _ _ => hpm8 j1 _)) i9) (by decide))) (cwV 0 hts gX3_advise_X0_inversions rfl rfl rfl (by decide +kernel) ⟨Nat.le_of_ble_eq_true rfl, Nat.le_of_ble_eq_true rfl⟩) hK hMa (xRecv hK rfl hMa.1) rfl hl.1 rfl (Nat.le_of_ble_eq_true rfl) dX3_advise_42 ⟨(by show cells ≤ 10; omega), (by show slots ≤ 60; omega)⟩ (fun x42 e42 => ?_)
    subst e42
    refine xz_i (congrArg nI (show ivs (cpy fm9 (fun q9 => (pm j1) ((pm k) q9)) n) n = adG (n, ch, pm, st, kf, rg) j1 k from ivs_congr (fun _ hi => cpy_lt hi))) ?_
    refine lv_istore (lv' := [(6, .int (nI (adG (n, ch, pm, st, kf, rg) j1 k))), (0, .ref (ad 0)), (1, .int (nI j1)), (2, .ref (ad (10 + j1))), (3, .int (nI bst)), (4, .int (nI lw)), (5, .int (nI k))]) hx hb dX3_advise_45 hl (by decide) rfl (fun ls hl => ?_)
    refine lv_iload hx hb dX3_advise_47 (lv_at hl 6 rfl) ?_
    refine xn_if_eq (tgt := 59) hx hb dX3_advise_49 (by decide) (by omega) (fun c49 => ?_) (fun c49 => ?_)
    · refine lv_iload hx hb dX3_advise_59 (lv_at hl 0 rfl) ?_
      refine lv_istore (lv' := [(4, .int (nI (adG (n, ch, pm, st, kf, rg) j1 k))), (6, .int (nI (adG (n, ch, pm, st, kf, rg) j1 k))), (0, .ref (ad 0)), (1, .int (nI j1)), (2, .ref (ad (10 + j1))), (3, .int (nI bst)), (5, .int (nI k))]) hx hb dX3_advise_61 hl (by decide) rfl (fun ls hl => ?_)
      refine lv_iload hx hb dX3_advise_63 (lv_at hl 6 rfl) ?_
      refine lv_istore_n (lv' := [(3, .int (nI k)), (4, .int (nI (adG (n, ch, pm, st, kf, rg) j1 k))), (6, .int (nI (adG (n, ch, pm, st, kf, rg) j1 k))), (0, .ref (ad 0)), (1, .int (nI j1)), (2, .ref (ad (10 + j1))), (5, .int (nI k))]) hx hb dX3_advise_65 rfl hl (by decide) rfl (fun ls hl => ?_)
      refine xn_iinc (v := k + 1) (lv' := [(5, .int (nI (k + 1))), (3, .int (nI k)), (4, .int (nI (adG (n, ch, pm, st, kf, rg) j1 k))), (6, .int (nI (adG (n, ch, pm, st, kf, rg) j1 k))), (0, .ref (ad 0)), (1, .int (nI j1)), (2, .ref (ad (10 + j1)))]) hx hb dX3_advise_66 hl (k := 6) rfl (xinc1 _) (by decide) rfl (fun ls hl => ?_)
      refine lv_goto (tgt := 14) hx hb dX3_advise_69 (by decide) ?_
      exact ih14 (k + 1, k, adG (n, ch, pm, st, kf, rg) j1 k, n, cpy fm9 (fun q9 => (pm j1) ((pm k) q9)) n) _ _ _ _ ls ⟨(by dsimp only; omega), (Or.inr ⟨Nat.succ_pos _, (by dsimp only; rw [c49]; rfl), (by dsimp only; rw [c49]; rfl)⟩), (cpy_bd hfm (fun _ _ => hpm8 j1 _)), hO, hBk, hMe, hRu, hMa, hRs, hCs, hC1, hS, hce, hse, lv_sub hl [4, 5, 6, 1, 2, 0] rfl⟩ (by dsimp only; omega)
    · obtain ⟨hk0, hb0, hl0⟩ : 0 < k ∧ bst = adB (adG (n, ch, pm, st, kf, rg) j1) (k - 1) ∧ lw = adG (n, ch, pm, st, kf, rg) j1 (adB (adG (n, ch, pm, st, kf, rg) j1) (k - 1)) := by
        rcases h3 with z | z
        · exact absurd z.1 (by omega)
        · exact z
      refine lv_iload hx hb dX3_advise_52 (lv_at hl 0 rfl) ?_
      refine lv_iload hx hb dX3_advise_54 (lv_at hl 5 rfl) ?_
      refine xn_icmp_ge (tgt := 66) hx hb dX3_advise_56 (by decide) (hgk k) (by rcases h3 with z | z; exact absurd z.1 (by omega); rw [z.2.2]; exact hgk _) (fun c56 => ?_) (fun c56 => ?_)
      · have had : adB (adG (n, ch, pm, st, kf, rg) j1) k = adB (adG (n, ch, pm, st, kf, rg) j1) (k - 1) := by
          obtain ⟨z, rfl⟩ : ∃ z, k = z + 1 := ⟨k - 1, by omega⟩
          show (if adG (n, ch, pm, st, kf, rg) j1 (z + 1) < adG (n, ch, pm, st, kf, rg) j1 (adB (adG (n, ch, pm, st, kf, rg) j1) z) then z + 1 else adB (adG (n, ch, pm, st, kf, rg) j1) z) = _
          rw [Nat.add_sub_cancel] at hl0 ⊢; rw [← hl0]; exact if_neg (by omega)
        refine xn_iinc (v := k + 1) (lv' := [(5, .int (nI (k + 1))), (6, .int (nI (adG (n, ch, pm, st, kf, rg) j1 k))), (0, .ref (ad 0)), (1, .int (nI j1)), (2, .ref (ad (10 + j1))), (3, .int (nI bst)), (4, .int (nI lw))]) hx hb dX3_advise_66 hl (k := 6) rfl (xinc1 _) (by decide) rfl (fun ls hl => ?_)
        refine lv_goto (tgt := 14) hx hb dX3_advise_69 (by decide) ?_
        exact ih14 (k + 1, bst, lw, n, cpy fm9 (fun q9 => (pm j1) ((pm k) q9)) n) _ _ _ _ ls ⟨(by dsimp only; omega), (Or.inr ⟨Nat.succ_pos _, (by dsimp only; rw [Nat.add_sub_cancel, had]; exact hb0), (by dsimp only; rw [Nat.add_sub_cancel, had]; exact hl0)⟩), (cpy_bd hfm (fun _ _ => hpm8 j1 _)), hO, hBk, hMe, hRu, hMa, hRs, hCs, hC1, hS, hce, hse, lv_sub hl [2, 3, 4, 5, 6, 0] rfl⟩ (by dsimp only; omega)
      · have had : adB (adG (n, ch, pm, st, kf, rg) j1) k = k := by
          obtain ⟨z, rfl⟩ : ∃ z, k = z + 1 := ⟨k - 1, by omega⟩
          show (if adG (n, ch, pm, st, kf, rg) j1 (z + 1) < adG (n, ch, pm, st, kf, rg) j1 (adB (adG (n, ch, pm, st, kf, rg) j1) z) then z + 1 else adB (adG (n, ch, pm, st, kf, rg) j1) z) = z + 1
          rw [Nat.add_sub_cancel] at hl0; rw [← hl0]; exact if_pos (by omega)
        refine lv_iload hx hb dX3_advise_59 (lv_at hl 0 rfl) ?_
        refine lv_istore (lv' := [(4, .int (nI (adG (n, ch, pm, st, kf, rg) j1 k))), (6, .int (nI (adG (n, ch, pm, st, kf, rg) j1 k))), (0, .ref (ad 0)), (1, .int (nI j1)), (2, .ref (ad (10 + j1))), (3, .int (nI bst)), (5, .int (nI k))]) hx hb dX3_advise_61 hl (by decide) rfl (fun ls hl => ?_)
        refine lv_iload hx hb dX3_advise_63 (lv_at hl 6 rfl) ?_
        refine lv_istore_n (lv' := [(3, .int (nI k)), (4, .int (nI (adG (n, ch, pm, st, kf, rg) j1 k))), (6, .int (nI (adG (n, ch, pm, st, kf, rg) j1 k))), (0, .ref (ad 0)), (1, .int (nI j1)), (2, .ref (ad (10 + j1))), (5, .int (nI k))]) hx hb dX3_advise_65 rfl hl (by decide) rfl (fun ls hl => ?_)
        refine xn_iinc (v := k + 1) (lv' := [(5, .int (nI (k + 1))), (3, .int (nI k)), (4, .int (nI (adG (n, ch, pm, st, kf, rg) j1 k))), (6, .int (nI (adG (n, ch, pm, st, kf, rg) j1 k))), (0, .ref (ad 0)), (1, .int (nI j1)), (2, .ref (ad (10 + j1)))]) hx hb dX3_advise_66 hl (k := 6) rfl (xinc1 _) (by decide) rfl (fun ls hl => ?_)
        refine lv_goto (tgt := 14) hx hb dX3_advise_69 (by decide) ?_
        exact ih14 (k + 1, k, adG (n, ch, pm, st, kf, rg) j1 k, n, cpy fm9 (fun q9 => (pm j1) ((pm k) q9)) n) _ _ _ _ ls ⟨(by dsimp only; omega), (Or.inr ⟨Nat.succ_pos _, (by dsimp only; rw [Nat.add_sub_cancel, had]), (by dsimp only; rw [Nat.add_sub_cancel, had])⟩), (cpy_bd hfm (fun _ _ => hpm8 j1 _)), hO, hBk, hMe, hRu, hMa, hRs, hCs, hC1, hS, hce, hse, lv_sub hl [4, 5, 6, 1, 2, 0] rfl⟩ (by dsimp only; omega)
end
section
/-! BELLRANKS: what cannot throw, and the checksum -/
section XZ
variable {p : Program} {l : Launch} {e : Env} {R : Room} {s : State} {m : MethodId} {args : Array Value} {below : List Frame} {meth : Method} {c : Code} {H : Heap} {locs : List Loc} {cells slots : Nat} {Q : State → Prop}
variable {mc ms : Nat} {free : Addr → Prop} {A0 A1 : Nat → Prop} {H0 : Heap} {pc : Nat} {ls : Array Slot} {st0 rest : List Value}
variable {D : va_G} {cI cC : ClassId} {P : Heap → Prop} {A2 : Nat → Prop} {y : MethodName} {bytes cc : ByteArray} {maxL nL n index : Nat} {ret : Option FieldType} {ws : List Cond} {rm : Room} {Ts : List Cond} {own C : String} {b : Addr} {As : List Value}
theorem xzI {S0 : Type} {post : Int32 → S0 → Prop} {F : S0 → Heap → Prop} (S : CallFix p m c cc nL s args Ts own) (hM : Met l y ws rm (va_Pc (.ref b :: As) (xBZ D cI cC P A2)) (xI post F A1) mc ms free) (cw : CallW R s args own C index y bytes maxL ret ws rm mc ms n) (hK : xK D cI cC s) (hZ : xZ A2 s H) (hP : P H) (hr : ∃ cellB : Cell, H[b]? = some cellB ∧ cellB.vm.isStatics = false ∧ s.vm.findClass C = some cellB.cls)
    (hn : As.length = n) (hl : ls.size = nL) (hst : st0 = As.reverse ++ .ref b :: rest) (hcat : (rest.map fun v => v.category).sum ≤ 8) (hdg : decode cc pc = .ok (.invokevirtual index, 3)) (hf : cells + mc ≤ R.cells ∧ slots + ms ≤ R.slots)
    (hS : va_S A0 H0 H locs) (hA : ∀ q, A1 q → A0 q) (hfr : ∀ q, free q → A0 q)
    (kk : ∀ (r : Int32) (u : S0) (H1 : Heap) (locs1 : List Loc), post r u → F u H1 → H.size ≤ H1.size → (∀ q : Nat, q < H.size → ¬ A1 q → H1[q]? = H[q]?) → va_S A0 H0 H1 locs1 → W p l e R s m args below meth c H1 locs1 (cells + mc) (slots + ms) Q (F0 m (pc + 3) ls (.int r :: rest))) : W p l e R s m args below meth c H locs cells slots Q (F0 m pc ls st0) :=
  va_calli (va_runV S hM cw (xZPV hK hZ hP hr) rfl hn hl hst (lv_room hcat) hdg hf) hS (fun q _ h => hA q h) hfr (fun r u t H1 locs1 ht _ hp hF hz hk hS1 => kk r u H1 locs1 hp (ht ▸ hF) hz hk hS1)
end XZ
set_option maxRecDepth 100000 in
set_option maxHeartbeats 4000000 in
theorem okBell_ (l : Launch) (hst9 : l.stackTraces = false) (D : va_G) (cI cC : ClassId) (ad : Nat → Nat) (hj : xInj ad) (S : AS) (hI : AI S) (x : Int32) (y : Int32) (hT : tBell S x y = 0) : Met l yX3_bell wsX3_bell (xRm 14 2 12) (va_Pc [.ref (ad 0), .int x, .int y] (xBZ D cI cC (xXW D cI cC ad S) (xAD ad))) (xI (fun r (_ : Unit) => r = rBell S x y) (fun _ H => xXW D cI cC ad (S) H) (xAD ad)) 2 12 (xAD ad) := by
  obtain ⟨n, ch, pm, st, kf, rg⟩ := S
  obtain ⟨⟨hn2, hn8⟩, hch, hst, hpm8, hpm, hkv, hkb⟩ := id hI
  dsimp only at hn2 hn8 hch hst hpm8 hpm hkv hkb
  refine Met.ofW (cc := cX3_bell) (maxL := 4) (ret := (some .int)) (by decide) rfl ?_
  intro p e s m args below meth c s₁ B hml hv
  obtain ⟨rfl, hP, hK, hZ⟩ := hv
  have hx := B.exec
  have hb := B.bytes
  have hr := B.returns
  have hts := atoms_spec (ws := wsX3_bell) B.pre
  have hown : s.vm.findClass RX3 = some m.cls := findClass_of_methodNamed B.named
  have hlocks := B.notSynchronized
  have hW := hP
  have hl := lv_entry ([.ref (ad 0), .int x, .int y]) (n := 4) (Nat.le_of_ble_eq_true rfl)
  rw [lg_entry_eq]
  generalize (lg_sl ([.ref (ad 0), .int x, .int y]) ++ List.replicate (4 - (lg_sl ([.ref (ad 0), .int x, .int y])).length) Slot.unset).toArray = ls at hl ⊢
  have hl : lv_has ls 4 [(0, .ref (ad 0)), (1, .int x), (2, .int y)] := hl
  obtain ⟨zr, zm, zs, fr, fm, fs, zf, hO, hBk, hMe, hRu, hfr, hMa, hfm, hRs, hCs, hz⟩ := id hW
  have hO : xXO D ad n ch rg s.heap := hO
  have hMe : xMe D cI (ad 2) (ad 3) st kf s.heap := hMe
  have hCs : xXC D cI ad zf pm s.heap := hCs
  have hz : ∀ k, k < ch → zf k = n := hz
  have hS : va_S (xAD ad) s.heap s.heap [] := va_S.rf
  refine lv_aload_n hx hb dX3_bell_0 rfl (lv_at hl 0 rfl) ?_
  refine lv_iload_n hx hb dX3_bell_1 rfl (lv_at hl 1 rfl) ?_
  refine xtR (As := [.int x]) (rest := []) ⟨hx, hb, hml, hown, hts⟩ (cX3_find_ l hst9 D cI cC ad _ n ch rg (by omega) x) (cwV 1 hts gX3_bell_X3_find rfl rfl rfl (by decide +kernel) ⟨Nat.le_of_ble_eq_true rfl, Nat.le_of_ble_eq_true rfl⟩) hK ((hZ.kept hS.2.1).narrow (fun q h => h.elim)) ⟨rfl, hO, hBk⟩ (xRecv hK rfl hO) rfl hl.1 rfl (Nat.le_of_ble_eq_true rfl) dX3_bell_2 ⟨(by show 0 + 1 ≤ 2; omega), (by show 0 + 6 ≤ 12; omega)⟩ hS (fun q h => h.elim) (fun q h => h.elim) (fun E ce q9 H1 locs1 hB hz9 hk9 hS h1 h2 h3 => ?_) (fun u ra H1 locs1 hp hF hz9 hk2 hS => ?_)
  · obtain ⟨rfl, hn⟩ := hB
    exact absurd (hT.symm.trans (show tBell (n, ch, pm, st, kf, rg) x y = 1 from if_neg (fun z => hn z.1))) (by decide)
  obtain ⟨rfl, hra⟩ := hF
  have hi2 := hp
  obtain ⟨j1, hj1, hj1b, rfl⟩ := inR_of hp
  rw [xN_nI hj1b] at hra
  subst hra
  have hl : lv_has ls 4 [(0, .ref (ad 0)), (1, .int (nI j1)), (2, .int y)] := hl
  have hC1 : xCh D cI (ad (10 + j1)) (ad (26 + j1)) n (pm j1) s.heap := xXC_at hCs (show j1 < 16 by omega) (hz j1 hj1)
  refine lv_astore_n (lv' := [(3, .ref (ad (10 + j1))), (0, .ref (ad 0)), (1, .int (nI j1)), (2, .int y)]) hx hb dX3_bell_5 rfl hl (by decide) rfl (fun ls hl => ?_)
  refine lv_aload_n hx hb dX3_bell_6 rfl (lv_at hl 1 rfl) ?_
  refine lv_iload_n hx hb dX3_bell_7 rfl (lv_at hl 3 rfl) ?_
  refine xtV (As := [.int y]) (rest := []) ⟨hx, hb, hml, hown, hts⟩ (cX3_checkPlace_ l hst9 D cI cC ad _ n ch rg hn8 y) (cwV 1 hts gX3_bell_X3_checkPlace rfl rfl rfl (by decide +kernel) ⟨Nat.le_of_ble_eq_true rfl, Nat.le_of_ble_eq_true rfl⟩) hK ((hZ.kept hS.2.1).narrow (fun q h => h.elim)) ⟨rfl, hO⟩ (xRecv hK rfl hO) rfl hl.1 rfl (Nat.le_of_ble_eq_true rfl) dX3_bell_8 ⟨(by show 0 + 1 + 1 ≤ 2; omega), (by show 0 + 6 + 6 ≤ 12; omega)⟩ hS (fun q h => h.elim) (fun q h => h.elim) (fun E ce q9 H1 locs1 hB hz9 hk9 hS h1 h2 h3 => ?_) (fun u H1 locs1 hp hF hz9 hk8 hS => ?_)
  · obtain ⟨rfl, hn⟩ := hB
    exact absurd (hT.symm.trans (show tBell (n, ch, pm, st, kf, rg) (nI j1) y = 1 from if_neg (fun z => hn z.2))) (by decide)
  obtain rfl := hF
  have hi8 := hp
  obtain ⟨j2, hj2, hj2b, rfl⟩ := inR_of hi8
  have hl : lv_has ls 4 [(3, .ref (ad (10 + j1))), (0, .ref (ad 0)), (1, .int (nI j1)), (2, .int (nI j2))] := hl
  refine lv_aload_n hx hb dX3_bell_11 rfl (lv_at hl 0 rfl) ?_
  refine lv_iload_n hx hb dX3_bell_12 rfl (lv_at hl 3 rfl) ?_
  refine xcV (As := [.int (nI j2)]) (rest := []) ⟨hx, hb, hml, hown, hts⟩ (cX0_bellAt_ l D cI cC (ad (10 + j1)) (ad (26 + j1)) n (pm j1) j2 (by omega)) (cwV 1 hts gX3_bell_X0_bellAt rfl rfl rfl (by decide +kernel) ⟨Nat.le_of_ble_eq_true rfl, Nat.le_of_ble_eq_true rfl⟩) hK hC1 (xRecv hK rfl hC1.1) rfl hl.1 rfl (Nat.le_of_ble_eq_true rfl) dX3_bell_13 ⟨(by show 0 + 1 + 1 ≤ 2; omega), (by show 0 + 6 + 6 ≤ 12; omega)⟩ (fun x13 e13 => ?_)
  subst e13
  refine W.widen (k := 2) (n := 12) (by omega) (by omega) ?_
  exact x_miret hx hb hr hlocks () (by show nI _ = rBell _ _ _; unfold rBell; simp only [xN_nI hj1b, xN_nI hj2b]) (xXW_mk (S := (n, ch, pm, st, kf, rg)) hO hBk hMe hRu hfr hMa hfm hRs hCs hz) hS (fun _ h => h) dX3_bell_16

set_option maxRecDepth 100000 in
set_option maxHeartbeats 4000000 in
theorem okTold_ (l : Launch) (hst9 : l.stackTraces = false) (D : va_G) (cI cC : ClassId) (ad : Nat → Nat) (hj : xInj ad) (S : AS) (hI : AI S) (x : Int32) (y : Int32) (hT : tTold S x y = 0) : Met l yX3_told wsX3_told (xRm 14 1 6) (va_Pc [.ref (ad 0), .int x, .int y] (xBZ D cI cC (xXW D cI cC ad S) (xAD ad))) (xI (fun r (_ : Unit) => r = rTold S x y) (fun _ H => xXW D cI cC ad (S) H) (xAD ad)) 1 6 (xAD ad) := by
  obtain ⟨n, ch, pm, st, kf, rg⟩ := S
  obtain ⟨⟨hn2, hn8⟩, hch, hst, hpm8, hpm, hkv, hkb⟩ := id hI
  dsimp only at hn2 hn8 hch hst hpm8 hpm hkv hkb
  refine Met.ofW (cc := cX3_told) (maxL := 4) (ret := (some .int)) (by decide) rfl ?_
  intro p e s m args below meth c s₁ B hml hv
  obtain ⟨rfl, hP, hK, hZ⟩ := hv
  have hx := B.exec
  have hb := B.bytes
  have hr := B.returns
  have hts := atoms_spec (ws := wsX3_told) B.pre
  have hown : s.vm.findClass RX3 = some m.cls := findClass_of_methodNamed B.named
  have hlocks := B.notSynchronized
  have hW := hP
  have hl := lv_entry ([.ref (ad 0), .int x, .int y]) (n := 4) (Nat.le_of_ble_eq_true rfl)
  rw [lg_entry_eq]
  generalize (lg_sl ([.ref (ad 0), .int x, .int y]) ++ List.replicate (4 - (lg_sl ([.ref (ad 0), .int x, .int y])).length) Slot.unset).toArray = ls at hl ⊢
  have hl : lv_has ls 4 [(0, .ref (ad 0)), (1, .int x), (2, .int y)] := hl
  obtain ⟨zr, zm, zs, fr, fm, fs, zf, hO, hBk, hMe, hRu, hfr, hMa, hfm, hRs, hCs, hz⟩ := id hW
  have hO : xXO D ad n ch rg s.heap := hO
  have hMe : xMe D cI (ad 2) (ad 3) st kf s.heap := hMe
  have hCs : xXC D cI ad zf pm s.heap := hCs
  have hz : ∀ k, k < ch → zf k = n := hz
  have hS : va_S (xAD ad) s.heap s.heap [] := va_S.rf
  refine lv_aload_n hx hb dX3_told_0 rfl (lv_at hl 0 rfl) ?_
  refine lv_iload_n hx hb dX3_told_1 rfl (lv_at hl 1 rfl) ?_
  refine xtR (As := [.int x]) (rest := []) ⟨hx, hb, hml, hown, hts⟩ (cX3_find_ l hst9 D cI cC ad _ n ch rg (by omega) x) (cwV 1 hts gX3_told_X3_find rfl rfl rfl (by decide +kernel) ⟨Nat.le_of_ble_eq_true rfl, Nat.le_of_ble_eq_true rfl⟩) hK ((hZ.kept hS.2.1).narrow (fun q h => h.elim)) ⟨rfl, hO, hBk⟩ (xRecv hK rfl hO) rfl hl.1 rfl (Nat.le_of_ble_eq_true rfl) dX3_told_2 ⟨(by show 0 + 1 ≤ 1; omega), (by show 0 + 6 ≤ 6; omega)⟩ hS (fun q h => h.elim) (fun q h => h.elim) (fun E ce q9 H1 locs1 hB hz9 hk9 hS h1 h2 h3 => ?_) (fun u ra H1 locs1 hp hF hz9 hk2 hS => ?_)
  · obtain ⟨rfl, hn⟩ := hB
    exact absurd (hT.symm.trans (show tTold (n, ch, pm, st, kf, rg) x y = 1 from if_neg (fun z => hn z.1))) (by decide)
  obtain ⟨rfl, hra⟩ := hF
  have hi2 := hp
  obtain ⟨j1, hj1, hj1b, rfl⟩ := inR_of hp
  rw [xN_nI hj1b] at hra
  subst hra
  have hl : lv_has ls 4 [(0, .ref (ad 0)), (1, .int (nI j1)), (2, .int y)] := hl
  have hC1 : xCh D cI (ad (10 + j1)) (ad (26 + j1)) n (pm j1) s.heap := xXC_at hCs (show j1 < 16 by omega) (hz j1 hj1)
  refine lv_astore_n (lv' := [(3, .ref (ad (10 + j1))), (0, .ref (ad 0)), (1, .int (nI j1)), (2, .int y)]) hx hb dX3_told_5 rfl hl (by decide) rfl (fun ls hl => ?_)
  refine lv_iload_n hx hb dX3_told_6 rfl (lv_at hl 3 rfl) ?_
  by_cases hy : inR y 8
  · obtain ⟨w, hw, hwb, rfl⟩ := inR_of hy
    have hl : lv_has ls 4 [(3, .ref (ad (10 + j1))), (0, .ref (ad 0)), (1, .int (nI j1)), (2, .int (nI w))] := hl
    rcases (show w = 0 ∨ w = 1 ∨ w = 2 ∨ w = 3 ∨ w = 4 ∨ w = 5 ∨ w = 6 ∨ w = 7 by omega) with rfl | rfl | rfl | rfl | rfl | rfl | rfl | rfl
    · refine lv_tableIn (off := 45) (tgt := 52) hx hb dX3_told_7 (by decide) (by decide) rfl (by decide) ?_
      have hl : lv_has ls 4 [(3, .ref (ad (10 + j1))), (0, .ref (ad 0)), (1, .int (nI j1)), (2, .int (nI 0))] := hl
      refine lv_aload_n hx hb dX3_told_52 rfl (lv_at hl 0 rfl) ?_
      refine xcV (As := []) (rest := []) ⟨hx, hb, hml, hown, hts⟩ (cX0_rank_ l D cI cC (ad (10 + j1)) (ad (26 + j1)) n (pm j1) hn8 (fun i9 => Nat.lt_trans ((hpm8 j1) i9) (by decide))) (cwV 0 hts gX3_told_X0_rank rfl rfl rfl (by decide +kernel) ⟨Nat.le_of_ble_eq_true rfl, Nat.le_of_ble_eq_true rfl⟩) hK hC1 (xRecv hK rfl hC1.1) rfl hl.1 rfl (Nat.le_of_ble_eq_true rfl) dX3_told_53 ⟨(by show 0 + 1 ≤ 1; omega), (by show 0 + 6 ≤ 6; omega)⟩ (fun x53 e53 => ?_)
      subst e53
      refine W.widen (k := 1) (n := 6) (by omega) (by omega) ?_
      exact x_miret hx hb hr hlocks () (by show nI _ = rTold _ _ _; unfold rTold; simp only [xN_nI hj1b, xN_nI (show 0 < 2 ^ 31 by decide)]; rfl) (xXW_mk (S := (n, ch, pm, st, kf, rg)) hO hBk hMe hRu hfr hMa hfm hRs hCs hz) hS (fun _ h => h) dX3_told_56
    · refine lv_tableIn (off := 50) (tgt := 57) hx hb dX3_told_7 (by decide) (by decide) rfl (by decide) ?_
      have hl : lv_has ls 4 [(3, .ref (ad (10 + j1))), (0, .ref (ad 0)), (1, .int (nI j1)), (2, .int (nI 1))] := hl
      refine lv_aload_n hx hb dX3_told_57 rfl (lv_at hl 0 rfl) ?_
      refine xcV (As := []) (rest := []) ⟨hx, hb, hml, hown, hts⟩ (cX0_inversions_ l D cI cC (ad (10 + j1)) (ad (26 + j1)) n (pm j1) hn8 (fun i9 => Nat.lt_trans ((hpm8 j1) i9) (by decide))) (cwV 0 hts gX3_told_X0_inversions rfl rfl rfl (by decide +kernel) ⟨Nat.le_of_ble_eq_true rfl, Nat.le_of_ble_eq_true rfl⟩) hK hC1 (xRecv hK rfl hC1.1) rfl hl.1 rfl (Nat.le_of_ble_eq_true rfl) dX3_told_58 ⟨(by show 0 + 1 ≤ 1; omega), (by show 0 + 6 ≤ 6; omega)⟩ (fun x58 e58 => ?_)
      subst e58
      refine W.widen (k := 1) (n := 6) (by omega) (by omega) ?_
      exact x_miret hx hb hr hlocks () (by show nI _ = rTold _ _ _; unfold rTold; simp only [xN_nI hj1b, xN_nI (show 1 < 2 ^ 31 by decide)]; rfl) (xXW_mk (S := (n, ch, pm, st, kf, rg)) hO hBk hMe hRu hfr hMa hfm hRs hCs hz) hS (fun _ h => h) dX3_told_61
    · refine lv_tableIn (off := 55) (tgt := 62) hx hb dX3_told_7 (by decide) (by decide) rfl (by decide) ?_
      have hl : lv_has ls 4 [(3, .ref (ad (10 + j1))), (0, .ref (ad 0)), (1, .int (nI j1)), (2, .int (nI 2))] := hl
      refine lv_aload_n hx hb dX3_told_62 rfl (lv_at hl 0 rfl) ?_
      refine xcV (As := []) (rest := []) ⟨hx, hb, hml, hown, hts⟩ (cX0_inversions_ l D cI cC (ad (10 + j1)) (ad (26 + j1)) n (pm j1) hn8 (fun i9 => Nat.lt_trans ((hpm8 j1) i9) (by decide))) (cwV 0 hts gX3_told_X0_inversions rfl rfl rfl (by decide +kernel) ⟨Nat.le_of_ble_eq_true rfl, Nat.le_of_ble_eq_true rfl⟩) hK hC1 (xRecv hK rfl hC1.1) rfl hl.1 rfl (Nat.le_of_ble_eq_true rfl) dX3_told_63 ⟨(by show 0 + 1 ≤ 1; omega), (by show 0 + 6 ≤ 6; omega)⟩ (fun x63 e63 => ?_)
      subst e63
      refine xn_iconst (v := 1) hx hb dX3_told_66 (by decide) ?_
      refine lv_iand hx hb dX3_told_67 ?_
      refine xz_i (xand1 (Nat.lt_of_le_of_lt (ivs_le _ _) (by have h9 : n * n ≤ 8 * 8 := Nat.mul_le_mul hn8 hn8; omega))) ?_
      refine W.widen (k := 1) (n := 6) (by omega) (by omega) ?_
      exact x_miret hx hb hr hlocks () (by show nI _ = rTold _ _ _; unfold rTold; simp only [xN_nI hj1b, xN_nI (show 2 < 2 ^ 31 by decide)]; rfl) (xXW_mk (S := (n, ch, pm, st, kf, rg)) hO hBk hMe hRu hfr hMa hfm hRs hCs hz) hS (fun _ h => h) dX3_told_68
    · refine lv_tableIn (off := 62) (tgt := 69) hx hb dX3_told_7 (by decide) (by decide) rfl (by decide) ?_
      have hl : lv_has ls 4 [(3, .ref (ad (10 + j1))), (0, .ref (ad 0)), (1, .int (nI j1)), (2, .int (nI 3))] := hl
      refine lv_aload_n hx hb dX3_told_69 rfl (lv_at hl 0 rfl) ?_
      refine xcV (As := []) (rest := []) ⟨hx, hb, hml, hown, hts⟩ (cX0_ringCount_ l D cI cC (ad (10 + j1)) (ad (26 + j1)) n (pm j1) hn8 (hpm8 j1)) (cwV 0 hts gX3_told_X0_ringCount rfl rfl rfl (by decide +kernel) ⟨Nat.le_of_ble_eq_true rfl, Nat.le_of_ble_eq_true rfl⟩) hK hC1 (xRecv hK rfl hC1.1) rfl hl.1 rfl (Nat.le_of_ble_eq_true rfl) dX3_told_70 ⟨(by show 0 + 1 ≤ 1; omega), (by show 0 + 6 ≤ 6; omega)⟩ (fun x70 e70 => ?_)
      subst e70
      refine W.widen (k := 1) (n := 6) (by omega) (by omega) ?_
      exact x_miret hx hb hr hlocks () (by show nI _ = rTold _ _ _; unfold rTold; simp only [xN_nI hj1b, xN_nI (show 3 < 2 ^ 31 by decide)]; rfl) (xXW_mk (S := (n, ch, pm, st, kf, rg)) hO hBk hMe hRu hfr hMa hfm hRs hCs hz) hS (fun _ h => h) dX3_told_73
    · refine lv_tableIn (off := 67) (tgt := 74) hx hb dX3_told_7 (by decide) (by decide) rfl (by decide) ?_
      have hl : lv_has ls 4 [(3, .ref (ad (10 + j1))), (0, .ref (ad 0)), (1, .int (nI j1)), (2, .int (nI 4))] := hl
      refine lv_aload_n hx hb dX3_told_74 rfl (lv_at hl 0 rfl) ?_
      refine xcV (As := []) (rest := []) ⟨hx, hb, hml, hown, hts⟩ (cX0_longestRing_ l D cI cC (ad (10 + j1)) (ad (26 + j1)) n (pm j1) hn8 (hpm8 j1)) (cwV 0 hts gX3_told_X0_longestRing rfl rfl rfl (by decide +kernel) ⟨Nat.le_of_ble_eq_true rfl, Nat.le_of_ble_eq_true rfl⟩) hK hC1 (xRecv hK rfl hC1.1) rfl hl.1 rfl (Nat.le_of_ble_eq_true rfl) dX3_told_75 ⟨(by show 0 + 1 ≤ 1; omega), (by show 0 + 6 ≤ 6; omega)⟩ (fun x75 e75 => ?_)
      subst e75
      refine W.widen (k := 1) (n := 6) (by omega) (by omega) ?_
      exact x_miret hx hb hr hlocks () (by show nI _ = rTold _ _ _; unfold rTold; simp only [xN_nI hj1b, xN_nI (show 4 < 2 ^ 31 by decide)]; rfl) (xXW_mk (S := (n, ch, pm, st, kf, rg)) hO hBk hMe hRu hfr hMa hfm hRs hCs hz) hS (fun _ h => h) dX3_told_78
    · refine lv_tableIn (off := 72) (tgt := 79) hx hb dX3_told_7 (by decide) (by decide) rfl (by decide) ?_
      have hl : lv_has ls 4 [(3, .ref (ad (10 + j1))), (0, .ref (ad 0)), (1, .int (nI j1)), (2, .int (nI 5))] := hl
      refine lv_aload_n hx hb dX3_told_79 rfl (lv_at hl 0 rfl) ?_
      refine xcV (As := []) (rest := []) ⟨hx, hb, hml, hown, hts⟩ (cX0_order_ l D cI cC (ad (10 + j1)) (ad (26 + j1)) n (pm j1) hn8 (hpm8 j1) (fun i9 h9 => Nat.lt_trans (ord_ok hn8 i9 h9).2.1 (by decide))) (cwV 0 hts gX3_told_X0_order rfl rfl rfl (by decide +kernel) ⟨Nat.le_of_ble_eq_true rfl, Nat.le_of_ble_eq_true rfl⟩) hK hC1 (xRecv hK rfl hC1.1) rfl hl.1 rfl (Nat.le_of_ble_eq_true rfl) dX3_told_80 ⟨(by show 0 + 1 ≤ 1; omega), (by show 0 + 6 ≤ 6; omega)⟩ (fun x80 e80 => ?_)
      subst e80
      refine W.widen (k := 1) (n := 6) (by omega) (by omega) ?_
      exact x_miret hx hb hr hlocks () (by show nI _ = rTold _ _ _; unfold rTold; simp only [xN_nI hj1b, xN_nI (show 5 < 2 ^ 31 by decide)]; rfl) (xXW_mk (S := (n, ch, pm, st, kf, rg)) hO hBk hMe hRu hfr hMa hfm hRs hCs hz) hS (fun _ h => h) dX3_told_83
    · refine lv_tableIn (off := 77) (tgt := 84) hx hb dX3_told_7 (by decide) (by decide) rfl (by decide) ?_
      have hl : lv_has ls 4 [(3, .ref (ad (10 + j1))), (0, .ref (ad 0)), (1, .int (nI j1)), (2, .int (nI 6))] := hl
      refine lv_aload_n hx hb dX3_told_84 rfl (lv_at hl 0 rfl) ?_
      refine xcV (As := []) (rest := []) ⟨hx, hb, hml, hown, hts⟩ (cX0_ownPlaces_ l D cI cC (ad (10 + j1)) (ad (26 + j1)) n (pm j1) hn8 (fun i9 => Nat.lt_trans ((hpm8 j1) i9) (by decide))) (cwV 0 hts gX3_told_X0_ownPlaces rfl rfl rfl (by decide +kernel) ⟨Nat.le_of_ble_eq_true rfl, Nat.le_of_ble_eq_true rfl⟩) hK hC1 (xRecv hK rfl hC1.1) rfl hl.1 rfl (Nat.le_of_ble_eq_true rfl) dX3_told_85 ⟨(by show 0 + 1 ≤ 1; omega), (by show 0 + 6 ≤ 6; omega)⟩ (fun x85 e85 => ?_)
      subst e85
      refine W.widen (k := 1) (n := 6) (by omega) (by omega) ?_
      exact x_miret hx hb hr hlocks () (by show nI _ = rTold _ _ _; unfold rTold; simp only [xN_nI hj1b, xN_nI (show 6 < 2 ^ 31 by decide)]; rfl) (xXW_mk (S := (n, ch, pm, st, kf, rg)) hO hBk hMe hRu hfr hMa hfm hRs hCs hz) hS (fun _ h => h) dX3_told_88
    · refine lv_tableIn (off := 82) (tgt := 89) hx hb dX3_told_7 (by decide) (by decide) rfl (by decide) ?_
      have hl : lv_has ls 4 [(3, .ref (ad (10 + j1))), (0, .ref (ad 0)), (1, .int (nI j1)), (2, .int (nI 7))] := hl
      refine lv_aload_n hx hb dX3_told_89 rfl (lv_at hl 0 rfl) ?_
      refine xn_iconst (v := 0) hx hb dX3_told_90 (by decide) ?_
      refine xcV (As := [.int (nI 0)]) (rest := []) ⟨hx, hb, hml, hown, hts⟩ (cX0_placeOf_ l D cI cC (ad (10 + j1)) (ad (26 + j1)) n (pm j1) hn8 (fun i9 => Nat.lt_trans ((hpm8 j1) i9) (by decide)) 0 (by decide)) (cwV 1 hts gX3_told_X0_placeOf rfl rfl rfl (by decide +kernel) ⟨Nat.le_of_ble_eq_true rfl, Nat.le_of_ble_eq_true rfl⟩) hK hC1 (xRecv hK rfl hC1.1) rfl hl.1 rfl (Nat.le_of_ble_eq_true rfl) dX3_told_91 ⟨(by show 0 + 1 ≤ 1; omega), (by show 0 + 6 ≤ 6; omega)⟩ (fun x91 e91 => ?_)
      subst e91
      refine W.widen (k := 1) (n := 6) (by omega) (by omega) ?_
      exact x_miret hx hb hr hlocks () (by show nI _ = rTold _ _ _; unfold rTold; simp only [xN_nI hj1b, xN_nI (show 7 < 2 ^ 31 by decide)]; rfl) (xXW_mk (S := (n, ch, pm, st, kf, rg)) hO hBk hMe hRu hfr hMa hfm hRs hCs hz) hS (fun _ h => h) dX3_told_94
  have hn := hy
  exact absurd (hT.symm.trans (show tTold (n, ch, pm, st, kf, rg) (nI j1) y = 1 from if_neg (fun z => hn z.2))) (by decide)

set_option maxRecDepth 100000 in
set_option maxHeartbeats 4000000 in
theorem okCount_ (l : Launch) (hst9 : l.stackTraces = false) (D : va_G) (cI cC : ClassId) (ad : Nat → Nat) (hj : xInj ad) (S : AS) (hI : AI S) (x : Int32) (hT : tCount S x = 0) : Met l yX3_count wsX3_count (xRm 14 0 0) (va_Pc [.ref (ad 0), .int x] (xBZ D cI cC (xXW D cI cC ad S) (xAD ad))) (xI (fun r (_ : Unit) => r = rCount S x) (fun _ H => xXW D cI cC ad (S) H) (xAD ad)) 0 0 (xAD ad) := by
  obtain ⟨n, ch, pm, st, kf, rg⟩ := S
  obtain ⟨⟨hn2, hn8⟩, hch, hst, hpm8, hpm, hkv, hkb⟩ := id hI
  dsimp only at hn2 hn8 hch hst hpm8 hpm hkv hkb
  refine Met.ofW (cc := cX3_count) (maxL := 2) (ret := (some .int)) (by decide) rfl ?_
  intro p e s m args below meth c s₁ B hml hv
  obtain ⟨rfl, hP, hK, hZ⟩ := hv
  have hx := B.exec
  have hb := B.bytes
  have hr := B.returns
  have hts := atoms_spec (ws := wsX3_count) B.pre
  have hown : s.vm.findClass RX3 = some m.cls := findClass_of_methodNamed B.named
  have hlocks := B.notSynchronized
  have hW := hP
  have hl := lv_entry ([.ref (ad 0), .int x]) (n := 2) (Nat.le_of_ble_eq_true rfl)
  rw [lg_entry_eq]
  generalize (lg_sl ([.ref (ad 0), .int x]) ++ List.replicate (2 - (lg_sl ([.ref (ad 0), .int x])).length) Slot.unset).toArray = ls at hl ⊢
  have hl : lv_has ls 2 [(0, .ref (ad 0)), (1, .int x)] := hl
  obtain ⟨zr, zm, zs, fr, fm, fs, zf, hO, hBk, hMe, hRu, hfr, hMa, hfm, hRs, hCs, hz⟩ := id hW
  have hO : xXO D ad n ch rg s.heap := hO
  have hMe : xMe D cI (ad 2) (ad 3) st kf s.heap := hMe
  have hCs : xXC D cI ad zf pm s.heap := hCs
  have hz : ∀ k, k < ch → zf k = n := hz
  have hS : va_S (xAD ad) s.heap s.heap [] := va_S.rf
  refine lv_iload_n hx hb dX3_count_0 rfl (lv_at hl 1 rfl) ?_
  by_cases hy : inR x 6
  · obtain ⟨w, hw, hwb, rfl⟩ := inR_of hy
    have hl : lv_has ls 2 [(0, .ref (ad 0)), (1, .int (nI w))] := hl
    rcases (show w = 0 ∨ w = 1 ∨ w = 2 ∨ w = 3 ∨ w = 4 ∨ w = 5 by omega) with rfl | rfl | rfl | rfl | rfl | rfl
    · refine lv_tableIn (off := 39) (tgt := 40) hx hb dX3_count_1 (by decide) (by decide) rfl (by decide) ?_
      have hl : lv_has ls 2 [(0, .ref (ad 0)), (1, .int (nI 0))] := hl
      refine lv_aload_n hx hb dX3_count_40 rfl (lv_at hl 0 rfl) ?_
      refine x_get (v := .int (nI n)) (C := RX3) (T := TX3) (N := 8) hx hb hts (by decide +kernel) hown hK hO rfl 5 (by decide) (hts (.fieldLink RX3 37 "BellRanks" "bells" "I") (by decide +kernel)) (fun _ h9 => h9) rfl dX3_count_41 ?_
      refine W.widen (k := 0) (n := 0) (by omega) (by omega) ?_
      exact x_miret hx hb hr hlocks () (by show nI _ = rCount _ _; unfold rCount; simp only [xN_nI (show 0 < 2 ^ 31 by decide)]; rfl) (xXW_mk (S := (n, ch, pm, st, kf, rg)) hO hBk hMe hRu hfr hMa hfm hRs hCs hz) hS (fun _ h => h) dX3_count_44
    · refine lv_tableIn (off := 44) (tgt := 45) hx hb dX3_count_1 (by decide) (by decide) rfl (by decide) ?_
      have hl : lv_has ls 2 [(0, .ref (ad 0)), (1, .int (nI 1))] := hl
      refine lv_aload_n hx hb dX3_count_45 rfl (lv_at hl 0 rfl) ?_
      refine x_get (v := .int (nI n)) (C := RX3) (T := TX3) (N := 8) hx hb hts (by decide +kernel) hown hK hO rfl 5 (by decide) (hts (.fieldLink RX3 37 "BellRanks" "bells" "I") (by decide +kernel)) (fun _ h9 => h9) rfl dX3_count_46 ?_
      refine xcS (As := [.int (nI n)]) (rest := []) ⟨hx, hb, hml, hown, hts⟩ (cX3_changesOf_ l D cI cC n (by omega) (by omega)) (va_cwS 1 hts gX3_count_X3_changesOf rfl rfl rfl (by decide +kernel) ⟨Nat.le_of_ble_eq_true rfl, Nat.le_of_ble_eq_true rfl⟩) hK trivial rfl hl.1 rfl (Nat.le_of_ble_eq_true rfl) dX3_count_49 ⟨(by show 0 ≤ 0; omega), (by show 0 ≤ 0; omega)⟩ (fun x49 e49 => ?_)
      subst e49
      refine W.widen (k := 0) (n := 0) (by omega) (by omega) ?_
      exact x_miret hx hb hr hlocks () (by show nI _ = rCount _ _; unfold rCount; simp only [xN_nI (show 1 < 2 ^ 31 by decide)]; rfl) (xXW_mk (S := (n, ch, pm, st, kf, rg)) hO hBk hMe hRu hfr hMa hfm hRs hCs hz) hS (fun _ h => h) dX3_count_52
    · refine lv_tableIn (off := 52) (tgt := 53) hx hb dX3_count_1 (by decide) (by decide) rfl (by decide) ?_
      have hl : lv_has ls 2 [(0, .ref (ad 0)), (1, .int (nI 2))] := hl
      refine lv_aload_n hx hb dX3_count_53 rfl (lv_at hl 0 rfl) ?_
      refine x_get (v := .int (nI ch)) (C := RX3) (T := TX3) (N := 8) hx hb hts (by decide +kernel) hown hK hO rfl 6 (by decide) (hts (.fieldLink RX3 41 "BellRanks" "written" "I") (by decide +kernel)) (fun _ h9 => h9) rfl dX3_count_54 ?_
      refine W.widen (k := 0) (n := 0) (by omega) (by omega) ?_
      exact x_miret hx hb hr hlocks () (by show nI _ = rCount _ _; unfold rCount; simp only [xN_nI (show 2 < 2 ^ 31 by decide)]; rfl) (xXW_mk (S := (n, ch, pm, st, kf, rg)) hO hBk hMe hRu hfr hMa hfm hRs hCs hz) hS (fun _ h => h) dX3_count_57
    · refine lv_tableIn (off := 57) (tgt := 58) hx hb dX3_count_1 (by decide) (by decide) rfl (by decide) ?_
      have hl : lv_has ls 2 [(0, .ref (ad 0)), (1, .int (nI 3))] := hl
      refine lv_aload_n hx hb dX3_count_58 rfl (lv_at hl 0 rfl) ?_
      refine xmI (As := []) (rest := []) ⟨hx, hb, hml, hown, hts⟩ (cX3_differentInBook_ l D cI cC ad hj n ch rg zs fs zf pm hn8 (by omega) hpm8 hz) (cwV 0 hts gX3_count_X3_differentInBook rfl rfl rfl (by decide +kernel) ⟨Nat.le_of_ble_eq_true rfl, Nat.le_of_ble_eq_true rfl⟩) hK ⟨hO, hBk, hRs, hCs⟩ (xRecv hK rfl hO) rfl hl.1 rfl (Nat.le_of_ble_eq_true rfl) dX3_count_59 ⟨(by show 0 + 0 ≤ 0; omega), (by show 0 + 0 ≤ 0; omega)⟩ hS (fun q h => h.elim (fun h => ⟨8, by omega, h⟩) (fun h => ⟨9, by omega, h⟩)) (fun q h => h.elim (fun h => ⟨8, by omega, h⟩) (fun h => ⟨9, by omega, h⟩)) (fun x59 u59 H1 locs1 hp59 hF59 hz59 hk59 hS => ?_)
      have hO : xXO D ad n ch rg H1 := xat_keep hO hk59 (fun z => z.elim (xne hj (by omega) (by omega) (by omega)) (xne hj (by omega) (by omega) (by omega)))
      have hBk : xXB D cC ad H1 := xat_keep hBk hk59 (fun z => z.elim (xne hj (by omega) (by omega) (by omega)) (xne hj (by omega) (by omega) (by omega)))
      have hMe : xMe D cI (ad 2) (ad 3) st kf H1 := xMe_keep hMe hk59 (fun z => z.elim (xne hj (by omega) (by omega) (by omega)) (xne hj (by omega) (by omega) (by omega))) (fun z => z.elim (xne hj (by omega) (by omega) (by omega)) (xne hj (by omega) (by omega) (by omega)))
      have hRu : xCh D cI (ad 4) (ad 5) zr fr H1 := xCh_keep hRu hk59 (fun z => z.elim (xne hj (by omega) (by omega) (by omega)) (xne hj (by omega) (by omega) (by omega))) (fun z => z.elim (xne hj (by omega) (by omega) (by omega)) (xne hj (by omega) (by omega) (by omega)))
      have hMa : xCh D cI (ad 6) (ad 7) zm fm H1 := xCh_keep hMa hk59 (fun z => z.elim (xne hj (by omega) (by omega) (by omega)) (xne hj (by omega) (by omega) (by omega))) (fun z => z.elim (xne hj (by omega) (by omega) (by omega)) (xne hj (by omega) (by omega) (by omega)))
      have hCs : xXC D cI ad zf pm H1 := xXC_keep hCs hk59 (fun i hi1 hi2 => (fun z => z.elim (xne hj (by omega) (by omega) (by omega)) (xne hj (by omega) (by omega) (by omega))))
      have hRs : xRs D cI (ad 8) (ad 9) u59.1 u59.2 H1 := hF59
      subst hp59
      refine W.widen (k := 0) (n := 0) (by omega) (by omega) ?_
      exact x_miret hx hb hr hlocks () (by show nI _ = rCount _ _; unfold rCount; simp only [xN_nI (show 3 < 2 ^ 31 by decide)]; rfl) (xXW_mk (S := (n, ch, pm, st, kf, rg)) hO hBk hMe hRu hfr hMa hfm hRs hCs hz) hS (fun _ h => h) dX3_count_62
    · refine lv_tableIn (off := 62) (tgt := 63) hx hb dX3_count_1 (by decide) (by decide) rfl (by decide) ?_
      have hl : lv_has ls 2 [(0, .ref (ad 0)), (1, .int (nI 4))] := hl
      refine lv_aload_n hx hb dX3_count_63 rfl (lv_at hl 0 rfl) ?_
      refine x_get (v := .ref (ad 2)) (C := RX3) (T := TX3) (N := 8) hx hb hts (by decide +kernel) hown hK hO rfl 1 (by decide) (hts (.fieldLink RX3 19 "BellRanks" "method" "LBellRanks$Method;") (by decide +kernel)) (fun _ h9 => h9) rfl dX3_count_64 ?_
      refine xcV (As := []) (rest := []) ⟨hx, hb, hml, hown, hts⟩ (cX1_length_ l D cI cC (ad 2) (ad 3) st kf) (cwV 0 hts gX3_count_X1_length rfl rfl rfl (by decide +kernel) ⟨Nat.le_of_ble_eq_true rfl, Nat.le_of_ble_eq_true rfl⟩) hK hMe (xRecv hK rfl hMe.1) rfl hl.1 rfl (Nat.le_of_ble_eq_true rfl) dX3_count_67 ⟨(by show 0 ≤ 0; omega), (by show 0 ≤ 0; omega)⟩ (fun x67 e67 => ?_)
      subst e67
      refine W.widen (k := 0) (n := 0) (by omega) (by omega) ?_
      exact x_miret hx hb hr hlocks () (by show nI _ = rCount _ _; unfold rCount; simp only [xN_nI (show 4 < 2 ^ 31 by decide)]; rfl) (xXW_mk (S := (n, ch, pm, st, kf, rg)) hO hBk hMe hRu hfr hMa hfm hRs hCs hz) hS (fun _ h => h) dX3_count_70
    · refine lv_tableIn (off := 70) (tgt := 71) hx hb dX3_count_1 (by decide) (by decide) rfl (by decide) ?_
      have hl : lv_has ls 2 [(0, .ref (ad 0)), (1, .int (nI 5))] := hl
      refine lv_aload_n hx hb dX3_count_71 rfl (lv_at hl 0 rfl) ?_
      refine x_get (v := .int (nI rg)) (C := RX3) (T := TX3) (N := 8) hx hb hts (by decide +kernel) hown hK hO rfl 7 (by decide) (hts (.fieldLink RX3 44 "BellRanks" "rungInAll" "I") (by decide +kernel)) (fun _ h9 => h9) rfl dX3_count_72 ?_
      refine W.widen (k := 0) (n := 0) (by omega) (by omega) ?_
      exact x_miret hx hb hr hlocks () (by show nI _ = rCount _ _; unfold rCount; simp only [xN_nI (show 5 < 2 ^ 31 by decide)]; rfl) (xXW_mk (S := (n, ch, pm, st, kf, rg)) hO hBk hMe hRu hfr hMa hfm hRs hCs hz) hS (fun _ h => h) dX3_count_75
  have hn := hy
  exact absurd (hT.symm.trans (show tCount (n, ch, pm, st, kf, rg) x = 1 from if_neg hn)) (by decide)

set_option maxRecDepth 100000 in
set_option maxHeartbeats 4000000 in
theorem okKept_ (l : Launch) (hst9 : l.stackTraces = false) (D : va_G) (cI cC : ClassId) (ad : Nat → Nat) (hj : xInj ad) (S : AS) (hI : AI S) (x : Int32) (hT : tKept S x = 0) : Met l yX3_kept wsX3_kept (xRm 14 0 0) (va_Pc [.ref (ad 0), .int x] (xBZ D cI cC (xXW D cI cC ad S) (xAD ad))) (xI (fun r (_ : Unit) => r = rKept S x) (fun _ H => xXW D cI cC ad (S) H) (xAD ad)) 0 0 (xAD ad) := by
  obtain ⟨n, ch, pm, st, kf, rg⟩ := S
  obtain ⟨⟨hn2, hn8⟩, hch, hst, hpm8, hpm, hkv, hkb⟩ := id hI
  dsimp only at hn2 hn8 hch hst hpm8 hpm hkv hkb
  refine Met.ofW (cc := cX3_kept) (maxL := 2) (ret := (some .int)) (by decide) rfl ?_
  intro p e s m args below meth c s₁ B hml hv
  obtain ⟨rfl, hP, hK, hZ⟩ := hv
  have hx := B.exec
  have hb := B.bytes
  have hr := B.returns
  have hts := atoms_spec (ws := wsX3_kept) B.pre
  have hown : s.vm.findClass RX3 = some m.cls := findClass_of_methodNamed B.named
  have hlocks := B.notSynchronized
  have hW := hP
  have hl := lv_entry ([.ref (ad 0), .int x]) (n := 2) (Nat.le_of_ble_eq_true rfl)
  rw [lg_entry_eq]
  generalize (lg_sl ([.ref (ad 0), .int x]) ++ List.replicate (2 - (lg_sl ([.ref (ad 0), .int x])).length) Slot.unset).toArray = ls at hl ⊢
  have hl : lv_has ls 2 [(0, .ref (ad 0)), (1, .int x)] := hl
  obtain ⟨zr, zm, zs, fr, fm, fs, zf, hO, hBk, hMe, hRu, hfr, hMa, hfm, hRs, hCs, hz⟩ := id hW
  have hO : xXO D ad n ch rg s.heap := hO
  have hMe : xMe D cI (ad 2) (ad 3) st kf s.heap := hMe
  have hCs : xXC D cI ad zf pm s.heap := hCs
  have hz : ∀ k, k < ch → zf k = n := hz
  have hS : va_S (xAD ad) s.heap s.heap [] := va_S.rf
  refine lv_iload_n hx hb dX3_kept_0 rfl (lv_at hl 1 rfl) ?_
  refine lv_if_lt (tgt := 15) hx hb dX3_kept_1 (by decide) (fun c1 => ?_) (fun c1 => ?_)
  · exact absurd (hT.symm.trans (show tKept (n, ch, pm, st, kf, rg) x = 1 from if_neg (fun z => z.1 c1))) (by decide)
  · refine lv_iload_n hx hb dX3_kept_4 rfl (lv_at hl 1 rfl) ?_
    refine lv_aload_n hx hb dX3_kept_5 rfl (lv_at hl 0 rfl) ?_
    refine x_get (v := .ref (ad 2)) (C := RX3) (T := TX3) (N := 8) hx hb hts (by decide +kernel) hown hK hO rfl 1 (by decide) (hts (.fieldLink RX3 19 "BellRanks" "method" "LBellRanks$Method;") (by decide +kernel)) (fun _ h9 => h9) rfl dX3_kept_6 ?_
    refine xcV (As := []) (rest := [.int x]) ⟨hx, hb, hml, hown, hts⟩ (cX1_length_ l D cI cC (ad 2) (ad 3) st kf) (cwV 0 hts gX3_kept_X1_length rfl rfl rfl (by decide +kernel) ⟨Nat.le_of_ble_eq_true rfl, Nat.le_of_ble_eq_true rfl⟩) hK hMe (xRecv hK rfl hMe.1) rfl hl.1 rfl (Nat.le_of_ble_eq_true rfl) dX3_kept_9 ⟨(by show 0 ≤ 0; omega), (by show 0 ≤ 0; omega)⟩ (fun x9 e9 => ?_)
    subst e9
    refine lv_icmp_lt (tgt := 25) hx hb dX3_kept_12 (by decide) (fun c12 => ?_) (fun c12 => ?_)
    · have hi : inR x st := (inR_ltI c1 (by omega)).mp c12
      obtain ⟨j1, hj1, hj1b, rfl⟩ := inR_of hi
      have hl : lv_has ls 2 [(0, .ref (ad 0)), (1, .int (nI j1))] := hl
      refine lv_aload_n hx hb dX3_kept_25 rfl (lv_at hl 0 rfl) ?_
      refine x_get (v := .ref (ad 2)) (C := RX3) (T := TX3) (N := 8) hx hb hts (by decide +kernel) hown hK hO rfl 1 (by decide) (hts (.fieldLink RX3 19 "BellRanks" "method" "LBellRanks$Method;") (by decide +kernel)) (fun _ h9 => h9) rfl dX3_kept_26 ?_
      refine lv_iload_n hx hb dX3_kept_29 rfl (lv_at hl 1 rfl) ?_
      refine xcV (As := [.int (nI j1)]) (rest := []) ⟨hx, hb, hml, hown, hts⟩ (cX1_keptAt_ l D cI cC (ad 2) (ad 3) st kf j1 (by omega)) (cwV 1 hts gX3_kept_X1_keptAt rfl rfl rfl (by decide +kernel) ⟨Nat.le_of_ble_eq_true rfl, Nat.le_of_ble_eq_true rfl⟩) hK hMe (xRecv hK rfl hMe.1) rfl hl.1 rfl (Nat.le_of_ble_eq_true rfl) dX3_kept_30 ⟨(by show 0 ≤ 0; omega), (by show 0 ≤ 0; omega)⟩ (fun x30 e30 => ?_)
      subst e30
      refine W.widen (k := 0) (n := 0) (by omega) (by omega) ?_
      exact x_miret hx hb hr hlocks () (by show nI _ = rKept _ _; unfold rKept; simp only [xN_nI hj1b]) (xXW_mk (S := (n, ch, pm, st, kf, rg)) hO hBk hMe hRu hfr hMa hfm hRs hCs hz) hS (fun _ h => h) dX3_kept_33
    · exact absurd (hT.symm.trans (show tKept (n, ch, pm, st, kf, rg) x = 1 from if_neg (fun z => c12 ((inR_ltI c1 (by omega)).mpr z)))) (by decide)

set_option maxRecDepth 100000 in
set_option maxHeartbeats 4000000 in
theorem kDigest_ (l : Launch) (hst9 : l.stackTraces = false) (D : va_G) (cI cC : ClassId) (ad : Nat → Nat) (hj : xInj ad) (S : AS) (hI : AI S) : Met l yX3_digest wsX3_digest (xRm 20 384 2304) (va_Pc [.ref (ad 0)] (xBZ D cI cC (xXW D cI cC ad S) (xAD ad))) (xL (fun r (_ : Unit) => r = dgS S) (fun _ H => xXW D cI cC ad (S) H) (xAD ad)) 384 2304 (xAD ad) := by
  obtain ⟨n, ch, pm, st, kf, rg⟩ := S
  obtain ⟨⟨hn2, hn8⟩, hch, hst, hpm8, hpm, hkv, hkb⟩ := id hI
  dsimp only at hn2 hn8 hch hst hpm8 hpm hkv hkb
  refine Met.ofW (cc := cX3_digest) (maxL := 5) (ret := (some .long)) (by decide) rfl ?_
  intro p e s m args below meth c s₁ B hml hv
  obtain ⟨rfl, hP, hK, hZ⟩ := hv
  have hx := B.exec
  have hb := B.bytes
  have hr := B.returns
  have hts := atoms_spec (ws := wsX3_digest) B.pre
  have hown : s.vm.findClass RX3 = some m.cls := findClass_of_methodNamed B.named
  have hlocks := B.notSynchronized
  have hW := hP
  have hl := lv_entry ([.ref (ad 0)]) (n := 5) (Nat.le_of_ble_eq_true rfl)
  rw [lg_entry_eq]
  generalize (lg_sl ([.ref (ad 0)]) ++ List.replicate (5 - (lg_sl ([.ref (ad 0)])).length) Slot.unset).toArray = ls at hl ⊢
  have hl : lv_has ls 5 [(0, .ref (ad 0))] := hl
  obtain ⟨zr, zm, zs, fr, fm, fs, zf, hO, hBk, hMe, hRu, hfr, hMa, hfm, hRs, hCs, hz⟩ := id hW
  have hO : xXO D ad n ch rg s.heap := hO
  have hMe : xMe D cI (ad 2) (ad 3) st kf s.heap := hMe
  have hCs : xXC D cI ad zf pm s.heap := hCs
  have hz : ∀ k, k < ch → zf k = n := hz
  have hS : va_S (xAD ad) s.heap s.heap [] := va_S.rf
  refine lv_ldc2 (v := 1579) hx hb hown (hts (.constantLong RX3 176 1579) (by decide +kernel)) dX3_digest_0 ?_
  refine lv_lstore_n (lv' := [(1, .long 1579), (0, .ref (ad 0))]) hx hb dX3_digest_3 rfl hl (by decide) rfl (fun ls hl => ?_)
  refine xn_iconst (v := 0) hx hb dX3_digest_4 (by decide) ?_
  refine lv_istore_n (lv' := [(3, .int (nI 0)), (1, .long 1579), (0, .ref (ad 0))]) hx hb dX3_digest_5 rfl hl (by decide) rfl (fun ls hl => ?_)
  refine x_loopH (σ := Int64 × Nat) (fun a => 6 - a.2) (fun a H locs cells slots ls => (a.2 ≤ 6) ∧ (a.1 = dgR (cvS (n, ch, pm, st, kf, rg)) 1579 a.2) ∧ (xXW D cI cC ad (n, ch, pm, st, kf, rg) H) ∧ (va_S (xAD ad) s.heap H locs) ∧ (cells ≤ 0) ∧ (slots ≤ 0) ∧ lv_has ls 5 [(0, .ref (ad 0)), (1, .long a.1), (3, .int (nI a.2))]) ?_ (1579, 0) _ _ _ _ ls ⟨(Nat.zero_le _), rfl, hW, hS, (by first | omega | (dsimp only; omega)), (by first | omega | (dsimp only; omega)), lv_sub hl [2, 1, 0] rfl⟩
  rintro ⟨d9, i⟩ H locs cells slots ls ⟨h2, h3, hW, hS, hce, hse, hl⟩ ih6
  dsimp only at h2 h3 hW hS hce hse hl
  have hW : xXW D cI cC ad (n, ch, pm, st, kf, rg) _ := hW
  obtain ⟨zr, zm, zs, fr, fm, fs, zf, hO, hBk, hMe, hRu, hfr, hMa, hfm, hRs, hCs, hz⟩ := id hW
  refine lv_iload_n hx hb dX3_digest_6 rfl (lv_at hl 2 rfl) ?_
  refine xn_bipush (v := 6) hx hb dX3_digest_7 (by decide) ?_
  refine xn_icmp_ge (tgt := 31) hx hb dX3_digest_9 (by decide) (by omega) (by decide) (fun c9 => ?_) (fun c9 => ?_)
  · refine xn_iconst (v := 0) hx hb dX3_digest_31 (by decide) ?_
    refine lv_istore_n (lv' := [(3, .int (nI 0)), (0, .ref (ad 0)), (1, .long d9)]) hx hb dX3_digest_32 rfl hl (by decide) rfl (fun ls hl => ?_)
    refine x_loopH (σ := Int64 × Nat) (fun a => ch - a.2) (fun a H locs cells slots ls => (a.2 ≤ ch) ∧ (a.1 = dgB (n, ch, pm, st, kf, rg) (dgR (cvS (n, ch, pm, st, kf, rg)) 1579 6) a.2) ∧ (xXW D cI cC ad (n, ch, pm, st, kf, rg) H) ∧ (va_S (xAD ad) s.heap H locs) ∧ (cells ≤ 24 * a.2) ∧ (slots ≤ 144 * a.2) ∧ lv_has ls 5 [(0, .ref (ad 0)), (1, .long a.1), (3, .int (nI a.2))]) ?_ (d9, 0) _ _ _ _ ls ⟨(Nat.zero_le _), (by dsimp only; rw [h3, show i = 6 by omega]; rfl), hW, hS, (by first | omega | (dsimp only; omega)), (by first | omega | (dsimp only; omega)), lv_sub hl [1, 2, 0] rfl⟩
    rintro ⟨d9, k⟩ H locs cells slots ls ⟨h2, h3, hW, hS, hce, hse, hl⟩ ih33
    dsimp only at h2 h3 hW hS hce hse hl
    have hW : xXW D cI cC ad (n, ch, pm, st, kf, rg) _ := hW
    obtain ⟨zr, zm, zs, fr, fm, fs, zf, hO, hBk, hMe, hRu, hfr, hMa, hfm, hRs, hCs, hz⟩ := id hW
    refine lv_iload_n hx hb dX3_digest_33 rfl (lv_at hl 2 rfl) ?_
    refine lv_aload_n hx hb dX3_digest_34 rfl (lv_at hl 0 rfl) ?_
    refine x_get (v := .int (nI ch)) (C := RX3) (T := TX3) (N := 8) hx hb hts (by decide +kernel) hown hK hO rfl 6 (by decide) (hts (.fieldLink RX3 41 "BellRanks" "written" "I") (by decide +kernel)) (fun _ h9 => h9) rfl dX3_digest_35 ?_
    refine xn_icmp_ge (tgt := 111) hx hb dX3_digest_38 (by decide) (by omega) (by omega) (fun c38 => ?_) (fun c38 => ?_)
    · refine xn_iconst (v := 0) hx hb dX3_digest_111 (by decide) ?_
      refine lv_istore_n (lv' := [(3, .int (nI 0)), (0, .ref (ad 0)), (1, .long d9)]) hx hb dX3_digest_112 rfl hl (by decide) rfl (fun ls hl => ?_)
      refine x_loopH (σ := Int64 × Nat) (fun a => st - a.2) (fun a H locs cells slots ls => (a.2 ≤ st) ∧ (a.1 = dgR kf (dgB (n, ch, pm, st, kf, rg) (dgR (cvS (n, ch, pm, st, kf, rg)) 1579 6) ch) a.2) ∧ (xXW D cI cC ad (n, ch, pm, st, kf, rg) H) ∧ (va_S (xAD ad) s.heap H locs) ∧ (cells ≤ 384) ∧ (slots ≤ 2304) ∧ lv_has ls 5 [(0, .ref (ad 0)), (1, .long a.1), (3, .int (nI a.2))]) ?_ (d9, 0) _ _ _ _ ls ⟨(Nat.zero_le _), (by dsimp only; rw [h3, show k = ch by omega]; rfl), hW, hS, (by first | omega | (dsimp only; omega)), (by first | omega | (dsimp only; omega)), lv_sub hl [1, 2, 0] rfl⟩
      rintro ⟨d9, j⟩ H locs cells slots ls ⟨h2, h6, hW, hS, hce, hse, hl⟩ ih113
      dsimp only at h2 h6 hW hS hce hse hl
      have hW : xXW D cI cC ad (n, ch, pm, st, kf, rg) _ := hW
      obtain ⟨zr, zm, zs, fr, fm, fs, zf, hO, hBk, hMe, hRu, hfr, hMa, hfm, hRs, hCs, hz⟩ := id hW
      refine lv_iload_n hx hb dX3_digest_113 rfl (lv_at hl 2 rfl) ?_
      refine lv_aload_n hx hb dX3_digest_114 rfl (lv_at hl 0 rfl) ?_
      refine x_get (v := .ref (ad 2)) (C := RX3) (T := TX3) (N := 8) hx hb hts (by decide +kernel) hown hK hO rfl 1 (by decide) (hts (.fieldLink RX3 19 "BellRanks" "method" "LBellRanks$Method;") (by decide +kernel)) (fun _ h9 => h9) rfl dX3_digest_115 ?_
      refine xcV (As := []) (rest := [.int (nI j)]) ⟨hx, hb, hml, hown, hts⟩ (cX1_length_ l D cI cC (ad 2) (ad 3) st kf) (cwV 0 hts gX3_digest_X1_length rfl rfl rfl (by decide +kernel) ⟨Nat.le_of_ble_eq_true rfl, Nat.le_of_ble_eq_true rfl⟩) hK hMe (xRecv hK rfl hMe.1) rfl hl.1 rfl (Nat.le_of_ble_eq_true rfl) dX3_digest_118 ⟨(by show cells ≤ 384; omega), (by show slots ≤ 2304; omega)⟩ (fun x118 e118 => ?_)
      subst e118
      refine xn_icmp_ge (tgt := 143) hx hb dX3_digest_121 (by decide) (by omega) (by omega) (fun c121 => ?_) (fun c121 => ?_)
      · refine lv_lload_n hx hb dX3_digest_143 rfl (lv_at hl 1 rfl) ?_
        refine W.widen (k := 384) (n := 2304) (by omega) (by omega) ?_
        exact x_mlret hx hb hr hlocks () (by rw [h6, show j = st by omega]; rfl) hW hS (fun _ h => h) dX3_digest_144
      · refine lv_lload_n hx hb dX3_digest_124 rfl (lv_at hl 1 rfl) ?_
        refine lv_ldc2 (v := 31) hx hb hown (hts (.constantLong RX3 178 31) (by decide +kernel)) dX3_digest_125 ?_
        refine lv_lmul hx hb dX3_digest_128 ?_
        refine lv_aload_n hx hb dX3_digest_129 rfl (lv_at hl 0 rfl) ?_
        refine lv_iload_n hx hb dX3_digest_130 rfl (lv_at hl 2 rfl) ?_
        refine xzI (As := [.int (nI j)]) (rest := [.long (d9 * 31)]) ⟨hx, hb, hml, hown, hts⟩ (okKept_ l hst9 D cI cC ad hj (n, ch, pm, st, kf, rg) hI (nI j) (show tKept (n, ch, pm, st, kf, rg) (nI j) = 0 from if_pos ((inR_nI (by omega)).mpr (by omega)))) (cwV 1 hts gX3_digest_X3_kept rfl rfl rfl (by decide +kernel) ⟨Nat.le_of_ble_eq_true rfl, Nat.le_of_ble_eq_true rfl⟩) hK (hZ.kept hS.2.1) hW (xRecv hK rfl hO) rfl hl.1 rfl (Nat.le_of_ble_eq_true rfl) dX3_digest_131 ⟨(by show cells + 0 ≤ 384; omega), (by show slots + 0 ≤ 2304; omega)⟩ hS (fun _ h => h) (fun _ h => h) (fun x131 u131 H1 locs1 hp131 hF hz9 hk9 hS => ?_)
        have e131 : x131 = nI (kf j) := hp131.trans (by show nI _ = nI _; simp only [xN_nI (show j < 2 ^ 31 by omega)])
        subst e131
        have hW : xXW D cI cC ad (n, ch, pm, st, kf, rg) _ := hF
        obtain ⟨zr, zm, zs, fr, fm, fs, zf, hO, hBk, hMe, hRu, hfr, hMa, hfm, hRs, hCs, hz⟩ := id hW
        refine lv_i2l hx hb dX3_digest_134 rfl ?_
        refine lv_ladd hx hb dX3_digest_135 ?_
        refine lv_lstore_n (lv' := [(1, .long ((d9 * 31) + (((nI (kf j))).toInt64))), (0, .ref (ad 0)), (3, .int (nI j))]) hx hb dX3_digest_136 rfl hl (by decide) rfl (fun ls hl => ?_)
        refine xn_iinc (v := j + 1) (lv' := [(3, .int (nI (j + 1))), (1, .long ((d9 * 31) + (((nI (kf j))).toInt64))), (0, .ref (ad 0))]) hx hb dX3_digest_137 hl (k := 2) rfl (xinc1 _) (by decide) rfl (fun ls hl => ?_)
        refine lv_goto (tgt := 113) hx hb dX3_digest_140 (by decide) ?_
        exact ih113 ((d9 * 31) + (((nI (kf j))).toInt64), j + 1) _ _ _ _ ls ⟨(by first | omega | (dsimp only; omega)), (by dsimp only; rw [h6]; rfl), hW, hS, (by first | omega | (dsimp only; omega)), (by first | omega | (dsimp only; omega)), lv_sub hl [2, 1, 0] rfl⟩ (by dsimp only; omega)
    · refine xn_iconst (v := 0) hx hb dX3_digest_41 (by decide) ?_
      refine lv_istore (lv' := [(4, .int (nI 0)), (0, .ref (ad 0)), (1, .long d9), (3, .int (nI k))]) hx hb dX3_digest_42 hl (by decide) rfl (fun ls hl => ?_)
      refine x_loopH (σ := Int64 × Nat) (fun a => 8 - a.2) (fun a H locs cells slots ls => (a.2 ≤ 8) ∧ (a.1 = dgR (tld (pm k) n) (dgB (n, ch, pm, st, kf, rg) (dgR (cvS (n, ch, pm, st, kf, rg)) 1579 6) k) a.2) ∧ (xXW D cI cC ad (n, ch, pm, st, kf, rg) H) ∧ (va_S (xAD ad) s.heap H locs) ∧ (cells ≤ 24 * k + a.2) ∧ (slots ≤ 144 * k + 6 * a.2) ∧ lv_has ls 5 [(0, .ref (ad 0)), (1, .long a.1), (3, .int (nI k)), (4, .int (nI a.2))]) ?_ (d9, 0) _ _ _ _ ls ⟨(Nat.zero_le _), h3, hW, hS, (by first | omega | (dsimp only; omega)), (by first | omega | (dsimp only; omega)), lv_sub hl [1, 2, 3, 0] rfl⟩
      rintro ⟨d9, w⟩ H locs cells slots ls ⟨h4, h5, hW, hS, hce, hse, hl⟩ ih44
      dsimp only at h4 h5 hW hS hce hse hl
      have hW : xXW D cI cC ad (n, ch, pm, st, kf, rg) _ := hW
      obtain ⟨zr, zm, zs, fr, fm, fs, zf, hO, hBk, hMe, hRu, hfr, hMa, hfm, hRs, hCs, hz⟩ := id hW
      refine lv_iload hx hb dX3_digest_44 (lv_at hl 3 rfl) ?_
      refine xn_bipush (v := 8) hx hb dX3_digest_46 (by decide) ?_
      refine xn_icmp_ge (tgt := 72) hx hb dX3_digest_48 (by decide) (by omega) (by decide) (fun c48 => ?_) (fun c48 => ?_)
      · refine xn_iconst (v := 0) hx hb dX3_digest_72 (by decide) ?_
        refine lv_istore (lv' := [(4, .int (nI 0)), (0, .ref (ad 0)), (1, .long d9), (3, .int (nI k))]) hx hb dX3_digest_73 hl (by decide) rfl (fun ls hl => ?_)
        refine x_loopH (σ := Int64 × Nat) (fun a => n - a.2) (fun a H locs cells slots ls => (a.2 ≤ n) ∧ (a.1 = dgR (pm k) (dgR (tld (pm k) n) (dgB (n, ch, pm, st, kf, rg) (dgR (cvS (n, ch, pm, st, kf, rg)) 1579 6) k) 8) a.2) ∧ (xXW D cI cC ad (n, ch, pm, st, kf, rg) H) ∧ (va_S (xAD ad) s.heap H locs) ∧ (cells ≤ 24 * k + 8 + 2 * a.2) ∧ (slots ≤ 144 * k + 48 + 12 * a.2) ∧ lv_has ls 5 [(0, .ref (ad 0)), (1, .long a.1), (3, .int (nI k)), (4, .int (nI a.2))]) ?_ (d9, 0) _ _ _ _ ls ⟨(Nat.zero_le _), (by dsimp only; rw [h5, show w = 8 by omega]; rfl), hW, hS, (by first | omega | (dsimp only; omega)), (by first | omega | (dsimp only; omega)), lv_sub hl [1, 2, 3, 0] rfl⟩
        rintro ⟨d9, i⟩ H locs cells slots ls ⟨h4, h5, hW, hS, hce, hse, hl⟩ ih75
        dsimp only at h4 h5 hW hS hce hse hl
        have hW : xXW D cI cC ad (n, ch, pm, st, kf, rg) _ := hW
        obtain ⟨zr, zm, zs, fr, fm, fs, zf, hO, hBk, hMe, hRu, hfr, hMa, hfm, hRs, hCs, hz⟩ := id hW
        refine lv_iload hx hb dX3_digest_75 (lv_at hl 3 rfl) ?_
        refine lv_aload_n hx hb dX3_digest_77 rfl (lv_at hl 0 rfl) ?_
        refine x_get (v := .int (nI n)) (C := RX3) (T := TX3) (N := 8) hx hb hts (by decide +kernel) hown hK hO rfl 5 (by decide) (hts (.fieldLink RX3 37 "BellRanks" "bells" "I") (by decide +kernel)) (fun _ h9 => h9) rfl dX3_digest_78 ?_
        refine xn_icmp_ge (tgt := 105) hx hb dX3_digest_81 (by decide) (by omega) (by omega) (fun c81 => ?_) (fun c81 => ?_)
        · refine xn_iinc (v := k + 1) (lv' := [(3, .int (nI (k + 1))), (0, .ref (ad 0)), (1, .long d9), (4, .int (nI i))]) hx hb dX3_digest_105 hl (k := 2) rfl (xinc1 _) (by decide) rfl (fun ls hl => ?_)
          refine lv_goto (tgt := 33) hx hb dX3_digest_108 (by decide) ?_
          exact ih33 (d9, k + 1) _ _ _ _ ls ⟨(by first | omega | (dsimp only; omega)), (by dsimp only; rw [h5, show i = n by omega]; rfl), hW, hS, (by first | omega | (dsimp only; omega)), (by first | omega | (dsimp only; omega)), lv_sub hl [1, 2, 0] rfl⟩ (by dsimp only; omega)
        · refine lv_lload_n hx hb dX3_digest_84 rfl (lv_at hl 1 rfl) ?_
          refine lv_ldc2 (v := 31) hx hb hown (hts (.constantLong RX3 178 31) (by decide +kernel)) dX3_digest_85 ?_
          refine lv_lmul hx hb dX3_digest_88 ?_
          refine lv_aload_n hx hb dX3_digest_89 rfl (lv_at hl 0 rfl) ?_
          refine lv_iload_n hx hb dX3_digest_90 rfl (lv_at hl 2 rfl) ?_
          refine lv_iload hx hb dX3_digest_91 (lv_at hl 3 rfl) ?_
          refine xzI (As := [.int (nI k), .int (nI i)]) (rest := [.long (d9 * 31)]) ⟨hx, hb, hml, hown, hts⟩ (okBell_ l hst9 D cI cC ad hj (n, ch, pm, st, kf, rg) hI (nI k) (nI i) (show tBell (n, ch, pm, st, kf, rg) (nI k) (nI i) = 0 from if_pos ⟨(inR_nI (by omega)).mpr (by omega), (inR_nI (by omega)).mpr (by omega)⟩)) (cwV 2 hts gX3_digest_X3_bell rfl rfl rfl (by decide +kernel) ⟨Nat.le_of_ble_eq_true rfl, Nat.le_of_ble_eq_true rfl⟩) hK (hZ.kept hS.2.1) hW (xRecv hK rfl hO) rfl hl.1 rfl (Nat.le_of_ble_eq_true rfl) dX3_digest_93 ⟨(by show cells + 2 ≤ 384; omega), (by show slots + 12 ≤ 2304; omega)⟩ hS (fun _ h => h) (fun _ h => h) (fun x93 u93 H1 locs1 hp93 hF hz9 hk9 hS => ?_)
          have e93 : x93 = nI (pm k i) := hp93.trans (by show nI _ = nI _; simp only [xN_nI (show k < 2 ^ 31 by omega), xN_nI (show i < 2 ^ 31 by omega)])
          subst e93
          have hW : xXW D cI cC ad (n, ch, pm, st, kf, rg) _ := hF
          obtain ⟨zr, zm, zs, fr, fm, fs, zf, hO, hBk, hMe, hRu, hfr, hMa, hfm, hRs, hCs, hz⟩ := id hW
          refine lv_i2l hx hb dX3_digest_96 rfl ?_
          refine lv_ladd hx hb dX3_digest_97 ?_
          refine lv_lstore_n (lv' := [(1, .long ((d9 * 31) + (((nI (pm k i))).toInt64))), (0, .ref (ad 0)), (3, .int (nI k)), (4, .int (nI i))]) hx hb dX3_digest_98 rfl hl (by decide) rfl (fun ls hl => ?_)
          refine xn_iinc (v := i + 1) (lv' := [(4, .int (nI (i + 1))), (1, .long ((d9 * 31) + (((nI (pm k i))).toInt64))), (0, .ref (ad 0)), (3, .int (nI k))]) hx hb dX3_digest_99 hl (k := 3) rfl (xinc1 _) (by decide) rfl (fun ls hl => ?_)
          refine lv_goto (tgt := 75) hx hb dX3_digest_102 (by decide) ?_
          exact ih75 ((d9 * 31) + (((nI (pm k i))).toInt64), i + 1) _ _ _ _ ls ⟨(by first | omega | (dsimp only; omega)), (by dsimp only; rw [h5]; rfl), hW, hS, (by first | omega | (dsimp only; omega)), (by first | omega | (dsimp only; omega)), lv_sub hl [2, 1, 3, 0] rfl⟩ (by dsimp only; omega)
      · refine lv_lload_n hx hb dX3_digest_51 rfl (lv_at hl 1 rfl) ?_
        refine lv_ldc2 (v := 31) hx hb hown (hts (.constantLong RX3 178 31) (by decide +kernel)) dX3_digest_52 ?_
        refine lv_lmul hx hb dX3_digest_55 ?_
        refine lv_aload_n hx hb dX3_digest_56 rfl (lv_at hl 0 rfl) ?_
        refine lv_iload_n hx hb dX3_digest_57 rfl (lv_at hl 2 rfl) ?_
        refine lv_iload hx hb dX3_digest_58 (lv_at hl 3 rfl) ?_
        refine xzI (As := [.int (nI k), .int (nI w)]) (rest := [.long (d9 * 31)]) ⟨hx, hb, hml, hown, hts⟩ (okTold_ l hst9 D cI cC ad hj (n, ch, pm, st, kf, rg) hI (nI k) (nI w) (show tTold (n, ch, pm, st, kf, rg) (nI k) (nI w) = 0 from if_pos ⟨(inR_nI (by omega)).mpr (by omega), (inR_nI (by omega)).mpr (by omega)⟩)) (cwV 2 hts gX3_digest_X3_told rfl rfl rfl (by decide +kernel) ⟨Nat.le_of_ble_eq_true rfl, Nat.le_of_ble_eq_true rfl⟩) hK (hZ.kept hS.2.1) hW (xRecv hK rfl hO) rfl hl.1 rfl (Nat.le_of_ble_eq_true rfl) dX3_digest_60 ⟨(by show cells + 1 ≤ 384; omega), (by show slots + 6 ≤ 2304; omega)⟩ hS (fun _ h => h) (fun _ h => h) (fun x60 u60 H1 locs1 hp60 hF hz9 hk9 hS => ?_)
        have e60 : x60 = nI (tld (pm k) n w) := hp60.trans (by show nI _ = nI _; simp only [xN_nI (show k < 2 ^ 31 by omega), xN_nI (show w < 2 ^ 31 by omega)])
        subst e60
        have hW : xXW D cI cC ad (n, ch, pm, st, kf, rg) _ := hF
        obtain ⟨zr, zm, zs, fr, fm, fs, zf, hO, hBk, hMe, hRu, hfr, hMa, hfm, hRs, hCs, hz⟩ := id hW
        refine lv_i2l hx hb dX3_digest_63 rfl ?_
        refine lv_ladd hx hb dX3_digest_64 ?_
        refine lv_lstore_n (lv' := [(1, .long ((d9 * 31) + (((nI (tld (pm k) n w))).toInt64))), (0, .ref (ad 0)), (3, .int (nI k)), (4, .int (nI w))]) hx hb dX3_digest_65 rfl hl (by decide) rfl (fun ls hl => ?_)
        refine xn_iinc (v := w + 1) (lv' := [(4, .int (nI (w + 1))), (1, .long ((d9 * 31) + (((nI (tld (pm k) n w))).toInt64))), (0, .ref (ad 0)), (3, .int (nI k))]) hx hb dX3_digest_66 hl (k := 3) rfl (xinc1 _) (by decide) rfl (fun ls hl => ?_)
        refine lv_goto (tgt := 44) hx hb dX3_digest_69 (by decide) ?_
        exact ih44 ((d9 * 31) + (((nI (tld (pm k) n w))).toInt64), w + 1) _ _ _ _ ls ⟨(by first | omega | (dsimp only; omega)), (by dsimp only; rw [h5]; rfl), hW, hS, (by first | omega | (dsimp only; omega)), (by first | omega | (dsimp only; omega)), lv_sub hl [2, 1, 3, 0] rfl⟩ (by dsimp only; omega)
  · refine lv_lload_n hx hb dX3_digest_12 rfl (lv_at hl 1 rfl) ?_
    refine lv_ldc2 (v := 31) hx hb hown (hts (.constantLong RX3 178 31) (by decide +kernel)) dX3_digest_13 ?_
    refine lv_lmul hx hb dX3_digest_16 ?_
    refine lv_aload_n hx hb dX3_digest_17 rfl (lv_at hl 0 rfl) ?_
    refine lv_iload_n hx hb dX3_digest_18 rfl (lv_at hl 2 rfl) ?_
    refine xzI (As := [.int (nI i)]) (rest := [.long (d9 * 31)]) ⟨hx, hb, hml, hown, hts⟩ (okCount_ l hst9 D cI cC ad hj (n, ch, pm, st, kf, rg) hI (nI i) (show tCount (n, ch, pm, st, kf, rg) (nI i) = 0 from if_pos ((inR_nI (by omega)).mpr (by omega)))) (cwV 1 hts gX3_digest_X3_count rfl rfl rfl (by decide +kernel) ⟨Nat.le_of_ble_eq_true rfl, Nat.le_of_ble_eq_true rfl⟩) hK (hZ.kept hS.2.1) hW (xRecv hK rfl hO) rfl hl.1 rfl (Nat.le_of_ble_eq_true rfl) dX3_digest_19 ⟨(by show cells + 0 ≤ 384; omega), (by show slots + 0 ≤ 2304; omega)⟩ hS (fun _ h => h) (fun _ h => h) (fun x19 u19 H1 locs1 hp19 hF hz9 hk9 hS => ?_)
    have e19 : x19 = nI (cvS (n, ch, pm, st, kf, rg) i) := hp19.trans (by show nI _ = nI _; simp only [xN_nI (show i < 2 ^ 31 by omega)])
    subst e19
    have hW : xXW D cI cC ad (n, ch, pm, st, kf, rg) _ := hF
    obtain ⟨zr, zm, zs, fr, fm, fs, zf, hO, hBk, hMe, hRu, hfr, hMa, hfm, hRs, hCs, hz⟩ := id hW
    refine lv_i2l hx hb dX3_digest_22 rfl ?_
    refine lv_ladd hx hb dX3_digest_23 ?_
    refine lv_lstore_n (lv' := [(1, .long ((d9 * 31) + (((nI (cvS (n, ch, pm, st, kf, rg) i))).toInt64))), (0, .ref (ad 0)), (3, .int (nI i))]) hx hb dX3_digest_24 rfl hl (by decide) rfl (fun ls hl => ?_)
    refine xn_iinc (v := i + 1) (lv' := [(3, .int (nI (i + 1))), (1, .long ((d9 * 31) + (((nI (cvS (n, ch, pm, st, kf, rg) i))).toInt64))), (0, .ref (ad 0))]) hx hb dX3_digest_25 hl (k := 2) rfl (xinc1 _) (by decide) rfl (fun ls hl => ?_)
    refine lv_goto (tgt := 6) hx hb dX3_digest_28 (by decide) ?_
    exact ih6 ((d9 * 31) + (((nI (cvS (n, ch, pm, st, kf, rg) i))).toInt64), i + 1) _ _ _ _ ls ⟨(by first | omega | (dsimp only; omega)), (by dsimp only; rw [h3]; rfl), hW, hS, (by first | omega | (dsimp only; omega)), (by first | omega | (dsimp only; omega)), lv_sub hl [2, 1, 0] rfl⟩ (by dsimp only; omega)
end
section
/-! CONSTRUCTORS: rows for new objects, final fields, an array of changes -/
section XNEW
variable {p : Program} {l : Launch} {e : Env} {R : Room} {s : State} {m : MethodId} {args : Array Value} {below : List Frame} {meth : Method} {c : Code} {H : Heap} {locs : List Loc} {cells slots : Nat} {Q : State → Prop}
variable {cc : ByteArray} {pc : Nat} {ls : Array Slot} {rest : List Value} {a n : Nat} {D : va_G} {cI cC : ClassId}
theorem x_putF (hx : p.tables.exec = Jvm.exec) (hb : c.code = cc) {own ref C : String} {T : u_T} {N ci index : Nat} {Ts : List Cond} (hts : ∀ w ∈ Ts, w.before args s = true) (hin : ∀ w ∈ u_ws C T N, w ∈ Ts) (ty0 : Nat → FieldType) (hty : ∀ k, k < N → parseFieldDescriptor (T k).2.2.1 = some (ty0 k)) (hnm : ∀ a, a < N → ∀ b, b < N → a ≠ b → (T a).2.1 ≠ (T b).2.1) (hown : s.vm.findClass own = some m.cls) (hK : xK D cI cC s) {fs : List Value} (hat : va_at D vwCl (a, .inr (ci, fs)) H) {A : Nat → Prop} {H0 : Heap} (hS0 : va_S A H0 H locs) (hA : A a) (hc : vwCl[ci]? = some (C, T, N)) (k : Nat) (hk : k < N) (hlink : (Cond.fieldLink own index ref (T k).2.1 (T k).2.2.1).before args s = true) (hsame : ∀ x, s.fieldFound? (T k).1 (T k).2.1 (T k).2.2.1 = some x → s.fieldFound? ref (T k).2.1 (T k).2.2.1 = some x) (hfin : (T k).2.2.2 = true) (hin2 : meth.name = "<init>") (hdecl : (T k).1 = own) {ty : FieldType} {v : Value} (hd : parseFieldDescriptor (T k).2.2.1 = some ty) (hn : narrow ty v = v) (hfit : fits ty v = true) (hl : k < fs.length)
    (hdg : decode cc pc = .ok (.putfield index, 3)) (kk : ∀ (H1 : Heap) (locs1 : List Loc), va_at D vwCl (a, .inr (ci, fs.set k v)) H1 → H1.size = H.size → (∀ q : Nat, q ≠ a → H1[q]? = H[q]?) → va_S A H0 H1 locs1 → W p l e R s m args below meth c H1 locs1 cells slots Q (F0 m (pc + 3) ls rest)) : W p l e R s m args below meth c H locs cells slots Q (F0 m pc ls (v :: .ref a :: rest)) := by
  have hap := va_apart (own := own) hts hin ty0 hty hnm hK hc
  obtain ⟨r, h1, cell, q1, q2, q3, q4⟩ := x1 hat 0 _ rfl
  have hr : r = (C, T, N) := Option.some.inj (h1.symm.trans hc)
  subst hr
  obtain ⟨hS, hfc, kC, hkC, hkind⟩ := hK.1 ci _ hc
  obtain ⟨cf, kf, fi, f, hi, hsl⟩ := hS k hk
  have hlay := hts _ (hin _ (u_in_lay hk))
  unfold u_lay at hlay
  rw [if_pos hfin] at hlay
  have hst := (u_facts hfc hkC (u_lays hts hin hk) hi).1
  have hcf : m.cls = cf := by
    obtain ⟨_, _, c', _, _, _, -, -, hf', -, -, -, hown2, -⟩ := Cond.laysFinal_spec hlay
    have e1 : c' = cf := by have := hi.symm.trans hf'; simp at this; exact this.1.symm
    rw [hdecl] at hown2
    rw [← e1]; exact Option.some.inj (hown.symm.trans hown2)
  have h6 := u_fits hfc hkC hkind (Or.inr hlay) hi hd hn hfit
  refine W.putFinK hx hb hown hlink (hsame _ hi) hst hcf hin2 (by rw [q2]; exact h6) q1 q3 (by rw [hsl]; exact k2_hasslot (q4 k hk)) rfl rfl hdg fun H' e1 e2 e3 => ?_
  rw [hsl] at e1 ⊢
  exact kk H' _ ⟨_, hc, t_OB.to (V := updV (vp_V fs) k v) ⟨_, e1, q2, q3, t_set q4 hap hk v⟩ (fun j _ => vp_updV_set hl v j)⟩ e2 e3 (hS0.put e2 e3 hA)
theorem x_new (hx : p.tables.exec = Jvm.exec) (hb : c.code = cc) {own C : String} {T : u_T} {N ci index : Nat} {Ts : List Cond} (hts : ∀ w ∈ Ts, w.before args s = true) (hin : ∀ w ∈ u_ws C T N, w ∈ Ts) (ty : Nat → FieldType) (hty : ∀ k, k < N → parseFieldDescriptor (T k).2.2.1 = some (ty k)) (hown : s.vm.findClass own = some m.cls) (hcl : (Cond.classLink own index C).before args s = true) (hinst : (Cond.instantiable C N).before args s = true) (hini : (Cond.initialized C).before args s = true)
    (hK : xK D cI cC s) {A : Nat → Prop} {H0 : Heap} (hS : va_S A H0 H locs) (hc : vwCl[ci]? = some (C, T, N)) {fs : List Value} (hfs : ∀ j, j < N → defaultValue (ty j) = vp_V fs j) (hcells : cells + 1 ≤ R.cells) (hslots : slots + N ≤ R.slots) (hdg : decode cc pc = .ok (.new index, 3))
    (kk : ∀ (q : Nat) (H1 : Heap), q = H.size → va_at D vwCl (q, .inr (ci, fs)) H1 → H1.size = H.size + 1 → (∀ x, x < H.size → H1[x]? = H[x]?) → va_S A H0 H1 locs → W p l e R s m args below meth c H1 locs (cells + 1) (slots + N) Q (F0 m (pc + 3) ls (.ref q :: rest))) : W p l e R s m args below meth c H locs cells slots Q (F0 m pc ls rest) := by
  have hKn := hK.1 ci _ hc
  refine W.newcK hx hb hown hcl hinst hini rfl hdg hcells hslots hKn.2.1 rfl fun H1 kC hkC e1 z1 o1 => ?_
  exact kk H.size H1 rfl ⟨_, hc, (u_born ty hts hin hKn hkC e1 hty).to hfs⟩ z1 o1 ⟨Nat.le_trans hS.1 (by omega), fun x h1 h2 => (o1 x (Nat.lt_of_lt_of_le h1 hS.1)).trans (hS.2.1 x h1 h2), hS.2.2⟩
theorem x_anew (hx : p.tables.exec = Jvm.exec) (hb : c.code = cc) {own : String} {index : Nat} (hown : s.vm.findClass own = some m.cls) (hcl : (Cond.classLink own index RX0).before args s = true) (hover : va_AO RX0 s) (hK : xK D cI cC s) {A : Nat → Prop} {H0 : Heap} (hS : va_S A H0 H locs) (hn : n < 1000) (hcells : cells + 1 ≤ R.cells) (hslots : slots + n ≤ R.slots) (hdg : decode cc pc = .ok (.anewarray index, 3))
    (kk : ∀ (q : Nat) (H1 : Heap), q = H.size → va_at D vwCl (q, .inl (cC, n, .inr (.inr (.inr (.inr (fun _ => none)))))) H1 → H1.size = H.size + 1 → (∀ x, x < H.size → H1[x]? = H[x]?) → va_S A H0 H1 locs → W p l e R s m args below meth c H1 locs (cells + 1) (slots + n) Q (F0 m (pc + 3) ls (.ref q :: rest))) : W p l e R s m args below meth c H locs cells slots Q (F0 m pc ls (.int (nI n) :: rest)) := by
  have hb31 : n < 2 ^ 31 := Nat.lt_trans hn (by decide)
  have hcl' := nI_clamp hb31
  refine W.anew hx hb hown hcl (va_AO.use hover) rfl hdg rfl (nI_pos hb31) (by rw [hcl']; omega) hcells (by rw [hcl']; exact hslots) fun cA kA comp f1 f2 f3 f4 => ?_
  rw [hcl']
  generalize hH1 : H.push ({ cls := cA, slots := Array.replicate n .null, vm := .none } : Cell) = H1
  have z1 : H1.size = H.size + 1 := by rw [← hH1, Array.size_push]
  have e1 : H1[H.size]? = some (arrV cA n (fun _ => .null)) := by rw [← hH1, Array.getElem?_push_size, ← arrV_new]
  have o1 : ∀ q : Nat, q < H.size → H1[q]? = H[q]? := fun q hq => by rw [← hH1, Array.getElem?_push, if_neg (Nat.ne_of_lt hq)]
  obtain ⟨kA2, comp2, k1, k2, k3, k4⟩ := (hK.2 1 _ rfl).2
  have hcA : cA = cC := Option.some.inj (f1.symm.trans k4)
  subst hcA
  exact kk H.size H1 rfl (by show H1[H.size]? = some (vp_cell _ _); rw [vp_cell_q]; exact e1) z1 o1 ⟨Nat.le_trans hS.1 (by omega), fun x h1 h2 => (o1 x (Nat.lt_of_lt_of_le h1 hS.1)).trans (hS.2.1 x h1 h2), hS.2.2⟩
theorem x_aast (hx : p.tables.exec = Jvm.exec) (hb : c.code = cc) (hK : xK D cI cC s) {f : Nat → Option Nat} (hat : va_at D vwCl (a, .inl (cC, n, .inr (.inr (.inr (.inr f))))) H) {v : Nat} {vs : List Value} (hv : va_at D vwCl (v, .inr (0, vs)) H) {A : Nat → Prop} {H0 : Heap} (hS : va_S A H0 H locs) (hA : A a) {i : Nat} (hi : i < n) (hn : n < 2 ^ 31) (hdg : decode cc pc = .ok (.aastore, 1))
    (kk : ∀ (H1 : Heap) (locs1 : List Loc), va_at D vwCl (a, .inl (cC, n, .inr (.inr (.inr (.inr (va_up f i (some v))))))) H1 → H1.size = H.size → (∀ q : Nat, q ≠ a → H1[q]? = H[q]?) → va_S A H0 H1 locs1 → W p l e R s m args below meth c H1 locs1 cells slots Q (F0 m (pc + 1) ls rest)) : W p l e R s m args below meth c H locs cells slots Q (F0 m pc ls (.ref v :: .int (nI i) :: .ref a :: rest)) := by
  have hi31 : i < 2 ^ 31 := Nat.lt_trans hi hn
  obtain ⟨r', hr', cellV, g1, g2, g3, -⟩ := x1 hv 0 _ rfl
  have hcls := (hK.1 0 (RX0, TX0, 2) rfl).2
  obtain ⟨kA, comp, k1, k2, k3, -⟩ := (hK.2 1 _ rfl).2
  have hcomp : comp = D.1 0 := Option.some.inj (k3.symm.trans hcls.1)
  subst hcomp
  obtain ⟨kC, hkC, -⟩ := hcls.2
  refine W.aast hx hb (x1 hat 0 _ rfl) (fun q h => by cases h) (fun h => by cases h) k1 k2 rfl hkC ⟨nI_pos hi31, by show (nI i).toNatClampNeg < (arrV _ _ _).slots.size; rw [arrV_size, nI_clamp hi31]; exact hi⟩ g1 (fun q h => by rw [g3] at h; cases h) (by rw [g2]; exact hkC) (by rw [g2]; exact va_assign hcls) rfl rfl hdg fun H1 e z oq => ?_
  refine kk H1 _ ?_ z oq (hS.put z oq hA)
  show H1[a]? = some (vp_cell _ _)
  rw [e]
  rw [vp_cell_q, vp_cell_q, arrV_store, nI_clamp hi31]
  congr 2
  funext q
  by_cases hq : q = i
  · subst hq
    simp [updV, va_up, va_rf]
  · simp [updV, va_up, hq]
end XNEW
theorem arrV_cg {cA : ClassId} {n : Nat} {f g : Nat → Value} (h : ∀ j, j < n → f j = g j) : arrV cA n f = arrV cA n g := by
  have h2 : (fun j : Fin n => f j.val) = (fun j : Fin n => g j.val) := funext fun j => h j.val j.isLt
  unfold arrV
  rw [h2]
theorem xrefs_cg {D : va_G} {cA : ClassId} {q n : Nat} {f g : Nat → Option Nat} {H : Heap} (h : va_at D vwCl (q, .inl (cA, n, .inr (.inr (.inr (.inr f))))) H) (hfg : ∀ j, j < n → f j = g j) : va_at D vwCl (q, .inl (cA, n, .inr (.inr (.inr (.inr g))))) H := by
  have h : H[q]? = some (vp_cell cA (n, .inr (.inr (.inr (.inr f))))) := h
  show H[q]? = some (vp_cell cA (n, .inr (.inr (.inr (.inr g)))))
  rw [h, vp_cell_q, vp_cell_q, arrV_cg (fun j hj => by rw [hfg j hj])]
set_option maxRecDepth 100000 in
set_option maxHeartbeats 4000000 in
theorem cX0_init_ (l : Launch) (D : va_G) (cI cC : ClassId) (o sz : Nat) (hos : o < sz) : Met l yX0_init wsX0_init (xRm 2 1 8) (va_Pc [.ref o] (xB D cI cC (fun H => H.size = sz ∧ va_at D vwCl (o, .inr (0, [.null, .int 0])) H))) (xV (fun _ : Unit => True) (fun _ H => xCh D cI o sz 0 (fun _ => 0) H ∧ H.size = sz + 1) (fun q9 => q9 = o ∨ sz ≤ q9)) 1 8 (fun q9 => q9 = o ∨ sz ≤ q9) := by
  refine Met.ofW (cc := cX0_init) (maxL := 1) (ret := none) (by decide) rfl ?_
  intro p e s m args below meth c s₁ B hml hv
  obtain ⟨rfl, hP, hK⟩ := hv
  have hx := B.exec
  have hb := B.bytes
  have hr := B.returns
  have hts := atoms_spec (ws := wsX0_init) B.pre
  have hown : s.vm.findClass RX0 = some m.cls := findClass_of_methodNamed B.named
  have hlocks := B.notSynchronized
  have hin : meth.name = "<init>" := (name_of_methodNamed B.named B.method).1
  obtain ⟨hsz, hO⟩ := hP
  have hS : va_S (fun q9 => q9 = o ∨ sz ≤ q9) s.heap s.heap [] := va_S.rf
  have hl := lv_entry ([.ref o]) (n := 1) (Nat.le_of_ble_eq_true rfl)
  rw [lg_entry_eq]
  generalize (lg_sl ([.ref o]) ++ List.replicate (1 - (lg_sl ([.ref o])).length) Slot.unset).toArray = ls at hl ⊢
  have hl : lv_has ls 1 [(0, .ref o)] := hl
  refine lv_aload_n hx hb dX0_init_0 rfl (lv_at hl 0 rfl) ?_
  refine W.objInit hx hb hown (hts (.methodLink RX0 3 objectInit) (by decide +kernel)) (hts (.instanceMethod objectInit) (by decide +kernel)) (hts _ (List.mem_cons_of_mem _ (List.mem_append_left _ (List.mem_of_getElem? (i := 2) rfl)))) rfl (by rw [hml]; exact hl.1) rfl dX0_init_1 (Nat.le_of_ble_eq_true rfl) (Nat.le_of_ble_eq_true rfl) ?_
  refine W.eq (g2 := F0 m 4 ls []) rfl ?_
  refine lv_aload_n hx hb dX0_init_4 rfl (lv_at hl 0 rfl) ?_
  refine xn_bipush (v := 8) hx hb dX0_init_5 (by decide) ?_
  refine x_newa hx hb (hts (.arrayClass .int) (by decide +kernel)) hK hS (n := 8) (by decide) (by show 0 + 1 ≤ 1; omega) (by show 0 + 8 ≤ 8; omega) dX0_init_7 (fun q H1 hq hG hz1 ho hS => ?_)
  have hqs : q = sz := hq.trans hsz
  subst hqs
  have hO := xat_old hO ho
  refine x_putF (v := .ref q) (ty := .array .int) (C := RX0) (T := TX0) (N := 2) hx hb hts (by decide +kernel) tyX0 tyX0_ok nmX0 hown hK hO hS (Or.inl rfl) rfl 0 (by decide) (hts (.fieldLink RX0 9 "BellRanks$Change" "row" "[I") (by decide +kernel)) (fun _ h9 => h9) rfl hin rfl (by decide +kernel) rfl rfl (Nat.le_of_ble_eq_true rfl) dX0_init_9 (fun H1 locs1 hO hz oq hS => ?_)
  have hG := va_at.kept hG (oq _ (Nat.ne_of_gt hos))
  refine lv_aload_n hx hb dX0_init_12 rfl (lv_at hl 0 rfl) ?_
  refine xn_iconst (v := 0) hx hb dX0_init_13 (by decide) ?_
  have hz1 : Array.size H1 = q + 1 := hz.trans (hz1.trans (congrArg (· + 1) hq.symm))
  refine x_put (v := .int (nI 0)) (ty := .int) (C := RX0) (T := TX0) (N := 2) hx hb hts (by decide +kernel) tyX0 tyX0_ok nmX0 hown hK hO hS (Or.inl rfl) rfl 1 (by decide) (hts (.fieldLink RX0 15 "BellRanks$Change" "size" "I") (by decide +kernel)) (fun _ h9 => h9) rfl (by decide +kernel) rfl rfl (Nat.le_of_ble_eq_true rfl) dX0_init_14 (fun H1 locs1 hO hz oq hS => ?_)
  have hG := va_at.kept hG (oq _ (Nat.ne_of_gt hos))
  refine W.widen (k := 1) (n := 8) (by omega) (by omega) ?_
  exact x_vret hx hb hr hlocks () trivial ⟨⟨hO, hG⟩, hz.trans hz1⟩ hS (fun _ h => h) dX0_init_17

set_option maxRecDepth 100000 in
set_option maxHeartbeats 4000000 in
theorem cX1_init_ (l : Launch) (D : va_G) (cI cC : ClassId) (o sz : Nat) (hos : o < sz) : Met l yX1_init wsX1_init (xRm 2 1 10) (va_Pc [.ref o] (xB D cI cC (fun H => H.size = sz ∧ va_at D vwCl (o, .inr (1, [.null, .int 0])) H))) (xV (fun _ : Unit => True) (fun _ H => xMe D cI o sz 0 (fun _ => 0) H ∧ H.size = sz + 1) (fun q9 => q9 = o ∨ sz ≤ q9)) 1 10 (fun q9 => q9 = o ∨ sz ≤ q9) := by
  refine Met.ofW (cc := cX1_init) (maxL := 1) (ret := none) (by decide) rfl ?_
  intro p e s m args below meth c s₁ B hml hv
  obtain ⟨rfl, hP, hK⟩ := hv
  have hx := B.exec
  have hb := B.bytes
  have hr := B.returns
  have hts := atoms_spec (ws := wsX1_init) B.pre
  have hown : s.vm.findClass RX1 = some m.cls := findClass_of_methodNamed B.named
  have hlocks := B.notSynchronized
  have hin : meth.name = "<init>" := (name_of_methodNamed B.named B.method).1
  obtain ⟨hsz, hO⟩ := hP
  have hS : va_S (fun q9 => q9 = o ∨ sz ≤ q9) s.heap s.heap [] := va_S.rf
  have hl := lv_entry ([.ref o]) (n := 1) (Nat.le_of_ble_eq_true rfl)
  rw [lg_entry_eq]
  generalize (lg_sl ([.ref o]) ++ List.replicate (1 - (lg_sl ([.ref o])).length) Slot.unset).toArray = ls at hl ⊢
  have hl : lv_has ls 1 [(0, .ref o)] := hl
  refine lv_aload_n hx hb dX1_init_0 rfl (lv_at hl 0 rfl) ?_
  refine W.objInit hx hb hown (hts (.methodLink RX1 3 objectInit) (by decide +kernel)) (hts (.instanceMethod objectInit) (by decide +kernel)) (hts _ (List.mem_cons_of_mem _ (List.mem_append_left _ (List.mem_of_getElem? (i := 2) rfl)))) rfl (by rw [hml]; exact hl.1) rfl dX1_init_1 (Nat.le_of_ble_eq_true rfl) (Nat.le_of_ble_eq_true rfl) ?_
  refine W.eq (g2 := F0 m 4 ls []) rfl ?_
  refine lv_aload_n hx hb dX1_init_4 rfl (lv_at hl 0 rfl) ?_
  refine xn_bipush (v := 10) hx hb dX1_init_5 (by decide) ?_
  refine x_newa hx hb (hts (.arrayClass .int) (by decide +kernel)) hK hS (n := 10) (by decide) (by show 0 + 1 ≤ 1; omega) (by show 0 + 10 ≤ 10; omega) dX1_init_7 (fun q H1 hq hG hz1 ho hS => ?_)
  have hqs : q = sz := hq.trans hsz
  subst hqs
  have hO := xat_old hO ho
  refine x_putF (v := .ref q) (ty := .array .int) (C := RX1) (T := TX1) (N := 2) hx hb hts (by decide +kernel) tyX1 tyX1_ok nmX1 hown hK hO hS (Or.inl rfl) rfl 0 (by decide) (hts (.fieldLink RX1 9 "BellRanks$Method" "steps" "[I") (by decide +kernel)) (fun _ h9 => h9) rfl hin rfl (by decide +kernel) rfl rfl (Nat.le_of_ble_eq_true rfl) dX1_init_9 (fun H1 locs1 hO hz oq hS => ?_)
  have hG := va_at.kept hG (oq _ (Nat.ne_of_gt hos))
  refine lv_aload_n hx hb dX1_init_12 rfl (lv_at hl 0 rfl) ?_
  refine xn_iconst (v := 0) hx hb dX1_init_13 (by decide) ?_
  have hz1 : Array.size H1 = q + 1 := hz.trans (hz1.trans (congrArg (· + 1) hq.symm))
  refine x_put (v := .int (nI 0)) (ty := .int) (C := RX1) (T := TX1) (N := 2) hx hb hts (by decide +kernel) tyX1 tyX1_ok nmX1 hown hK hO hS (Or.inl rfl) rfl 1 (by decide) (hts (.fieldLink RX1 15 "BellRanks$Method" "length" "I") (by decide +kernel)) (fun _ h9 => h9) rfl (by decide +kernel) rfl rfl (Nat.le_of_ble_eq_true rfl) dX1_init_14 (fun H1 locs1 hO hz oq hS => ?_)
  have hG := va_at.kept hG (oq _ (Nat.ne_of_gt hos))
  refine W.widen (k := 1) (n := 10) (by omega) (by omega) ?_
  exact x_vret hx hb hr hlocks () trivial ⟨⟨hO, hG⟩, hz.trans hz1⟩ hS (fun _ h => h) dX1_init_17

set_option maxRecDepth 100000 in
set_option maxHeartbeats 4000000 in
theorem cX2_init_ (l : Launch) (D : va_G) (cI cC : ClassId) (o sz : Nat) (hos : o < sz) : Met l yX2_init wsX2_init (xRm 2 1 201) (va_Pc [.ref o] (xB D cI cC (fun H => H.size = sz ∧ va_at D vwCl (o, .inr (2, [.null, .int 0])) H))) (xV (fun _ : Unit => True) (fun _ H => xRs D cI o sz 0 (fun _ => 0) H ∧ H.size = sz + 1) (fun q9 => q9 = o ∨ sz ≤ q9)) 1 201 (fun q9 => q9 = o ∨ sz ≤ q9) := by
  refine Met.ofW (cc := cX2_init) (maxL := 1) (ret := none) (by decide) rfl ?_
  intro p e s m args below meth c s₁ B hml hv
  obtain ⟨rfl, hP, hK⟩ := hv
  have hx := B.exec
  have hb := B.bytes
  have hr := B.returns
  have hts := atoms_spec (ws := wsX2_init) B.pre
  have hown : s.vm.findClass RX2 = some m.cls := findClass_of_methodNamed B.named
  have hlocks := B.notSynchronized
  have hin : meth.name = "<init>" := (name_of_methodNamed B.named B.method).1
  obtain ⟨hsz, hO⟩ := hP
  have hS : va_S (fun q9 => q9 = o ∨ sz ≤ q9) s.heap s.heap [] := va_S.rf
  have hl := lv_entry ([.ref o]) (n := 1) (Nat.le_of_ble_eq_true rfl)
  rw [lg_entry_eq]
  generalize (lg_sl ([.ref o]) ++ List.replicate (1 - (lg_sl ([.ref o])).length) Slot.unset).toArray = ls at hl ⊢
  have hl : lv_has ls 1 [(0, .ref o)] := hl
  refine lv_aload_n hx hb dX2_init_0 rfl (lv_at hl 0 rfl) ?_
  refine W.objInit hx hb hown (hts (.methodLink RX2 3 objectInit) (by decide +kernel)) (hts (.instanceMethod objectInit) (by decide +kernel)) (hts _ (List.mem_cons_of_mem _ (List.mem_append_left _ (List.mem_of_getElem? (i := 2) rfl)))) rfl (by rw [hml]; exact hl.1) rfl dX2_init_1 (Nat.le_of_ble_eq_true rfl) (Nat.le_of_ble_eq_true rfl) ?_
  refine W.eq (g2 := F0 m 4 ls []) rfl ?_
  refine lv_aload_n hx hb dX2_init_4 rfl (lv_at hl 0 rfl) ?_
  refine xn_sipush (v := 201) hx hb dX2_init_5 (by decide) ?_
  refine x_newa hx hb (hts (.arrayClass .int) (by decide +kernel)) hK hS (n := 201) (by decide) (by show 0 + 1 ≤ 1; omega) (by show 0 + 201 ≤ 201; omega) dX2_init_8 (fun q H1 hq hG hz1 ho hS => ?_)
  have hqs : q = sz := hq.trans hsz
  subst hqs
  have hO := xat_old hO ho
  refine x_putF (v := .ref q) (ty := .array .int) (C := RX2) (T := TX2) (N := 2) hx hb hts (by decide +kernel) tyX2 tyX2_ok nmX2 hown hK hO hS (Or.inl rfl) rfl 0 (by decide) (hts (.fieldLink RX2 9 "BellRanks$RankSet" "row" "[I") (by decide +kernel)) (fun _ h9 => h9) rfl hin rfl (by decide +kernel) rfl rfl (Nat.le_of_ble_eq_true rfl) dX2_init_10 (fun H1 locs1 hO hz oq hS => ?_)
  have hG := va_at.kept hG (oq _ (Nat.ne_of_gt hos))
  refine lv_aload_n hx hb dX2_init_13 rfl (lv_at hl 0 rfl) ?_
  refine xn_iconst (v := 0) hx hb dX2_init_14 (by decide) ?_
  have hz1 : Array.size H1 = q + 1 := hz.trans (hz1.trans (congrArg (· + 1) hq.symm))
  refine x_put (v := .int (nI 0)) (ty := .int) (C := RX2) (T := TX2) (N := 2) hx hb hts (by decide +kernel) tyX2 tyX2_ok nmX2 hown hK hO hS (Or.inl rfl) rfl 1 (by decide) (hts (.fieldLink RX2 15 "BellRanks$RankSet" "size" "I") (by decide +kernel)) (fun _ h9 => h9) rfl (by decide +kernel) rfl rfl (Nat.le_of_ble_eq_true rfl) dX2_init_15 (fun H1 locs1 hO hz oq hS => ?_)
  have hG := va_at.kept hG (oq _ (Nat.ne_of_gt hos))
  refine W.widen (k := 1) (n := 201) (by omega) (by omega) ?_
  exact x_vret hx hb hr hlocks () trivial ⟨⟨hO, hG⟩, hz.trans hz1⟩ hS (fun _ h => h) dX2_init_18
end
section
/-! the class's cells, where they are -/
def adF (o sz i : Nat) : Nat := if i = 0 then o else if i = 1 then sz else if i < 10 then sz + 31 + i else if i < 26 then sz + 1 + 2 * (i - 10) else sz + 2 + 2 * (i - 26)
theorem adF_at {o sz i : Nat} (hi : i < 42) : (i = 0 ∧ adF o sz i = o) ∨ (i = 1 ∧ adF o sz i = sz) ∨ (2 ≤ i ∧ i < 10 ∧ adF o sz i = sz + 31 + i) ∨ (10 ≤ i ∧ i < 26 ∧ adF o sz i = sz + 1 + 2 * (i - 10)) ∨ (26 ≤ i ∧ adF o sz i = sz + 2 + 2 * (i - 26)) := by
  unfold adF
  by_cases h0 : i = 0
  · exact Or.inl ⟨h0, if_pos h0⟩
  · by_cases h1 : i = 1
    · exact Or.inr (Or.inl ⟨h1, by rw [if_neg h0, if_pos h1]⟩)
    · by_cases h2 : i < 10
      · exact Or.inr (Or.inr (Or.inl ⟨by omega, h2, by rw [if_neg h0, if_neg h1, if_pos h2]⟩))
      · by_cases h3 : i < 26
        · exact Or.inr (Or.inr (Or.inr (Or.inl ⟨by omega, h3, by rw [if_neg h0, if_neg h1, if_neg h2, if_pos h3]⟩)))
        · exact Or.inr (Or.inr (Or.inr (Or.inr ⟨by omega, by rw [if_neg h0, if_neg h1, if_neg h2, if_neg h3]⟩)))
theorem adF_inj {o sz : Nat} (h : o < sz) : xInj (adF o sz) := by
  intro i j hi hj e
  have a := adF_at (o := o) (sz := sz) hi
  have b := adF_at (o := o) (sz := sz) hj
  rw [e] at a
  generalize adF o sz j = z at a b
  omega
theorem adF_c {o sz k : Nat} (h : k < 16) : adF o sz (10 + k) = sz + 1 + 2 * k := by
  unfold adF
  rw [if_neg (by omega), if_neg (by omega), if_neg (by omega), if_pos (by omega), Nat.add_sub_cancel_left]
theorem adF_r {o sz k : Nat} (h : k < 16) : adF o sz (26 + k) = sz + 2 + 2 * k := by
  unfold adF
  rw [if_neg (by omega), if_neg (by omega), if_neg (by omega), if_neg (by omega), Nat.add_sub_cancel_left]
theorem xmk_old {D : va_G} {q : Nat × va_E} {H H1 : Heap} {B : Nat} (h : va_at D vwCl q H) (hb : q.1 < B) (ho : ∀ x : Nat, x < B → H1[x]? = H[x]?) : va_at D vwCl q H1 := va_at.kept h (ho _ hb)
theorem xpair_old {D : va_G} {q r : Nat × va_E} {H H1 : Heap} {B : Nat} (h : va_at D vwCl q H ∧ va_at D vwCl r H) (hb : q.1 < B) (hb2 : r.1 < B) (ho : ∀ x : Nat, x < B → H1[x]? = H[x]?) : va_at D vwCl q H1 ∧ va_at D vwCl r H1 := ⟨va_at.kept h.1 (ho _ hb), va_at.kept h.2 (ho _ hb2)⟩
theorem xpair_kept {D : va_G} {q r : Nat × va_E} {H H1 : Heap} (h : va_at D vwCl q H ∧ va_at D vwCl r H) (h1 : H1[q.1]? = H[q.1]?) (h2 : H1[r.1]? = H[r.1]?) : va_at D vwCl q H1 ∧ va_at D vwCl r H1 := ⟨va_at.kept h.1 h1, va_at.kept h.2 h2⟩
/-- a book of so many blank changes -/
def xNW (D : va_G) (cI cC : ClassId) (o q i : Nat) (fs : List Value) (H : Heap) : Prop := va_at D vwCl (o, .inr (3, fs)) H ∧ va_at D vwCl (q, .inl (cC, 16, .inr (.inr (.inr (.inr (fun j9 => if j9 < i then some (q + 1 + 2 * j9) else none)))))) H ∧ ∀ j9, j9 < i → xCh D cI (q + 1 + 2 * j9) (q + 2 + 2 * j9) 0 (fun _ => 0) H
theorem xNW.older {D : va_G} {cI cC : ClassId} {o q i B : Nat} {fs : List Value} {H H1 : Heap} (h : xNW D cI cC o q i fs H) (hos : o < q) (hB : q + 1 + 2 * i ≤ B) (ho : ∀ x : Nat, x < B → H1[x]? = H[x]?) : xNW D cI cC o q i fs H1 :=
  ⟨xmk_old h.1 (by show o < B; omega) ho, xmk_old h.2.1 (by show q < B; omega) ho, fun j hj => xpair_old (h.2.2 j hj) (by show q + 1 + 2 * j < B; omega) (by show q + 2 + 2 * j < B; omega) ho⟩
theorem xNW.old {D : va_G} {cI cC : ClassId} {o q B : Nat} {fs : List Value} {H H1 : Heap} (h : xNW D cI cC o q 16 fs H) (hos : o < q) (hB : q + 33 ≤ B) (ho : ∀ x : Nat, x < B → H1[x]? = H[x]?) : xNW D cI cC o q 16 fs H1 := h.older hos (by omega) ho
theorem xNW.put {D : va_G} {cI cC : ClassId} {o q i : Nat} {fs fs' : List Value} {H H1 : Heap} (h : xNW D cI cC o q i fs H) (hos : o < q) (hO : va_at D vwCl (o, .inr (3, fs')) H1) (oq : ∀ x : Nat, x ≠ o → H1[x]? = H[x]?) : xNW D cI cC o q i fs' H1 :=
  ⟨hO, va_at.kept h.2.1 (oq _ (show q ≠ o by omega)), fun j hj => xpair_kept (h.2.2 j hj) (oq _ (show q + 1 + 2 * j ≠ o by omega)) (oq _ (show q + 2 + 2 * j ≠ o by omega))⟩
theorem xNW.add {D : va_G} {cI cC : ClassId} {o q i : Nat} {fs : List Value} {H H1 : Heap} (h : xNW D cI cC o q i fs H) (hos : o < q) (hBk : va_at D vwCl (q, .inl (cC, 16, .inr (.inr (.inr (.inr (va_up (fun j9 => if j9 < i then some (q + 1 + 2 * j9) else none) i (some (q + 1 + 2 * i)))))))) H1) (hNw : xCh D cI (q + 1 + 2 * i) (q + 1 + 2 * i + 1) 0 (fun _ => 0) H) (oq : ∀ x : Nat, x ≠ q → H1[x]? = H[x]?) : xNW D cI cC o q (i + 1) fs H1 :=
  ⟨va_at.kept h.1 (oq _ (show o ≠ q by omega)), xrefs_cg hBk (fun j9 hj9 => by
    by_cases c : j9 = i
    · rw [c, va_up_self, if_pos (Nat.lt_succ_self i)]
    · rw [va_up_ne _ _ c]
      by_cases c2 : j9 < i
      · rw [if_pos c2, if_pos (show j9 < i + 1 by omega)]
      · rw [if_neg c2, if_neg (show ¬ j9 < i + 1 by omega)]), fun j9 hj9 => by
    by_cases c : j9 = i
    · subst c
      rw [show q + 2 + 2 * j9 = q + 1 + 2 * j9 + 1 by omega]
      exact xpair_kept hNw (oq _ (show q + 1 + 2 * j9 ≠ q by omega)) (oq _ (show q + 1 + 2 * j9 + 1 ≠ q by omega))
    · exact xpair_kept (h.2.2 j9 (by omega)) (oq _ (show q + 1 + 2 * j9 ≠ q by omega)) (oq _ (show q + 2 + 2 * j9 ≠ q by omega))⟩
theorem xNW.book {D : va_G} {cI cC : ClassId} {o q : Nat} {fs : List Value} {H : Heap} (h : xNW D cI cC o q 16 fs H) : xXB D cC (adF o q) H := xrefs_cg h.2.1 (fun j9 hj9 => by rw [if_pos hj9, adF_c hj9])
theorem xNW.changes {D : va_G} {cI cC : ClassId} {o q : Nat} {fs : List Value} {H : Heap} (h : xNW D cI cC o q 16 fs H) : xXC D cI (adF o q) (fun _ => 0) (fun _ _ => 0) H := fun j9 hj9 => by rw [adF_c hj9, adF_r hj9]; exact h.2.2 j9 hj9
def xBO (D : va_G) (cI cC : ClassId) (P : Heap → Prop) : State → Prop := fun U => P U.heap ∧ xK D cI cC U ∧ va_AO RX0 U
theorem xPSO {D : va_G} {cI cC : ClassId} {P : Heap → Prop} {As : List Value} {s : State} {H : Heap} (hK : xK D cI cC s) (hA : va_AO RX0 s) (hP : P H) : PreS s H (va_Pc As (xBO D cI cC P)) As :=
  ⟨fun a U g mk q => by
    obtain ⟨q0, qP, qK, qA⟩ := q
    exact ⟨q0, qP, va_K.moved (u := U) (U := U.calling g mk a) (Vm.Alike.refl U.vm) qK, va_AO.moved (u := U) (U := U.calling g mk a) (Vm.Alike.refl U.vm) qA⟩, fun U hU hW => ⟨rfl, by rw [hU]; exact hP, va_K.moved hW.alike hK, va_AO.moved hW.alike hA⟩⟩

set_option maxRecDepth 100000 in
set_option maxHeartbeats 4000000 in
theorem x_mkX0 {p : Program} {l : Launch} {e : Env} {s : State} {m : MethodId} {args : Array Value} {below : List Frame} {meth : Method} {c : Code} {H : Heap} {locs : List Loc} {cells slots : Nat} {Q : State → Prop} {pc : Nat} {ls : Array Slot} {rest : List Value} {D : va_G} {cI cC : ClassId} {o sz B : Nat} {H0 : Heap} (hx : p.tables.exec = Jvm.exec) (hb : c.code = cX3_init) (hml : c.maxLocals = 2) (hown : s.vm.findClass RX3 = some m.cls) (hts : ∀ w ∈ wsX3_init, w.before args s = true) (hK : xK D cI cC s) (hS : va_S (fun q9 => q9 = o ∨ sz ≤ q9) H0 H locs) (hsz : H.size = B) (hB : sz ≤ B) (hl : ls.size = 2) (hcat : ((Value.ref B :: rest).map fun v => v.category).sum ≤ 8) (hc : cells + 2 ≤ 41) (hs : slots + 10 ≤ 411) (d0 : decode cX3_init pc = .ok (.new 9, 3)) (d3 : decode cX3_init (pc + 3) = .ok (.dup, 1)) (d4 : decode cX3_init (pc + 4) = .ok (.invokespecial 15, 3))
    (kk : ∀ (H1 : Heap) (locs1 : List Loc), xCh D cI B (B + 1) 0 (fun _ => 0) H1 → H1.size = B + 2 → (∀ x : Nat, x < B → H1[x]? = H[x]?) → va_S (fun q9 => q9 = o ∨ sz ≤ q9) H0 H1 locs1 → W p l e (headSpec wsX3_init (xRm 4 41 411)).room s m args below meth c H1 locs1 (cells + 2) (slots + 10) Q (F0 m (pc + 7) ls (.ref B :: rest))) : W p l e (headSpec wsX3_init (xRm 4 41 411)).room s m args below meth c H locs cells slots Q (F0 m pc ls rest) := by
  refine x_new (ci := 0) (fs := [.null, .int 0]) (C := RX0) (T := TX0) (N := 2) hx hb hts (by decide +kernel) tyX0 tyX0_ok hown (hts (.classLink RX3 9 RX0) (by decide +kernel)) (hts (.instantiable RX0 2) (by decide +kernel)) (hts (.initialized RX0) (by decide +kernel)) hK hS rfl (fun j hj => by rcases (show j = 0 ∨ j = 1 by omega) with rfl | rfl <;> rfl) (by show cells + 1 ≤ 41; omega) (by show slots + 2 ≤ 411; omega) d0 (fun q H2 hq hN hz1 ho2 hS => ?_)
  have hqs : q = B := hq.trans hsz
  subst hqs
  have hsz2 : Array.size H2 = q + 1 := hz1.trans (congrArg (· + 1) hsz)
  refine lv_dup hx hb d3 rfl ?_
  refine va_callv (va_runI (As := []) (rest := .ref q :: rest) ⟨hx, hb, hml, hown, hts⟩ (cX0_init_ l D cI cC q (q + 1) (Nat.lt_succ_self _)) (cwI 0 hts gX3_init_X0_init rfl rfl rfl (hts (.initialized RX0) (by decide +kernel)) (hts (.methodLink RX3 15 yX0_init) (by decide +kernel)) (hts (.instanceMethod yX0_init) (by decide +kernel)) rfl (by decide +kernel) ⟨Nat.le_of_ble_eq_true rfl, Nat.le_of_ble_eq_true rfl⟩) (xPS hK (P := fun H9 => Array.size H9 = q + 1 ∧ va_at D vwCl (q, .inr (0, [.null, .int 0])) H9) ⟨hsz2, hN⟩) rfl rfl hl rfl (lv_room hcat) d4 ⟨(by show cells + 1 + 1 ≤ 41; omega), (by show slots + 2 + 8 ≤ 411; omega)⟩) hS (fun x9 _ h => Or.inr (by have h : x9 = q ∨ q + 1 ≤ x9 := h; omega)) (fun (x9 : Nat) h => Or.inr (by have h : x9 = q ∨ q + 1 ≤ x9 := h; omega)) (fun u t9 H1 locs1 ht9 _ _ hB2 hz9 hk9 hS => ?_)
  have hB2 : xCh D cI q (q + 1) 0 (fun _ => 0) t9.heap ∧ Array.size t9.heap = q + 1 + 1 := hB2
  rw [ht9] at hB2
  exact kk H1 locs1 hB2.1 hB2.2 (fun x9 hx9 => (hk9 x9 (by omega) (by show ¬ (x9 = q ∨ q + 1 ≤ x9); omega)).trans (ho2 x9 (by omega))) hS

set_option maxRecDepth 100000 in
set_option maxHeartbeats 4000000 in
theorem x_mkX1 {p : Program} {l : Launch} {e : Env} {s : State} {m : MethodId} {args : Array Value} {below : List Frame} {meth : Method} {c : Code} {H : Heap} {locs : List Loc} {cells slots : Nat} {Q : State → Prop} {pc : Nat} {ls : Array Slot} {rest : List Value} {D : va_G} {cI cC : ClassId} {o sz B : Nat} {H0 : Heap} (hx : p.tables.exec = Jvm.exec) (hb : c.code = cX3_init) (hml : c.maxLocals = 2) (hown : s.vm.findClass RX3 = some m.cls) (hts : ∀ w ∈ wsX3_init, w.before args s = true) (hK : xK D cI cC s) (hS : va_S (fun q9 => q9 = o ∨ sz ≤ q9) H0 H locs) (hsz : H.size = B) (hB : sz ≤ B) (hl : ls.size = 2) (hcat : ((Value.ref B :: rest).map fun v => v.category).sum ≤ 8) (hc : cells + 2 ≤ 41) (hs : slots + 12 ≤ 411) (d0 : decode cX3_init pc = .ok (.new 16, 3)) (d3 : decode cX3_init (pc + 3) = .ok (.dup, 1)) (d4 : decode cX3_init (pc + 4) = .ok (.invokespecial 18, 3))
    (kk : ∀ (H1 : Heap) (locs1 : List Loc), xMe D cI B (B + 1) 0 (fun _ => 0) H1 → H1.size = B + 2 → (∀ x : Nat, x < B → H1[x]? = H[x]?) → va_S (fun q9 => q9 = o ∨ sz ≤ q9) H0 H1 locs1 → W p l e (headSpec wsX3_init (xRm 4 41 411)).room s m args below meth c H1 locs1 (cells + 2) (slots + 12) Q (F0 m (pc + 7) ls (.ref B :: rest))) : W p l e (headSpec wsX3_init (xRm 4 41 411)).room s m args below meth c H locs cells slots Q (F0 m pc ls rest) := by
  refine x_new (ci := 1) (fs := [.null, .int 0]) (C := RX1) (T := TX1) (N := 2) hx hb hts (by decide +kernel) tyX1 tyX1_ok hown (hts (.classLink RX3 16 RX1) (by decide +kernel)) (hts (.instantiable RX1 2) (by decide +kernel)) (hts (.initialized RX1) (by decide +kernel)) hK hS rfl (fun j hj => by rcases (show j = 0 ∨ j = 1 by omega) with rfl | rfl <;> rfl) (by show cells + 1 ≤ 41; omega) (by show slots + 2 ≤ 411; omega) d0 (fun q H2 hq hN hz1 ho2 hS => ?_)
  have hqs : q = B := hq.trans hsz
  subst hqs
  have hsz2 : Array.size H2 = q + 1 := hz1.trans (congrArg (· + 1) hsz)
  refine lv_dup hx hb d3 rfl ?_
  refine va_callv (va_runI (As := []) (rest := .ref q :: rest) ⟨hx, hb, hml, hown, hts⟩ (cX1_init_ l D cI cC q (q + 1) (Nat.lt_succ_self _)) (cwI 0 hts gX3_init_X1_init rfl rfl rfl (hts (.initialized RX1) (by decide +kernel)) (hts (.methodLink RX3 18 yX1_init) (by decide +kernel)) (hts (.instanceMethod yX1_init) (by decide +kernel)) rfl (by decide +kernel) ⟨Nat.le_of_ble_eq_true rfl, Nat.le_of_ble_eq_true rfl⟩) (xPS hK (P := fun H9 => Array.size H9 = q + 1 ∧ va_at D vwCl (q, .inr (1, [.null, .int 0])) H9) ⟨hsz2, hN⟩) rfl rfl hl rfl (lv_room hcat) d4 ⟨(by show cells + 1 + 1 ≤ 41; omega), (by show slots + 2 + 10 ≤ 411; omega)⟩) hS (fun x9 _ h => Or.inr (by have h : x9 = q ∨ q + 1 ≤ x9 := h; omega)) (fun (x9 : Nat) h => Or.inr (by have h : x9 = q ∨ q + 1 ≤ x9 := h; omega)) (fun u t9 H1 locs1 ht9 _ _ hB2 hz9 hk9 hS => ?_)
  have hB2 : xMe D cI q (q + 1) 0 (fun _ => 0) t9.heap ∧ Array.size t9.heap = q + 1 + 1 := hB2
  rw [ht9] at hB2
  exact kk H1 locs1 hB2.1 hB2.2 (fun x9 hx9 => (hk9 x9 (by omega) (by show ¬ (x9 = q ∨ q + 1 ≤ x9); omega)).trans (ho2 x9 (by omega))) hS

set_option maxRecDepth 100000 in
set_option maxHeartbeats 4000000 in
theorem x_mkX2 {p : Program} {l : Launch} {e : Env} {s : State} {m : MethodId} {args : Array Value} {below : List Frame} {meth : Method} {c : Code} {H : Heap} {locs : List Loc} {cells slots : Nat} {Q : State → Prop} {pc : Nat} {ls : Array Slot} {rest : List Value} {D : va_G} {cI cC : ClassId} {o sz B : Nat} {H0 : Heap} (hx : p.tables.exec = Jvm.exec) (hb : c.code = cX3_init) (hml : c.maxLocals = 2) (hown : s.vm.findClass RX3 = some m.cls) (hts : ∀ w ∈ wsX3_init, w.before args s = true) (hK : xK D cI cC s) (hS : va_S (fun q9 => q9 = o ∨ sz ≤ q9) H0 H locs) (hsz : H.size = B) (hB : sz ≤ B) (hl : ls.size = 2) (hcat : ((Value.ref B :: rest).map fun v => v.category).sum ≤ 8) (hc : cells + 2 ≤ 41) (hs : slots + 203 ≤ 411) (d0 : decode cX3_init pc = .ok (.new 30, 3)) (d3 : decode cX3_init (pc + 3) = .ok (.dup, 1)) (d4 : decode cX3_init (pc + 4) = .ok (.invokespecial 32, 3))
    (kk : ∀ (H1 : Heap) (locs1 : List Loc), xRs D cI B (B + 1) 0 (fun _ => 0) H1 → H1.size = B + 2 → (∀ x : Nat, x < B → H1[x]? = H[x]?) → va_S (fun q9 => q9 = o ∨ sz ≤ q9) H0 H1 locs1 → W p l e (headSpec wsX3_init (xRm 4 41 411)).room s m args below meth c H1 locs1 (cells + 2) (slots + 203) Q (F0 m (pc + 7) ls (.ref B :: rest))) : W p l e (headSpec wsX3_init (xRm 4 41 411)).room s m args below meth c H locs cells slots Q (F0 m pc ls rest) := by
  refine x_new (ci := 2) (fs := [.null, .int 0]) (C := RX2) (T := TX2) (N := 2) hx hb hts (by decide +kernel) tyX2 tyX2_ok hown (hts (.classLink RX3 30 RX2) (by decide +kernel)) (hts (.instantiable RX2 2) (by decide +kernel)) (hts (.initialized RX2) (by decide +kernel)) hK hS rfl (fun j hj => by rcases (show j = 0 ∨ j = 1 by omega) with rfl | rfl <;> rfl) (by show cells + 1 ≤ 41; omega) (by show slots + 2 ≤ 411; omega) d0 (fun q H2 hq hN hz1 ho2 hS => ?_)
  have hqs : q = B := hq.trans hsz
  subst hqs
  have hsz2 : Array.size H2 = q + 1 := hz1.trans (congrArg (· + 1) hsz)
  refine lv_dup hx hb d3 rfl ?_
  refine va_callv (va_runI (As := []) (rest := .ref q :: rest) ⟨hx, hb, hml, hown, hts⟩ (cX2_init_ l D cI cC q (q + 1) (Nat.lt_succ_self _)) (cwI 0 hts gX3_init_X2_init rfl rfl rfl (hts (.initialized RX2) (by decide +kernel)) (hts (.methodLink RX3 32 yX2_init) (by decide +kernel)) (hts (.instanceMethod yX2_init) (by decide +kernel)) rfl (by decide +kernel) ⟨Nat.le_of_ble_eq_true rfl, Nat.le_of_ble_eq_true rfl⟩) (xPS hK (P := fun H9 => Array.size H9 = q + 1 ∧ va_at D vwCl (q, .inr (2, [.null, .int 0])) H9) ⟨hsz2, hN⟩) rfl rfl hl rfl (lv_room hcat) d4 ⟨(by show cells + 1 + 1 ≤ 41; omega), (by show slots + 2 + 201 ≤ 411; omega)⟩) hS (fun x9 _ h => Or.inr (by have h : x9 = q ∨ q + 1 ≤ x9 := h; omega)) (fun (x9 : Nat) h => Or.inr (by have h : x9 = q ∨ q + 1 ≤ x9 := h; omega)) (fun u t9 H1 locs1 ht9 _ _ hB2 hz9 hk9 hS => ?_)
  have hB2 : xRs D cI q (q + 1) 0 (fun _ => 0) t9.heap ∧ Array.size t9.heap = q + 1 + 1 := hB2
  rw [ht9] at hB2
  exact kk H1 locs1 hB2.1 hB2.2 (fun x9 hx9 => (hk9 x9 (by omega) (by show ¬ (x9 = q ∨ q + 1 ≤ x9); omega)).trans (ho2 x9 (by omega))) hS

set_option maxRecDepth 100000 in
set_option maxHeartbeats 4000000 in
theorem cX3_init_ (l : Launch) (D : va_G) (cI cC : ClassId) (o sz : Nat) (hos : o < sz) : Met l yX3_init wsX3_init (xRm 4 41 411) (va_Pc [.ref o] (xBO D cI cC (fun H => H.size = sz ∧ va_at D vwCl (o, .inr (3, [.null, .null, .null, .null, .null, .int 0, .int 0, .int 0])) H))) (xV (fun _ : Unit => True) (fun _ H => xXW D cI cC (adF o sz) (5, 0, (fun _ _ => 0), 0, (fun _ => 0), 0) H ∧ H.size = sz + 41) (fun q9 => q9 = o ∨ sz ≤ q9)) 41 411 (fun q9 => q9 = o ∨ sz ≤ q9) := by
  refine Met.ofW (cc := cX3_init) (maxL := 2) (ret := none) (by decide) rfl ?_
  intro p e s m args below meth c s₁ B hml hv
  obtain ⟨rfl, hP, hK, hAO⟩ := hv
  have hx := B.exec
  have hb := B.bytes
  have hr := B.returns
  have hts := atoms_spec (ws := wsX3_init) B.pre
  have hown : s.vm.findClass RX3 = some m.cls := findClass_of_methodNamed B.named
  have hlocks := B.notSynchronized
  have hin : meth.name = "<init>" := (name_of_methodNamed B.named B.method).1
  obtain ⟨hsz, hO⟩ := hP
  have hS : va_S (fun q9 => q9 = o ∨ sz ≤ q9) s.heap s.heap [] := va_S.rf
  have hl := lv_entry ([.ref o]) (n := 2) (Nat.le_of_ble_eq_true rfl)
  rw [lg_entry_eq]
  generalize (lg_sl ([.ref o]) ++ List.replicate (2 - (lg_sl ([.ref o])).length) Slot.unset).toArray = ls at hl ⊢
  have hl : lv_has ls 2 [(0, .ref o)] := hl
  refine lv_aload_n hx hb dX3_init_0 rfl (lv_at hl 0 rfl) ?_
  refine W.objInit hx hb hown (hts (.methodLink RX3 1 objectInit) (by decide +kernel)) (hts (.instanceMethod objectInit) (by decide +kernel)) (hts _ (List.mem_cons_of_mem _ (List.mem_append_left _ (List.mem_append_left _ (List.mem_append_left _ (List.mem_append_left _ (List.mem_append_left _ (List.mem_of_getElem? (i := 2) rfl)))))))) rfl (by rw [hml]; exact hl.1) rfl dX3_init_1 (Nat.le_of_ble_eq_true rfl) (Nat.le_of_ble_eq_true rfl) ?_
  refine W.eq (g2 := F0 m 4 ls []) rfl ?_
  refine lv_aload_n hx hb dX3_init_4 rfl (lv_at hl 0 rfl) ?_
  refine xn_bipush (v := 16) hx hb dX3_init_5 (by decide) ?_
  refine x_anew hx hb hown (hts (.classLink RX3 9 RX0) (by decide +kernel)) hAO hK hS (by decide) (by show 0 + 1 ≤ 41; decide) (by show 0 + 16 ≤ 411; decide) dX3_init_7 (fun q H1 hq hBk hz1 ho hS => ?_)
  have hqs : q = sz := hq.trans hsz
  subst hqs
  have hO := xat_old hO ho
  have hsz1 : Array.size H1 = q + 1 := hz1.trans (congrArg (· + 1) hsz)
  refine x_putF (v := .ref q) (ty := .array (.object "BellRanks$Change")) (C := RX3) (T := TX3) (N := 8) hx hb hts (by decide +kernel) tyX3 tyX3_ok nmX3 hown hK hO hS (Or.inl rfl) rfl 0 (by decide) (hts (.fieldLink RX3 11 "BellRanks" "book" "[LBellRanks$Change;") (by decide +kernel)) (fun _ h9 => h9) rfl hin rfl (by decide +kernel) rfl rfl (Nat.le_of_ble_eq_true rfl) dX3_init_10 (fun H1 locs1 hO hz oq hS => ?_)
  have hO : va_at D vwCl (o, .inr (3, [.ref q, .null, .null, .null, .null, .int 0, .int 0, .int 0])) H1 := hO
  have hBk := va_at.kept hBk (oq _ (Nat.ne_of_gt hos))
  have hsz2 : Array.size H1 = q + 1 := hz.trans hsz1
  refine xn_iconst (v := 0) hx hb dX3_init_13 (by decide) ?_
  refine lv_istore_n (lv' := [(1, .int (nI 0)), (0, .ref o)]) hx hb dX3_init_14 rfl hl (by decide) rfl (fun ls hl => ?_)
  refine x_loopH (σ := Nat) (fun a => 16 - a) (fun a H locs cells slots ls => (a ≤ 16) ∧ (xNW D cI cC o q a [.ref q, .null, .null, .null, .null, .int 0, .int 0, .int 0] H) ∧ (Array.size H = q + 1 + 2 * a) ∧ (va_S (fun q9 => q9 = o ∨ q ≤ q9) s.heap H locs) ∧ (cells ≤ 1 + 2 * a) ∧ (slots ≤ 16 + 10 * a) ∧ lv_has ls 2 [(0, .ref o), (1, .int (nI a))]) ?_ 0 _ _ _ _ ls ⟨Nat.zero_le _, ⟨hO, xrefs_cg hBk (fun j hj => (if_neg (Nat.not_lt_zero _)).symm), (fun j hj => absurd hj (Nat.not_lt_zero _))⟩, hsz2, hS, (Nat.le_refl _), (Nat.le_refl _), lv_sub hl [1, 0] rfl⟩
  clear hsz2 hsz1 hz hz1 ho hq oq hBk hO hsz hS
  rintro i H locs cells slots ls ⟨hi, hN, hsz, hS, hce, hse, hl⟩ ih15
  refine lv_iload_n hx hb dX3_init_15 rfl (lv_at hl 1 rfl) ?_
  refine lv_aload_n hx hb dX3_init_16 rfl (lv_at hl 0 rfl) ?_
  refine x_get (v := .ref q) (C := RX3) (T := TX3) (N := 8) hx hb hts (by decide +kernel) hown hK hN.1 rfl 0 (by decide) (hts (.fieldLink RX3 11 "BellRanks" "book" "[LBellRanks$Change;") (by decide +kernel)) (fun _ h9 => h9) rfl dX3_init_17 ?_
  refine x_alenC hx hb hK hN.2.1 dX3_init_20 ?_
  refine xn_icmp_ge (tgt := 43) hx hb dX3_init_21 (by decide) (by omega) (by decide) (fun c21 => ?_) (fun c21 => ?_)
  · obtain rfl : i = 16 := by omega
    have hsz : Array.size H = q + 33 := hsz
    refine W.widen (k := 33) (n := 176) (by omega) (by omega) ?_
    clear hce hse ih15 c21 hi
    refine lv_aload_n hx hb dX3_init_43 rfl (lv_at hl 0 rfl) ?_
    refine x_mkX1 (B := q + 33) hx hb hml hown hts hK hS hsz (Nat.le_add_right _ _) hl.1 (Nat.le_of_ble_eq_true rfl) (Nat.le_of_ble_eq_true rfl) (Nat.le_of_ble_eq_true rfl) dX3_init_44 dX3_init_47 dX3_init_48 (fun H1 locs1 hMe hsz1 ho hS => ?_)
    have hN := hN.old hos (Nat.add_le_add_left (by decide : 33 ≤ 33) q) ho
    have hO := hN.1
    refine x_putF (v := .ref (q + 33)) (ty := .object "BellRanks$Method") (C := RX3) (T := TX3) (N := 8) hx hb hts (by decide +kernel) tyX3 tyX3_ok nmX3 hown hK hO hS (Or.inl rfl) rfl 1 (by decide) (hts (.fieldLink RX3 19 "BellRanks" "method" "LBellRanks$Method;") (by decide +kernel)) (fun _ h9 => h9) rfl hin rfl (by decide +kernel) rfl rfl (Nat.le_of_ble_eq_true rfl) dX3_init_51 (fun H1 locs1 hO hz oq hS => ?_)
    have hN : xNW D cI cC o q 16 [.ref q, .ref (q + 33), .null, .null, .null, .int 0, .int 0, .int 0] H1 := hN.put hos hO oq
    have hsz : Array.size H1 = q + 35 := hz.trans hsz1
    have hMe := xpair_kept hMe (oq _ (Nat.ne_of_gt (Nat.lt_of_lt_of_le hos (Nat.le_add_right q 33)))) (oq _ (Nat.ne_of_gt (Nat.lt_of_lt_of_le hos (Nat.le_add_right q 34))))
    refine W.widen (k := 35) (n := 188) (Nat.le_of_ble_eq_true rfl) (Nat.le_of_ble_eq_true rfl) ?_
    clear hz hsz1 ho oq hO
    refine lv_aload_n hx hb dX3_init_54 rfl (lv_at hl 0 rfl) ?_
    refine x_mkX0 (B := q + 35) hx hb hml hown hts hK hS hsz (Nat.le_add_right _ _) hl.1 (Nat.le_of_ble_eq_true rfl) (Nat.le_of_ble_eq_true rfl) (Nat.le_of_ble_eq_true rfl) dX3_init_55 dX3_init_58 dX3_init_59 (fun H1 locs1 hRu hsz1 ho hS => ?_)
    have hN := hN.old hos (Nat.add_le_add_left (by decide : 33 ≤ 35) q) ho
    have hMe := xpair_old hMe (Nat.add_lt_add_left (by decide : 33 < 35) q) (Nat.add_lt_add_left (by decide : 34 < 35) q) ho
    have hO := hN.1
    refine x_putF (v := .ref (q + 35)) (ty := .object "BellRanks$Change") (C := RX3) (T := TX3) (N := 8) hx hb hts (by decide +kernel) tyX3 tyX3_ok nmX3 hown hK hO hS (Or.inl rfl) rfl 2 (by decide) (hts (.fieldLink RX3 23 "BellRanks" "rung" "LBellRanks$Change;") (by decide +kernel)) (fun _ h9 => h9) rfl hin rfl (by decide +kernel) rfl rfl (Nat.le_of_ble_eq_true rfl) dX3_init_62 (fun H1 locs1 hO hz oq hS => ?_)
    have hN : xNW D cI cC o q 16 [.ref q, .ref (q + 33), .ref (q + 35), .null, .null, .int 0, .int 0, .int 0] H1 := hN.put hos hO oq
    have hsz : Array.size H1 = q + 37 := hz.trans hsz1
    have hMe := xpair_kept hMe (oq _ (Nat.ne_of_gt (Nat.lt_of_lt_of_le hos (Nat.le_add_right q 33)))) (oq _ (Nat.ne_of_gt (Nat.lt_of_lt_of_le hos (Nat.le_add_right q 34))))
    have hRu := xpair_kept hRu (oq _ (Nat.ne_of_gt (Nat.lt_of_lt_of_le hos (Nat.le_add_right q 35)))) (oq _ (Nat.ne_of_gt (Nat.lt_of_lt_of_le hos (Nat.le_add_right q 36))))
    refine W.widen (k := 37) (n := 198) (Nat.le_of_ble_eq_true rfl) (Nat.le_of_ble_eq_true rfl) ?_
    clear hz hsz1 ho oq hO
    refine lv_aload_n hx hb dX3_init_65 rfl (lv_at hl 0 rfl) ?_
    refine x_mkX0 (B := q + 37) hx hb hml hown hts hK hS hsz (Nat.le_add_right _ _) hl.1 (Nat.le_of_ble_eq_true rfl) (Nat.le_of_ble_eq_true rfl) (Nat.le_of_ble_eq_true rfl) dX3_init_66 dX3_init_69 dX3_init_70 (fun H1 locs1 hMa hsz1 ho hS => ?_)
    have hN := hN.old hos (Nat.add_le_add_left (by decide : 33 ≤ 37) q) ho
    have hMe := xpair_old hMe (Nat.add_lt_add_left (by decide : 33 < 37) q) (Nat.add_lt_add_left (by decide : 34 < 37) q) ho
    have hRu := xpair_old hRu (Nat.add_lt_add_left (by decide : 35 < 37) q) (Nat.add_lt_add_left (by decide : 36 < 37) q) ho
    have hO := hN.1
    refine x_putF (v := .ref (q + 37)) (ty := .object "BellRanks$Change") (C := RX3) (T := TX3) (N := 8) hx hb hts (by decide +kernel) tyX3 tyX3_ok nmX3 hown hK hO hS (Or.inl rfl) rfl 3 (by decide) (hts (.fieldLink RX3 27 "BellRanks" "made" "LBellRanks$Change;") (by decide +kernel)) (fun _ h9 => h9) rfl hin rfl (by decide +kernel) rfl rfl (Nat.le_of_ble_eq_true rfl) dX3_init_73 (fun H1 locs1 hO hz oq hS => ?_)
    have hN : xNW D cI cC o q 16 [.ref q, .ref (q + 33), .ref (q + 35), .ref (q + 37), .null, .int 0, .int 0, .int 0] H1 := hN.put hos hO oq
    have hsz : Array.size H1 = q + 39 := hz.trans hsz1
    have hMe := xpair_kept hMe (oq _ (Nat.ne_of_gt (Nat.lt_of_lt_of_le hos (Nat.le_add_right q 33)))) (oq _ (Nat.ne_of_gt (Nat.lt_of_lt_of_le hos (Nat.le_add_right q 34))))
    have hRu := xpair_kept hRu (oq _ (Nat.ne_of_gt (Nat.lt_of_lt_of_le hos (Nat.le_add_right q 35)))) (oq _ (Nat.ne_of_gt (Nat.lt_of_lt_of_le hos (Nat.le_add_right q 36))))
    have hMa := xpair_kept hMa (oq _ (Nat.ne_of_gt (Nat.lt_of_lt_of_le hos (Nat.le_add_right q 37)))) (oq _ (Nat.ne_of_gt (Nat.lt_of_lt_of_le hos (Nat.le_add_right q 38))))
    refine W.widen (k := 39) (n := 208) (Nat.le_of_ble_eq_true rfl) (Nat.le_of_ble_eq_true rfl) ?_
    clear hz hsz1 ho oq hO
    refine lv_aload_n hx hb dX3_init_76 rfl (lv_at hl 0 rfl) ?_
    refine x_mkX2 (B := q + 39) hx hb hml hown hts hK hS hsz (Nat.le_add_right _ _) hl.1 (Nat.le_of_ble_eq_true rfl) (Nat.le_of_ble_eq_true rfl) (Nat.le_of_ble_eq_true rfl) dX3_init_77 dX3_init_80 dX3_init_81 (fun H1 locs1 hRs hsz1 ho hS => ?_)
    have hN := hN.old hos (Nat.add_le_add_left (by decide : 33 ≤ 39) q) ho
    have hMe := xpair_old hMe (Nat.add_lt_add_left (by decide : 33 < 39) q) (Nat.add_lt_add_left (by decide : 34 < 39) q) ho
    have hRu := xpair_old hRu (Nat.add_lt_add_left (by decide : 35 < 39) q) (Nat.add_lt_add_left (by decide : 36 < 39) q) ho
    have hMa := xpair_old hMa (Nat.add_lt_add_left (by decide : 37 < 39) q) (Nat.add_lt_add_left (by decide : 38 < 39) q) ho
    have hO := hN.1
    refine x_putF (v := .ref (q + 39)) (ty := .object "BellRanks$RankSet") (C := RX3) (T := TX3) (N := 8) hx hb hts (by decide +kernel) tyX3 tyX3_ok nmX3 hown hK hO hS (Or.inl rfl) rfl 4 (by decide) (hts (.fieldLink RX3 33 "BellRanks" "ranks" "LBellRanks$RankSet;") (by decide +kernel)) (fun _ h9 => h9) rfl hin rfl (by decide +kernel) rfl rfl (Nat.le_of_ble_eq_true rfl) dX3_init_84 (fun H1 locs1 hO hz oq hS => ?_)
    have hN : xNW D cI cC o q 16 [.ref q, .ref (q + 33), .ref (q + 35), .ref (q + 37), .ref (q + 39), .int 0, .int 0, .int 0] H1 := hN.put hos hO oq
    have hsz : Array.size H1 = q + 41 := hz.trans hsz1
    have hMe := xpair_kept hMe (oq _ (Nat.ne_of_gt (Nat.lt_of_lt_of_le hos (Nat.le_add_right q 33)))) (oq _ (Nat.ne_of_gt (Nat.lt_of_lt_of_le hos (Nat.le_add_right q 34))))
    have hRu := xpair_kept hRu (oq _ (Nat.ne_of_gt (Nat.lt_of_lt_of_le hos (Nat.le_add_right q 35)))) (oq _ (Nat.ne_of_gt (Nat.lt_of_lt_of_le hos (Nat.le_add_right q 36))))
    have hMa := xpair_kept hMa (oq _ (Nat.ne_of_gt (Nat.lt_of_lt_of_le hos (Nat.le_add_right q 37)))) (oq _ (Nat.ne_of_gt (Nat.lt_of_lt_of_le hos (Nat.le_add_right q 38))))
    have hRs := xpair_kept hRs (oq _ (Nat.ne_of_gt (Nat.lt_of_lt_of_le hos (Nat.le_add_right q 39)))) (oq _ (Nat.ne_of_gt (Nat.lt_of_lt_of_le hos (Nat.le_add_right q 40))))
    refine W.widen (k := 41) (n := 411) (Nat.le_of_ble_eq_true rfl) (Nat.le_of_ble_eq_true rfl) ?_
    clear hz hsz1 ho oq hO
    refine lv_aload_n hx hb dX3_init_87 rfl (lv_at hl 0 rfl) ?_
    refine xn_iconst (v := 5) hx hb dX3_init_88 (by decide) ?_
    have hO := hN.1
    refine x_put (v := .int (nI 5)) (ty := .int) (C := RX3) (T := TX3) (N := 8) hx hb hts (by decide +kernel) tyX3 tyX3_ok nmX3 hown hK hO hS (Or.inl rfl) rfl 5 (by decide) (hts (.fieldLink RX3 37 "BellRanks" "bells" "I") (by decide +kernel)) (fun _ h9 => h9) rfl (by decide +kernel) rfl rfl (Nat.le_of_ble_eq_true rfl) dX3_init_89 (fun H1 locs1 hO hz oq hS => ?_)
    have hN : xNW D cI cC o q 16 [.ref q, .ref (q + 33), .ref (q + 35), .ref (q + 37), .ref (q + 39), .int (nI 5), .int 0, .int 0] H1 := hN.put hos hO oq
    have hsz : Array.size H1 = q + 41 := hz.trans hsz
    have hMe := xpair_kept hMe (oq _ (Nat.ne_of_gt (Nat.lt_of_lt_of_le hos (Nat.le_add_right q 33)))) (oq _ (Nat.ne_of_gt (Nat.lt_of_lt_of_le hos (Nat.le_add_right q 34))))
    have hRu := xpair_kept hRu (oq _ (Nat.ne_of_gt (Nat.lt_of_lt_of_le hos (Nat.le_add_right q 35)))) (oq _ (Nat.ne_of_gt (Nat.lt_of_lt_of_le hos (Nat.le_add_right q 36))))
    have hMa := xpair_kept hMa (oq _ (Nat.ne_of_gt (Nat.lt_of_lt_of_le hos (Nat.le_add_right q 37)))) (oq _ (Nat.ne_of_gt (Nat.lt_of_lt_of_le hos (Nat.le_add_right q 38))))
    have hRs := xpair_kept hRs (oq _ (Nat.ne_of_gt (Nat.lt_of_lt_of_le hos (Nat.le_add_right q 39)))) (oq _ (Nat.ne_of_gt (Nat.lt_of_lt_of_le hos (Nat.le_add_right q 40))))
    refine lv_aload_n hx hb dX3_init_92 rfl (lv_at hl 0 rfl) ?_
    refine xn_iconst (v := 0) hx hb dX3_init_93 (by decide) ?_
    have hO := hN.1
    refine x_put (v := .int (nI 0)) (ty := .int) (C := RX3) (T := TX3) (N := 8) hx hb hts (by decide +kernel) tyX3 tyX3_ok nmX3 hown hK hO hS (Or.inl rfl) rfl 6 (by decide) (hts (.fieldLink RX3 41 "BellRanks" "written" "I") (by decide +kernel)) (fun _ h9 => h9) rfl (by decide +kernel) rfl rfl (Nat.le_of_ble_eq_true rfl) dX3_init_94 (fun H1 locs1 hO hz oq hS => ?_)
    have hN : xNW D cI cC o q 16 [.ref q, .ref (q + 33), .ref (q + 35), .ref (q + 37), .ref (q + 39), .int (nI 5), .int (nI 0), .int 0] H1 := hN.put hos hO oq
    have hsz : Array.size H1 = q + 41 := hz.trans hsz
    have hMe := xpair_kept hMe (oq _ (Nat.ne_of_gt (Nat.lt_of_lt_of_le hos (Nat.le_add_right q 33)))) (oq _ (Nat.ne_of_gt (Nat.lt_of_lt_of_le hos (Nat.le_add_right q 34))))
    have hRu := xpair_kept hRu (oq _ (Nat.ne_of_gt (Nat.lt_of_lt_of_le hos (Nat.le_add_right q 35)))) (oq _ (Nat.ne_of_gt (Nat.lt_of_lt_of_le hos (Nat.le_add_right q 36))))
    have hMa := xpair_kept hMa (oq _ (Nat.ne_of_gt (Nat.lt_of_lt_of_le hos (Nat.le_add_right q 37)))) (oq _ (Nat.ne_of_gt (Nat.lt_of_lt_of_le hos (Nat.le_add_right q 38))))
    have hRs := xpair_kept hRs (oq _ (Nat.ne_of_gt (Nat.lt_of_lt_of_le hos (Nat.le_add_right q 39)))) (oq _ (Nat.ne_of_gt (Nat.lt_of_lt_of_le hos (Nat.le_add_right q 40))))
    refine lv_aload_n hx hb dX3_init_97 rfl (lv_at hl 0 rfl) ?_
    refine xn_iconst (v := 0) hx hb dX3_init_98 (by decide) ?_
    have hO := hN.1
    refine x_put (v := .int (nI 0)) (ty := .int) (C := RX3) (T := TX3) (N := 8) hx hb hts (by decide +kernel) tyX3 tyX3_ok nmX3 hown hK hO hS (Or.inl rfl) rfl 7 (by decide) (hts (.fieldLink RX3 44 "BellRanks" "rungInAll" "I") (by decide +kernel)) (fun _ h9 => h9) rfl (by decide +kernel) rfl rfl (Nat.le_of_ble_eq_true rfl) dX3_init_99 (fun H1 locs1 hO hz oq hS => ?_)
    have hN : xNW D cI cC o q 16 [.ref q, .ref (q + 33), .ref (q + 35), .ref (q + 37), .ref (q + 39), .int (nI 5), .int (nI 0), .int (nI 0)] H1 := hN.put hos hO oq
    have hsz : Array.size H1 = q + 41 := hz.trans hsz
    have hMe := xpair_kept hMe (oq _ (Nat.ne_of_gt (Nat.lt_of_lt_of_le hos (Nat.le_add_right q 33)))) (oq _ (Nat.ne_of_gt (Nat.lt_of_lt_of_le hos (Nat.le_add_right q 34))))
    have hRu := xpair_kept hRu (oq _ (Nat.ne_of_gt (Nat.lt_of_lt_of_le hos (Nat.le_add_right q 35)))) (oq _ (Nat.ne_of_gt (Nat.lt_of_lt_of_le hos (Nat.le_add_right q 36))))
    have hMa := xpair_kept hMa (oq _ (Nat.ne_of_gt (Nat.lt_of_lt_of_le hos (Nat.le_add_right q 37)))) (oq _ (Nat.ne_of_gt (Nat.lt_of_lt_of_le hos (Nat.le_add_right q 38))))
    have hRs := xpair_kept hRs (oq _ (Nat.ne_of_gt (Nat.lt_of_lt_of_le hos (Nat.le_add_right q 39)))) (oq _ (Nat.ne_of_gt (Nat.lt_of_lt_of_le hos (Nat.le_add_right q 40))))
    exact x_vret hx hb hr hlocks () trivial ⟨⟨0, 0, 0, fun _ => 0, fun _ => 0, fun _ => 0, fun _ => 0, hN.1, hN.book, hMe, hRu, (fun _ => Nat.zero_lt_succ 7), hMa, (fun _ => Nat.zero_lt_succ 7), hRs, hN.changes, (fun k9 hk9 => absurd hk9 (Nat.not_lt_zero _))⟩, hsz⟩ hS (fun _ h => h) dX3_init_102
  · refine lv_aload_n hx hb dX3_init_24 rfl (lv_at hl 0 rfl) ?_
    refine x_get (v := .ref q) (C := RX3) (T := TX3) (N := 8) hx hb hts (by decide +kernel) hown hK hN.1 rfl 0 (by decide) (hts (.fieldLink RX3 11 "BellRanks" "book" "[LBellRanks$Change;") (by decide +kernel)) (fun _ h9 => h9) rfl dX3_init_25 ?_
    refine lv_iload_n hx hb dX3_init_28 rfl (lv_at hl 1 rfl) ?_
    refine x_mkX0 (B := q + 1 + 2 * i) hx hb hml hown hts hK hS hsz (by omega) hl.1 (Nat.le_of_ble_eq_true rfl) (by omega) (by omega) dX3_init_29 dX3_init_32 dX3_init_33 (fun H1 locs1 hNw hsz1 ho hS => ?_)
    have hN := hN.older hos (B := q + 1 + 2 * i) (by omega) ho
    refine x_aast hx hb hK hN.2.1 hNw.1 hS (Or.inr (Nat.le_refl _)) (i := i) (by omega) (by decide) dX3_init_36 (fun H1 locs1 hBk hz oq hS => ?_)
    refine xn_iinc (v := i + 1) (lv' := [(1, .int (nI (i + 1))), (0, .ref o)]) hx hb dX3_init_37 hl (k := 1) rfl (xinc1 _) (by decide) rfl (fun ls hl => ?_)
    refine lv_goto (tgt := 15) hx hb dX3_init_40 (by decide) ?_
    exact ih15 (i + 1) _ _ _ _ ls ⟨(by omega), hN.add hos hBk hNw oq, (by rw [hz, hsz1]; omega), hS, (by omega), (by omega), lv_sub hl [1, 0] rfl⟩ (by omega)
end
