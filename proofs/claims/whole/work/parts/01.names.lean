-- ===== PART A: goes FIRST, ahead of the names: the tables' words, and 'selects' of the private methods out of them =====
/-- a private method of a class that the tables say can be made, by its rows of tables_1 -/
def lw_okq (q : MethodName × Nat) : Prop := (q.1.cls ≠ "java/lang/invoke/MethodHandle" ∧ q.1.cls ≠ "java/lang/invoke/VarHandle") ∧ Cond.instantiable q.1.cls q.2 ∈ tables_1 ∧ Cond.privateMethod q.1 ∈ tables_1 ∧ Cond.instanceMethod q.1 ∈ tables_1
theorem lw_p0 : lw_okq (⟨"BellRanks$Change", "lesserBehind", "(I)I"⟩, 2) := ⟨⟨by decide +kernel, by decide +kernel⟩, List.mem_of_getElem? (i := 23) (by decide +kernel), List.mem_of_getElem? (i := 108) (by decide +kernel), List.mem_of_getElem? (i := 109) (by decide +kernel)⟩
theorem lw_p1 : lw_okq (⟨"BellRanks", "differentInBook", "()I"⟩, 8) := ⟨⟨by decide +kernel, by decide +kernel⟩, List.mem_of_getElem? (i := 14) (by decide +kernel), List.mem_of_getElem? (i := 129) (by decide +kernel), List.mem_of_getElem? (i := 130) (by decide +kernel)⟩
theorem lw_p2 : lw_okq (⟨"java/lang/Throwable", "fillInStackTrace", "(I)Ljava/lang/Throwable;"⟩, 6) := ⟨⟨by decide +kernel, by decide +kernel⟩, List.mem_of_getElem? (i := 183) (by decide +kernel), List.mem_of_getElem? (i := 181) (by decide +kernel), List.mem_of_getElem? (i := 182) (by decide +kernel)⟩
theorem lw_p3 : lw_okq (⟨"BellRanks", "find", "(I)LBellRanks$Change;"⟩, 8) := ⟨⟨by decide +kernel, by decide +kernel⟩, List.mem_of_getElem? (i := 14) (by decide +kernel), List.mem_of_getElem? (i := 217) (by decide +kernel), List.mem_of_getElem? (i := 218) (by decide +kernel)⟩
theorem lw_p4 : lw_okq (⟨"BellRanks$Change", "isLeastOfRing", "(I)Z"⟩, 2) := ⟨⟨by decide +kernel, by decide +kernel⟩, List.mem_of_getElem? (i := 23) (by decide +kernel), List.mem_of_getElem? (i := 230) (by decide +kernel), List.mem_of_getElem? (i := 231) (by decide +kernel)⟩
theorem lw_p5 : lw_okq (⟨"BellRanks", "checkPlace", "(I)V"⟩, 8) := ⟨⟨by decide +kernel, by decide +kernel⟩, List.mem_of_getElem? (i := 14) (by decide +kernel), List.mem_of_getElem? (i := 265) (by decide +kernel), List.mem_of_getElem? (i := 266) (by decide +kernel)⟩
theorem lw_p6 : lw_okq (⟨"BellRanks", "openPage", "()LBellRanks$Change;"⟩, 8) := ⟨⟨by decide +kernel, by decide +kernel⟩, List.mem_of_getElem? (i := 14) (by decide +kernel), List.mem_of_getElem? (i := 314) (by decide +kernel), List.mem_of_getElem? (i := 315) (by decide +kernel)⟩
theorem lw_p7 : lw_okq (⟨"BellRanks$Change", "insertAhead", "(II)V"⟩, 2) := ⟨⟨by decide +kernel, by decide +kernel⟩, List.mem_of_getElem? (i := 23) (by decide +kernel), List.mem_of_getElem? (i := 338) (by decide +kernel), List.mem_of_getElem? (i := 339) (by decide +kernel)⟩
theorem lw_p8 : lw_okq (⟨"BellRanks$Change", "put", "(II)V"⟩, 2) := ⟨⟨by decide +kernel, by decide +kernel⟩, List.mem_of_getElem? (i := 23) (by decide +kernel), List.mem_of_getElem? (i := 342) (by decide +kernel), List.mem_of_getElem? (i := 343) (by decide +kernel)⟩
theorem lw_p9 : lw_okq (⟨"BellRanks$Change", "goneFrom", "(II)I"⟩, 2) := ⟨⟨by decide +kernel, by decide +kernel⟩, List.mem_of_getElem? (i := 23) (by decide +kernel), List.mem_of_getElem? (i := 403) (by decide +kernel), List.mem_of_getElem? (i := 404) (by decide +kernel)⟩
theorem lw_p10 : lw_okq (⟨"BellRanksModel", "no", "(I)I"⟩, 7) := ⟨⟨by decide +kernel, by decide +kernel⟩, List.mem_of_getElem? (i := 504) (by decide +kernel), List.mem_of_getElem? (i := 543) (by decide +kernel), List.mem_of_getElem? (i := 544) (by decide +kernel)⟩
theorem lw_p11 : lw_okq (⟨"BellRanksModel", "add", "(I)I"⟩, 7) := ⟨⟨by decide +kernel, by decide +kernel⟩, List.mem_of_getElem? (i := 504) (by decide +kernel), List.mem_of_getElem? (i := 554) (by decide +kernel), List.mem_of_getElem? (i := 555) (by decide +kernel)⟩
theorem lw_p12 : lw_okq (⟨"BellRanksModel", "isChange", "(I)Z"⟩, 7) := ⟨⟨by decide +kernel, by decide +kernel⟩, List.mem_of_getElem? (i := 504) (by decide +kernel), List.mem_of_getElem? (i := 562) (by decide +kernel), List.mem_of_getElem? (i := 563) (by decide +kernel)⟩
theorem lw_p13 : lw_okq (⟨"BellRanksModel", "row", "(I)[I"⟩, 7) := ⟨⟨by decide +kernel, by decide +kernel⟩, List.mem_of_getElem? (i := 504) (by decide +kernel), List.mem_of_getElem? (i := 566) (by decide +kernel), List.mem_of_getElem? (i := 567) (by decide +kernel)⟩
theorem lw_p14 : lw_okq (⟨"BellRanksModel", "become", "(I[I)I"⟩, 7) := ⟨⟨by decide +kernel, by decide +kernel⟩, List.mem_of_getElem? (i := 504) (by decide +kernel), List.mem_of_getElem? (i := 573) (by decide +kernel), List.mem_of_getElem? (i := 574) (by decide +kernel)⟩
theorem lw_p15 : lw_okq (⟨"BellRanksModel", "rank", "([I)I"⟩, 7) := ⟨⟨by decide +kernel, by decide +kernel⟩, List.mem_of_getElem? (i := 504) (by decide +kernel), List.mem_of_getElem? (i := 577) (by decide +kernel), List.mem_of_getElem? (i := 578) (by decide +kernel)⟩
def lw_privs_1 : List (MethodName × Nat) := [(⟨"BellRanks$Change", "lesserBehind", "(I)I"⟩, 2), (⟨"BellRanks", "differentInBook", "()I"⟩, 8), (⟨"java/lang/Throwable", "fillInStackTrace", "(I)Ljava/lang/Throwable;"⟩, 6), (⟨"BellRanks", "find", "(I)LBellRanks$Change;"⟩, 8), (⟨"BellRanks$Change", "isLeastOfRing", "(I)Z"⟩, 2), (⟨"BellRanks", "checkPlace", "(I)V"⟩, 8), (⟨"BellRanks", "openPage", "()LBellRanks$Change;"⟩, 8), (⟨"BellRanks$Change", "insertAhead", "(II)V"⟩, 2), (⟨"BellRanks$Change", "put", "(II)V"⟩, 2), (⟨"BellRanks$Change", "goneFrom", "(II)I"⟩, 2), (⟨"BellRanksModel", "no", "(I)I"⟩, 7), (⟨"BellRanksModel", "add", "(I)I"⟩, 7), (⟨"BellRanksModel", "isChange", "(I)Z"⟩, 7), (⟨"BellRanksModel", "row", "(I)[I"⟩, 7), (⟨"BellRanksModel", "become", "(I[I)I"⟩, 7), (⟨"BellRanksModel", "rank", "([I)I"⟩, 7)]
theorem lw_r1 : ∀ q ∈ lw_privs_1, lw_okq q := List.forall_mem_cons.mpr ⟨lw_p0, List.forall_mem_cons.mpr ⟨lw_p1, List.forall_mem_cons.mpr ⟨lw_p2, List.forall_mem_cons.mpr ⟨lw_p3, List.forall_mem_cons.mpr ⟨lw_p4, List.forall_mem_cons.mpr ⟨lw_p5, List.forall_mem_cons.mpr ⟨lw_p6, List.forall_mem_cons.mpr ⟨lw_p7, List.forall_mem_cons.mpr ⟨lw_p8, List.forall_mem_cons.mpr ⟨lw_p9, List.forall_mem_cons.mpr ⟨lw_p10, List.forall_mem_cons.mpr ⟨lw_p11, List.forall_mem_cons.mpr ⟨lw_p12, List.forall_mem_cons.mpr ⟨lw_p13, List.forall_mem_cons.mpr ⟨lw_p14, List.forall_mem_cons.mpr ⟨lw_p15, fun _ h => absurd h List.not_mem_nil⟩⟩⟩⟩⟩⟩⟩⟩⟩⟩⟩⟩⟩⟩⟩⟩
theorem lw_p16 : lw_okq (⟨"BellRanksModel", "less", "([II)I"⟩, 7) := ⟨⟨by decide +kernel, by decide +kernel⟩, List.mem_of_getElem? (i := 504) (by decide +kernel), List.mem_of_getElem? (i := 581) (by decide +kernel), List.mem_of_getElem? (i := 582) (by decide +kernel)⟩
theorem lw_p17 : lw_okq (⟨"BellRanksModel", "behindRow", "([I[I)[I"⟩, 7) := ⟨⟨by decide +kernel, by decide +kernel⟩, List.mem_of_getElem? (i := 504) (by decide +kernel), List.mem_of_getElem? (i := 593) (by decide +kernel), List.mem_of_getElem? (i := 594) (by decide +kernel)⟩
theorem lw_p18 : lw_okq (⟨"BellRanksModel", "backRow", "([I)[I"⟩, 7) := ⟨⟨by decide +kernel, by decide +kernel⟩, List.mem_of_getElem? (i := 504) (by decide +kernel), List.mem_of_getElem? (i := 601) (by decide +kernel), List.mem_of_getElem? (i := 602) (by decide +kernel)⟩
theorem lw_p19 : lw_okq (⟨"BellRanksModel", "order", "([I)I"⟩, 7) := ⟨⟨by decide +kernel, by decide +kernel⟩, List.mem_of_getElem? (i := 504) (by decide +kernel), List.mem_of_getElem? (i := 609) (by decide +kernel), List.mem_of_getElem? (i := 610) (by decide +kernel)⟩
theorem lw_p20 : lw_okq (⟨"BellRanksModel", "ringOf", "([II)I"⟩, 7) := ⟨⟨by decide +kernel, by decide +kernel⟩, List.mem_of_getElem? (i := 504) (by decide +kernel), List.mem_of_getElem? (i := 613) (by decide +kernel), List.mem_of_getElem? (i := 614) (by decide +kernel)⟩
theorem lw_p21 : lw_okq (⟨"BellRanksModel", "isStep", "(I)Z"⟩, 7) := ⟨⟨by decide +kernel, by decide +kernel⟩, List.mem_of_getElem? (i := 504) (by decide +kernel), List.mem_of_getElem? (i := 624) (by decide +kernel), List.mem_of_getElem? (i := 625) (by decide +kernel)⟩
theorem lw_p22 : lw_okq (⟨"BellRanksModel", "ringStep", "([II)V"⟩, 7) := ⟨⟨by decide +kernel, by decide +kernel⟩, List.mem_of_getElem? (i := 504) (by decide +kernel), List.mem_of_getElem? (i := 636) (by decide +kernel), List.mem_of_getElem? (i := 637) (by decide +kernel)⟩
theorem lw_p23 : lw_okq (⟨"BellRanksModel", "isPlace", "(I)Z"⟩, 7) := ⟨⟨by decide +kernel, by decide +kernel⟩, List.mem_of_getElem? (i := 504) (by decide +kernel), List.mem_of_getElem? (i := 644) (by decide +kernel), List.mem_of_getElem? (i := 645) (by decide +kernel)⟩
theorem lw_p24 : lw_okq (⟨"BellRanksModel", "toldOf", "([II)I"⟩, 7) := ⟨⟨by decide +kernel, by decide +kernel⟩, List.mem_of_getElem? (i := 504) (by decide +kernel), List.mem_of_getElem? (i := 652) (by decide +kernel), List.mem_of_getElem? (i := 653) (by decide +kernel)⟩
theorem lw_p25 : lw_okq (⟨"BellRanksModel", "inversions", "([I)I"⟩, 7) := ⟨⟨by decide +kernel, by decide +kernel⟩, List.mem_of_getElem? (i := 504) (by decide +kernel), List.mem_of_getElem? (i := 656) (by decide +kernel), List.mem_of_getElem? (i := 657) (by decide +kernel)⟩
theorem lw_p26 : lw_okq (⟨"BellRanksModel", "isFirst", "([II)Z"⟩, 7) := ⟨⟨by decide +kernel, by decide +kernel⟩, List.mem_of_getElem? (i := 504) (by decide +kernel), List.mem_of_getElem? (i := 660) (by decide +kernel), List.mem_of_getElem? (i := 661) (by decide +kernel)⟩
theorem lw_p27 : lw_okq (⟨"BellRanksModel", "counted", "(I)I"⟩, 7) := ⟨⟨by decide +kernel, by decide +kernel⟩, List.mem_of_getElem? (i := 504) (by decide +kernel), List.mem_of_getElem? (i := 677) (by decide +kernel), List.mem_of_getElem? (i := 678) (by decide +kernel)⟩
theorem lw_p28 : lw_okq (⟨"BellRanksModel", "different", "()I"⟩, 7) := ⟨⟨by decide +kernel, by decide +kernel⟩, List.mem_of_getElem? (i := 504) (by decide +kernel), List.mem_of_getElem? (i := 681) (by decide +kernel), List.mem_of_getElem? (i := 682) (by decide +kernel)⟩
def lw_privs_2 : List (MethodName × Nat) := [(⟨"BellRanksModel", "less", "([II)I"⟩, 7), (⟨"BellRanksModel", "behindRow", "([I[I)[I"⟩, 7), (⟨"BellRanksModel", "backRow", "([I)[I"⟩, 7), (⟨"BellRanksModel", "order", "([I)I"⟩, 7), (⟨"BellRanksModel", "ringOf", "([II)I"⟩, 7), (⟨"BellRanksModel", "isStep", "(I)Z"⟩, 7), (⟨"BellRanksModel", "ringStep", "([II)V"⟩, 7), (⟨"BellRanksModel", "isPlace", "(I)Z"⟩, 7), (⟨"BellRanksModel", "toldOf", "([II)I"⟩, 7), (⟨"BellRanksModel", "inversions", "([I)I"⟩, 7), (⟨"BellRanksModel", "isFirst", "([II)Z"⟩, 7), (⟨"BellRanksModel", "counted", "(I)I"⟩, 7), (⟨"BellRanksModel", "different", "()I"⟩, 7)]
theorem lw_r2 : ∀ q ∈ lw_privs_2, lw_okq q := List.forall_mem_cons.mpr ⟨lw_p16, List.forall_mem_cons.mpr ⟨lw_p17, List.forall_mem_cons.mpr ⟨lw_p18, List.forall_mem_cons.mpr ⟨lw_p19, List.forall_mem_cons.mpr ⟨lw_p20, List.forall_mem_cons.mpr ⟨lw_p21, List.forall_mem_cons.mpr ⟨lw_p22, List.forall_mem_cons.mpr ⟨lw_p23, List.forall_mem_cons.mpr ⟨lw_p24, List.forall_mem_cons.mpr ⟨lw_p25, List.forall_mem_cons.mpr ⟨lw_p26, List.forall_mem_cons.mpr ⟨lw_p27, List.forall_mem_cons.mpr ⟨lw_p28, fun _ h => absurd h List.not_mem_nil⟩⟩⟩⟩⟩⟩⟩⟩⟩⟩⟩⟩⟩
def lw_privs : List (MethodName × Nat) := lw_privs_1 ++ (lw_privs_2)
def lw_tbl : List Cond := k2_sels lw_privs ++ tables_1
theorem lw_privs_ok : ∀ q ∈ lw_privs, lw_okq q := by
  show ∀ q ∈ lw_privs_1 ++ (lw_privs_2), lw_okq q
  exact List.forall_mem_append.mpr ⟨lw_r1, lw_r2⟩
/-- the streams that the claim lets the run draw from -/
abbrev lw_cs : List Choice := [Jvm.Choice.named "NaN.bits"]
theorem lw_bits : nanBits ∈ lw_cs := by first | decide | exact List.mem_cons_self | simp [lw_cs, nanBits]
-- ===== end of PART A; then your names; then what follows =====
/-! THE CLAIM OUT OF ONE WALK OF THE LAW'S BODY. Your part is whole_start (and what it stands on); all else here is the same for every law, but numbers. -/
def R_law : String := "BellRanksLaw"
def lw_P (b : Addr) (xs : List Int32) (args : Array Value) (s : State) : Prop := args = #[.ref b] ∧ s.IntsAt b xs ∧ xs.length ≤ 1536 ∧ (Jvm.Cond.and given_1 narrow_1).before args s = true
/-- what a walk over the start with the record d0 says of its end, said of the start itself -/
theorem lw_closed {s t : State} {o : Outcome} {d0 : Drawn} {L : List Loc} {k n : Nat} (hd0 : s.drawn.sameBut d0 lw_cs) (hv : ∃ v, o = .returned v) (hW : (s.setDrawn d0).WarmedH t.vm) (hs : (s.setDrawn d0).sameButNew ({ t with vm := s.vm } : State) L k n) : State.butDraws s t lw_cs (fun t1 => Framed s o t1 L k n) := by
  have h2 : t.drawn = d0 := congrArg State.drawn hs.1
  refine ⟨⟨hv, hW, State.sameButNew.setDrawn hs s.drawn⟩, ?_, by decide⟩
  rw [h2]
  exact hd0
def lw_Q (_ : Array Value) (s : State) (o : Outcome) (t : State) : Prop := o = .returned (some (.int 1)) ∧ State.butDraws s t lw_cs (fun t1 => Framed s o t1 [] 694872 7011487)
def lw_Z (below : List Frame) (a : Array Value) (s : State) : State → Prop := fun t => ∃ o, t.status = .running ∧ Ended t below o ∧ lw_Q a s o t
/-- the law's own end, with 1 on the stack, nothing written that was there before, its room as the claim has it; d0: the record of draws at this point (at the entry s.drawn: begin with 'refine W.base ?_' and 'have hd0 := Drawn.sameBut.refl s.drawn lw_cs') -/
theorem lw_ret {p : Program} {l : Launch} {e : Env} {s : State} {m : MethodId} {below : List Frame} {meth : Method} {c : Code} {b : Nat} {d0 : Drawn} (hd0 : s.drawn.sameBut d0 lw_cs) (hx : p.tables.exec = Jvm.exec) (hb : c.code = code) (hr : meth.sig.returnType = ret) (hlocks : meth.locks = false) {pc : Nat} {H : Heap} {ls : Array Slot} (hdg : decode code pc = .ok (.ireturn, 1)) : W p l e room_1 (s.setDrawn d0) m #[Value.ref b] below meth c H [] 694872 7011487 (lw_Z below #[Value.ref b] s) (F0 m pc ls [.int 1]) := by
  intro T hT X
  obtain ⟨fs, hret, hrun, hended, hW, hframe⟩ := X.leave (v := some (.int 1)) (hlocks := hlocks) (fun h => by rw [hr] at h; cases h)
  have hmeth' : T.vm.method? m = some meth := X.method'
  refine ⟨T.setFrames fs, ?_, .returned (some (.int 1)), hrun, hended, rfl, lw_closed hd0 ⟨_, rfl⟩ hW hframe⟩
  jvm_step X.here [X.here.top, hx, hb, hdg, hmeth', hr, ret, narrow_b1]
  (try refine ⟨rfl, ?_⟩); (try refine ⟨rfl, ?_⟩)
  first | (intro acts; rw [hret _ acts rfl rfl rfl]) | rw [hret _ _ rfl rfl rfl]
  exact Steps.refl _
/-- what holds at the law's entry: the machine, the code, the tables' words (any of lw_tbl by 'hts w (by decide +kernel)'), the script of L ints xs at the cell b, what the Statement gives of the start (any of its parts by flat_of_before) -/
def lw_At (p : Program) (s : State) (m : MethodId) (meth : Method) (c : Code) (b L : Nat) (xs : Nat → Int32) : Prop :=
  p.tables.exec = Jvm.exec ∧ c.code = code ∧ meth.sig.returnType = ret ∧ c.maxLocals = 9 ∧ s.vm.findClass R_law = some m.cls ∧ (∀ w ∈ lw_tbl, w.before #[Value.ref b] s = true) ∧ va_X b L xs s s.heap ∧ b < s.heap.size ∧ meth.locks = false ∧ (Jvm.Cond.and given_1 narrow_1).before #[Value.ref b] s = true
-- ===== YOUR PART BEGINS =====
/-- YOUR PART: from the entry, for every script of at most 1536 ints, the law comes to its end with true ('hflags': the launch's flags, for a law that throws: no stack traces) -/
theorem whole_start {p : Program} {e : Env} {s : State} {m : MethodId} {below : List Frame} {meth : Method} {c : Code} (l : Launch) (hflags : l.flags = flags0) {b L : Nat} {xs : Nat → Int32} (hL : L ≤ 1536) (C0 : lw_At p s m meth c b L xs) : W p l e room_1 s m #[Value.ref b] below meth c s.heap [] 0 0 (lw_Z below #[Value.ref b] s) (entryFrame m ([Value.ref b] : List Value).toArray 9) := by
  sorry
-- ===== YOUR PART ENDS =====
set_option maxHeartbeats 4000000 in
theorem lw_walk (l : Launch) (hflags : l.flags = flags0) (b : Addr) (xs : List Int32) : MetFree l x (headSpec (Jvm.Cond.code x code maxLocals ret :: tables_1) room_1) (lw_P b xs) (fun _ _ _ _ _ => True) lw_Q := by
  refine MetFree.of_bodyS (code := code) (maxLocals := maxLocals) (ret := ret) (by decide) ?_ ?_
  · intro args s m h hn
    obtain ⟨meth, c, h1, h2, h3, h4, h5, h6, -, -⟩ := Cond.code_spec hn (atoms_spec (ws := Jvm.Cond.code x code maxLocals ret :: tables_1) h _ List.mem_cons_self)
    exact ⟨meth, c, h1, h2, h3, h4, h5, h6⟩
  · intro p e s m args below meth c s₁ B hml0 hP _
    obtain ⟨rfl, hx, hbd, hgv⟩ := hP
    obtain ⟨scr, harrAt, hlist, hof, hsmall⟩ := hx
    obtain ⟨hcb, hkn, -, -⟩ := State.arrayAt?_spec harrAt
    have hown : s.vm.findClass R_law = some m.cls := findClass_of_methodNamed B.named
    have hts0 : ∀ c ∈ (Jvm.Cond.code x code maxLocals ret :: tables_1), c.before #[Value.ref b] s = true := atoms_spec (ws := Jvm.Cond.code x code maxLocals ret :: tables_1) B.pre
    have hts : ∀ w ∈ lw_tbl, w.before #[Value.ref b] s = true := k2_hts_sels lw_privs (fun w hw => hts0 w (List.mem_cons_of_mem _ hw)) lw_privs_ok
    have hml : c.maxLocals = 9 := B.maxLocals_eq (hts0 _ List.mem_cons_self)
    have X₀ : Stand p l e room_1 s m #[Value.ref b] below meth c s₁ [] 0 0 := Stand.of_body B
    have hh0 : s₁.heap = s.heap := by rw [B.state]; rfl
    have hsz : scr.slots.size = xs.length := by rw [← Array.length_toList, hlist, List.length_map]
    have hval : ∀ j : Nat, j < xs.length → scr.slots[j]? = some (.int (xs.getD j 0)) := fun j hj => by
      rw [← Array.getElem?_toList, hlist]
      simp [hj]
    have hbl : b < s.heap.size := (Array.getElem?_eq_some_iff.mp hcb).1
    have hX : va_X b xs.length (fun j => xs.getD j 0) s s.heap := ⟨scr, hcb, hof, hkn, hsz, hval⟩
    have K : W p l e room_1 s m #[Value.ref b] below meth c s₁.heap [] 0 0 (lw_Z below #[Value.ref b] s) (entryFrame m ([Value.ref b] : List Value).toArray 9) := by
      rw [hh0]
      exact whole_start l hflags hbd ⟨B.exec, B.bytes, B.returns, hml, hown, hts, hX, hbl, B.notSynchronized, hgv⟩
    obtain ⟨t, a1, o, b1, b2, b3⟩ := K s₁ rfl X₀
    exact ⟨t, o, a1, b1, b2, b3⟩
theorem lw_pre_spec {args : Array Value} {s : State} (h : (Jvm.Cond.and given_1 narrow_1).before args s = true) (hr : rest_1_c.before args s = true) : ∃ (b : Addr) (xs : List Int32), lw_P b xs args s := by
  have hs := flat_of_before _ h
  have hq := flat_of_before _ hr
  have hc : (Cond.count 1).before args s = true := hs _ (by decide +kernel)
  have harr : (Cond.arrayOf (.arg 0) .int).before args s = true := hs _ (by decide +kernel)
  have hle : (Cond.le (.length (.arg 0)) (.int 1536)).before args s = true := hs _ (by decide +kernel)
  have hlen : (Cond.isInt (.length (.arg 0))).before args s = true := hq _ (by decide +kernel)
  have hall : (Cond.all (.arg 0) (.isInt (.elem (.arg 0) (.index 0)))).before args s = true := hq _ (by decide +kernel)
  obtain ⟨b, xs, hb, hx⟩ := State.ints_of_pre rfl harr hlen hall
  have hsm : xs.length < 2 ^ 31 := hx.choose_spec.2.2.2
  have hev : (Term.length (.arg 0)).eval args s none [] s = some (.int xs.length.toInt32) := hx.length_eval hb
  have hv := Cond.le_ints hev (show (Term.int 1536).eval args s none [] s = some (.int 1536) from rfl)
  have hd : xs.length.toInt32 ≤ 1536 := by
    simpa [Cond.before, Cond.holds, hv] using hle
  have hN : xs.length ≤ 1536 := (Int32.ofNat_le_ofNat hsm (by decide)).mp (show Int32.ofNat xs.length ≤ Int32.ofNat 1536 from hd)
  exact ⟨b, xs, Cond.one_arg hc (show args[0]? = some (.ref b) from hb), hx, hN, h⟩
theorem lw_comes (l : Launch) (hflags : l.flags = flags0) : Comes l x (Jvm.Cond.code x code maxLocals ret :: tables_1) room_1 (fun tb e args s => Calls_1 tb e args s ∧ rest_1 tb e args s ∧ Pre_1 tb e args s)
    (fun _ _ args s o t => lw_Q args s o t) := by
  intro p e ha hc hk s m args below hf hfit hheap happ hpre
  obtain ⟨b, xs, hP⟩ := lw_pre_spec hpre.2.2 hpre.2.1
  obtain ⟨k, o, h1, h2, h3, hQ⟩ := lw_walk l hflags b xs p e ha hc hk s m args below hf ((Spec.applies_iff_loose hf).mp happ).1 hP trivial
  exact ⟨k, o, h1, h2, h3, hQ⟩
theorem lw_frame {s t : State} {o : Outcome} {args : Array Value} (h : State.butDraws s t lw_cs (fun t1 => Framed s o t1 [] 694872 7011487)) :
    State.butDraws s t [Jvm.Choice.named "NaN.bits"] (fun t1 => Framed s o t1 (fieldLocs frame_1_writes args s ++ arrayLocs frame_1_arrays args s ++ staticLocs frame_1_statics s) 694872 7011487) := h
theorem lw_limb (L : Cond) (hL : ∀ (args : Array Value) (s t : State), L.after args s (.returned (some (.int 1))) t = true) :
    ArmFor flags0 classFile x code maxLocals ret World_1 tables_1 room_1 Calls_1 rest_1 Pre_1
      (fun tb e a s o t => postC L tb e a s o t ∧ State.butDraws s t [Jvm.Choice.named "NaN.bits"] (fun t1 => Framed s o t1 (fieldLocs frame_1_writes a s ++ arrayLocs frame_1_arrays a s ++ staticLocs frame_1_statics s) 694872 7011487)) := by
  intro l hflags _ _ p e ha hc hk s m args below hf hfit hheap happ hpre
  obtain ⟨k, o, h1, h2, h3, rfl, hF⟩ := lw_comes l hflags p e ha hc hk s m args below hf hfit hheap happ hpre
  exact ⟨k, _, h1, h2, h3, hL args s _, lw_frame hF⟩
theorem i_vc : Claimed_1_1 ∧ Claimed_1_2 := ⟨lw_limb limb_1_1 (fun args s t => by simp [limb_1_1, Cond.after, Cond.holds, Cond.value]), lw_limb limb_1_2 (fun args s t => Cond.after_iff.mpr (by
  first | (rw [show limb_1_2 = Cond.eq .result (.int 1) from rfl, Cond.eq_ints (x := 1) (y := 1) rfl rfl]; simp; done) | (simp [limb_1_2, Cond.value, Term.eval]; done)))⟩
/-! ===== BEGIN words of one list among another's, by their places ===== -/
theorem goodIn_r {big : List Cond} (ws : List Cond) (ps : List Nat) (hp : ws = ps.filterMap (fun i => big[i]?)) (h : ws.all goodWord = true) : GoodIn big ws := by
  intro w hw
  have h1 := List.all_eq_true.mp h w hw
  rw [hp] at hw
  obtain ⟨i, -, hi⟩ := List.mem_filterMap.mp hw
  have hm : w ∈ big := by first | exact List.mem_of_getElem? hi | exact List.getElem?_mem hi
  exact ⟨hm, good_of_word h1⟩
theorem goodIn_app {big a b : List Cond} (ha : GoodIn big a) (hb : GoodIn big b) : GoodIn big (a ++ b) := fun w h => (List.mem_append.mp h).elim (ha w) (hb w)
theorem goodIn_ca {big a b : List Cond} {c : Cond} (ha : GoodIn big (c :: a)) (hb : GoodIn big b) : GoodIn big (c :: (a ++ b)) := fun w h => (List.mem_cons.mp h).elim (fun e => ha w (List.mem_cons.mpr (Or.inl e))) (fun h => (List.mem_append.mp h).elim (fun h => ha w (List.mem_cons.mpr (Or.inr h))) (hb w))
theorem goodIn_sub {big ws : List Cond} (hm : ∀ w ∈ ws, w ∈ big) (h : ws.all goodWord = true) : GoodIn big ws := fun w hw => ⟨hm w hw, good_of_word (List.all_eq_true.mp h w hw)⟩
/-! ===== END ===== -/

/-! ===== BEGIN exceptions that leave a method, and their catching by the caller (launches without stack traces) ===== -/
section VXA
/-! The laws vx_back, vx_callV, vx_callS, vx_callSW, vx_throw0, vx_throwS follow proofs of the library, with one case more: JvmDerived/Free/Laws.lean (Back.of_free), Shelf42/LK1.lean (callV, callS), Shelf/KitTraced.lean (throwNew0V, throwNewS). -/
/-- where a method has thrown q: the class by its name, the cell, what was written, the world -/
def vx_T (XC : String → State → State → Prop) (st : State) (q : Addr) (t : State) (mc ms : Nat) (free : Addr → Prop) : Prop :=
  ∃ (E : String) (ce : Cell) (L : List Loc), XC E st t ∧ t.heap[q]? = some ce ∧ ce.vm = .none ∧ st.vm.findClass E = some ce.cls ∧ st.WarmedH t.vm ∧ st.sameButNew ({ t with vm := st.vm } : State) L mc ms ∧ ∀ z ∈ L, free z.base
def vx_Q (Qc : Array Value → State → Outcome → State → Prop) (XC : String → State → State → Prop) (mc ms : Nat) (free : Addr → Prop) : Array Value → State → Outcome → State → Prop := fun a st o t =>
  (Qc a st o t ∧ ∃ L, FrameEnd st o t L mc ms ∧ ∀ q ∈ L, free q.base) ∨ ∃ q, o = .threw q ∧ vx_T XC st q t mc ms free
/-- a callee that returns or throws -/
def vx_Met (l : Launch) (y : MethodName) (ws : List Cond) (rm : Room) (Pc : Array Value → State → Prop) (Qc : Array Value → State → Outcome → State → Prop) (XC : String → State → State → Prop) (mc ms : Nat) (free : Addr → Prop) : Prop :=
  MetFree l y (headSpec ws rm) Pc (fun _ _ _ _ _ => True) (vx_Q Qc XC mc ms free)
def vx_Post (XC : String → State → State → Prop) (mc ms : Nat) (free : Addr → Prop) : Pt → Array Value → Addr → Pt → Prop := fun A a q B =>
  ∃ (g : JFrame) (mk : MethodId) (t : State) (L : List Loc) (E : String) (ce : Cell), B.U.heap = t.heap ∧ B.U.vm = t.vm ∧ XC E (A.U.calling g mk a) t ∧ t.heap[q]? = some ce ∧ ce.vm = .none ∧ A.U.vm.findClass E = some ce.cls ∧ B.locs = A.locs ++ L ∧ (∀ z ∈ L, free z.base) ∧ B.cells = A.cells + mc ∧ B.slots = A.slots + ms
def vx_Back (l : Launch) (R : Room) (p : Program) (e : Env) (below : List Frame) (s : State) (sargs : Array Value) (y : MethodName) (len W9 : Nat)
    (Pre : Pt → Array Value → Prop) (Post : Pt → Array Value → Option Value → Pt → Prop) (PostX : Pt → Array Value → Addr → Pt → Prop) : Prop :=
  ∀ (m : MethodId) (meth : Method) (c : Code) (A : Pt) (g : JFrame) (ig : Instr) (mk : MethodId) (a : Array Value),
    Stand p l e R s m sargs below meth c A.U A.locs A.cells A.slots → g.method = m → g.locals.size = c.maxLocals → decode c.code g.pc = .ok (ig, len) →
    2 * g.monitorRoom + (g.stack.map fun v => v.category).sum ≤ W9 → A.U.methodNamed? y = some mk → Pre A a →
    (∃ (v : Option Value) (B : Pt), Stand p l e R s m sargs below meth c B.U B.locs B.cells B.slots ∧ Post A a v B ∧
      Steps p.tables e below (doInvoke e (A.U.setTop g) [] mk a).1 (B.U.setTop { g with pc := g.pc + len, stack := v.toList ++ g.stack })) ∨
    (∃ (q : Addr) (B : Pt), Stand p l e R s m sargs below meth c B.U B.locs B.cells B.slots ∧ PostX A a q B ∧
      Steps p.tables e below (doInvoke e (A.U.setTop g) [] mk a).1 ((B.U.setTop g).pushFrame (.throwing q)))
section Payer
variable {l : Launch} {R : Room} {p : Program} {e : Env} {below : List Frame} {s : State} {sargs : Array Value} {y : MethodName} {len W9 : Nat}
theorem vx_back {ws : List Cond} {rm : Room} {Pc : Array Value → State → Prop} {Qc : Array Value → State → Outcome → State → Prop} {XC : String → State → State → Prop} {mc ms : Nat} {free : Addr → Prop} {bytes : ByteArray} {maxL : Nat} {ret : Option FieldType}
    (hM : vx_Met l y ws rm Pc Qc XC mc ms free) (hblind : FrameBlind Pc) (hrc : rm.cells = mc) (hrs : rm.slots = ms)
    (hframes : rm.frames + 1 ≤ R.frames) (hlocals : W9 + (maxL + 11) + rm.locals ≤ R.locals)
    (hws : ∀ w ∈ ws, ∀ a' U, s.WarmedH U.vm → w.before a' U = true) (hcode : Cond.code y bytes maxL ret ∈ ws) (hinit : ∀ a' U, s.WarmedH U.vm → (Cond.initialized y.cls).before a' U = true) :
    vx_Back l R p e below s sargs y len W9 (PreOf R mc ms Pc) (PostOf Qc mc ms free) (vx_Post XC mc ms free) := by
  intro m meth c A g ig mk a X hg hsize hdg hW hn hp
  have h1 : (headSpec ws rm).pre.before a A.U = true := atoms_intro fun w hw => hws w hw _ _ X.warmed
  have h2 : (Cond.code y bytes maxL ret).before a A.U = true := hws _ hcode _ _ X.warmed
  have h3 : (Cond.initialized y.cls).before a A.U = true := hinit _ _ X.warmed
  have h4 : A.cells + (headSpec ws rm).room.cells ≤ R.cells := by rw [show (headSpec ws rm).room.cells = mc from hrc]; exact hp.1
  have h5 : A.slots + (headSpec ws rm).room.slots ≤ R.slots := by rw [show (headSpec ws rm).room.slots = ms from hrs]; exact hp.2.1
  have hPc : Pc a (A.U.calling g mk a) := hblind _ _ _ _ hp.2.2
  obtain ⟨U, Ls, c0, s0⟩ := A
  dsimp only [Pt.U, Pt.locs, Pt.cells, Pt.slots] at h1 h2 h3 h4 h5 X hn hPc ⊢
  obtain ⟨methY, cY, hmY, hcY, -, hlY, -, -, -, -⟩ := Cond.code_spec hn h2
  obtain ⟨kY, hkY, -⟩ := className_of_methodNamed hn
  have hinitY : kY.init = .initialized := Cond.initialized_spec (findClass_of_methodNamed hn) hkY h3
  have h : At U g.method c below := by rw [hg]; exact X.here
  have hlocals9 : W9 + (maxL + 11) + (headSpec ws rm).room.locals ≤ R.locals := hlocals
  have happ : (headSpec ws rm).appliesLoose y e.platform (U.calling g mk a) = true :=
    Spec.appliesLoose_calling (g := g) h hdg hn hkY hinitY
      (X.room_calling (g := g) (R' := (headSpec ws rm).room) hsize hmY hcY hframes (by rw [hlY]; omega) h4 h5) h1
  obtain ⟨mid, hmid⟩ := h.above
  have hfr : (U.setTop g).frames = (.java g :: mid) ++ below := by rw [State.frames_setTop' g h.top, hmid]; rfl
  obtain ⟨o, s₂, hsteps, -, hend, hq⟩ := Steps.callFree hM p X.admits X.cas X.clock (acts := []) hfr happ hPc trivial
  have hq' : vx_Q Qc XC mc ms free a (U.calling g mk a) o s₂ := hq
  rw [State.frames_setTop' g h.top] at hend
  obtain ⟨g₀, hg0⟩ := Option.isSome_iff_exists.mp h.top
  obtain ⟨r, hr⟩ := State.topJava?_eq_some.mp hg0
  have hr' : (({ U with heap := s₂.heap, slotsUsed := s₂.slotsUsed } : State).setVm s₂.vm).frames = .java g₀ :: r := hr
  rcases hq' with ⟨hqc, L, hfe, hL⟩ | ⟨q, rfl, E, ce, L, hx, hce, hcv, hcl, hW₂, hsm, hL⟩
  · obtain ⟨⟨v, rfl⟩, hW₂, e2, q2, q3, q4, q5, q6⟩ := id hfe
    have e3 : s₂ = ({ (U.calling g mk a).setFrames s₂.frames with heap := s₂.heap, slotsUsed := s₂.slotsUsed } : State).setVm s₂.vm := by
      have : s₂ = ({ s₂ with vm := (U.calling g mk a).vm } : State).setVm s₂.vm := rfl
      rw [e2] at this
      exact this
    obtain ⟨c₂, i₂, len₂, hc₂, hd₂, hf₂⟩ := hend
    have hW' : U.WarmedH s₂.vm := hW₂
    have hcc : c₂ = c := by
      have h1 : s₂.code? g.method = U.code? g.method := by
        rw [State.code?_eq, State.code?_eq, hW'.alike.method?]
      exact Option.some.inj (hc₂.symm.trans (h1.trans h.code))
    subst hcc
    have hlen : len₂ = len := by rw [hdg] at hd₂; cases hd₂; rfl
    subst hlen
    have hs₂ : s₂ = (({ U with heap := s₂.heap, slotsUsed := s₂.slotsUsed } : State).setVm s₂.vm).setTop { g with pc := g.pc + len₂, stack := v.toList ++ g.stack } := by
      refine e3.trans ?_
      rw [hf₂, State.calling_eq h.top, State.setFrames_setFrames, State.setTop_of_frames _ hr', hr]
      rfl
    have hsame : U.sameButNew ({ U with heap := s₂.heap, slotsUsed := s₂.slotsUsed } : State) L mc ms := by
      refine ⟨?_, q2, q3, q4, q5, q6⟩
      obtain ⟨t, ht, -⟩ := State.frames_cons hr
      show ({ U with heap := s₂.heap, slotsUsed := s₂.slotsUsed } : State) = { U.setFrames U.frames with heap := s₂.heap, slotsUsed := s₂.slotsUsed }
      rw [State.setFrames_self ht]
    subst hg
    refine Or.inl ⟨v, ⟨(({ U with heap := s₂.heap, slotsUsed := s₂.slotsUsed } : State).setVm s₂.vm), Ls ++ L, c0 + mc, s0 + ms⟩,
      ⟨X.admits, X.cas, X.clock, X.frames, X.room, X.hears, X.method, X.code, (X.here.setHeapUsed s₂.heap s₂.slotsUsed).setVm hW'.alike, X.tail, State.WarmedH.trans X.warmed hW', X.limits, X.bytes, X.same.trans (hsame.setVm s.vm)⟩,
      ⟨g, mk, s₂, L, rfl, rfl, hqc, rfl, hL, rfl, rfl⟩, ?_⟩
    show Steps p.tables e below _ ((({ U with heap := s₂.heap, slotsUsed := s₂.slotsUsed } : State).setVm s₂.vm).setTop { g with pc := g.pc + len₂, stack := v.toList ++ g.stack })
    rw [← hs₂]
    exact hsteps
  · obtain ⟨e2, q2, q3, q4, q5, q6⟩ := id hsm
    have e3 : s₂ = ({ (U.calling g mk a).setFrames s₂.frames with heap := s₂.heap, slotsUsed := s₂.slotsUsed } : State).setVm s₂.vm := by
      have : s₂ = ({ s₂ with vm := (U.calling g mk a).vm } : State).setVm s₂.vm := rfl
      rw [e2] at this
      exact this
    have hf₂ : s₂.frames = .throwing q :: .java g :: U.frames.tail := hend
    have hW' : U.WarmedH s₂.vm := hW₂
    have hs₂ : s₂ = ((({ U with heap := s₂.heap, slotsUsed := s₂.slotsUsed } : State).setVm s₂.vm).setTop g).pushFrame (.throwing q) := by
      refine e3.trans ?_
      rw [hf₂, State.calling_eq h.top, State.setFrames_setFrames, State.pushFrame, State.frames_setTop _ hr', State.setTop_of_frames _ hr', State.setFrames_setFrames, hr]
      rfl
    have hsame : U.sameButNew ({ U with heap := s₂.heap, slotsUsed := s₂.slotsUsed } : State) L mc ms := by
      refine ⟨?_, q2, q3, q4, q5, q6⟩
      obtain ⟨t, ht, -⟩ := State.frames_cons hr
      show ({ U with heap := s₂.heap, slotsUsed := s₂.slotsUsed } : State) = { U.setFrames U.frames with heap := s₂.heap, slotsUsed := s₂.slotsUsed }
      rw [State.setFrames_self ht]
    subst hg
    refine Or.inr ⟨q, ⟨(({ U with heap := s₂.heap, slotsUsed := s₂.slotsUsed } : State).setVm s₂.vm), Ls ++ L, c0 + mc, s0 + ms⟩,
      ⟨X.admits, X.cas, X.clock, X.frames, X.room, X.hears, X.method, X.code, (X.here.setHeapUsed s₂.heap s₂.slotsUsed).setVm hW'.alike, X.tail, State.WarmedH.trans X.warmed hW', X.limits, X.bytes, X.same.trans (hsame.setVm s.vm)⟩,
      ⟨g, mk, s₂, L, E, ce, rfl, rfl, hx, hce, hcv, hcl, rfl, hL, rfl, rfl⟩, ?_⟩
    show Steps p.tables e below _ (((({ U with heap := s₂.heap, slotsUsed := s₂.slotsUsed } : State).setVm s₂.vm).setTop g).pushFrame (.throwing q))
    rw [← hs₂]
    exact hsteps
end Payer
section Calls
variable {p : Program} {l : Launch} {e : Env} {R : Room} {s : State} {m : MethodId} {args : Array Value} {below : List Frame} {meth : Method} {c : Code} {T : State} {locs : List Loc} {cells slots : Nat}
theorem vx_callV (X : Stand p l e R s m args below meth c T locs cells slots) (hexec : p.tables.exec = Jvm.exec) {own C : String} {index : Nat} {y : MethodName} {bytes : ByteArray} {maxL : Nat} {ret : Option FieldType}
    (hown : s.vm.findClass own = some m.cls) (hlink : (Cond.methodLink own index y).before args s = true) (hinst : (Cond.instanceMethod y).before args s = true) (hsel : (Cond.selects C y y).before args s = true)
    (hcode : (Cond.code y bytes maxL ret).before args s = true) (hy : y.cls ≠ "java/lang/invoke/MethodHandle" ∧ y.cls ≠ "java/lang/invoke/VarHandle")
    {W9 : Nat} {Pre : Pt → Array Value → Prop} {Post : Pt → Array Value → Option Value → Pt → Prop} {PostX : Pt → Array Value → Addr → Pt → Prop} (hK : vx_Back l R p e below s args y 3 W9 Pre Post PostX)
    {b : Addr} {cellB : Cell} (hcell : T.heap[b]? = some cellB) (hobj : cellB.vm.isStatics = false) (hcls : s.vm.findClass C = some cellB.cls)
    {g : JFrame} (hg : g.method = m) (hsize : g.locals.size = c.maxLocals) {argsL rest : List Value} (hlen : ∀ sig, parseMethodDescriptor y.desc = some sig → argsL.length = sig.parameters.length)
    (hstack : g.stack = argsL.reverse ++ .ref b :: rest) (hW : 2 * g.monitorRoom + (rest.map fun v => v.category).sum ≤ W9) (hdg : decode c.code g.pc = .ok (.invokevirtual index, 3))
    (hpre : ∀ vm₁, s.WarmedH vm₁ → Pre ⟨T.setVm vm₁, locs, cells, slots⟩ (Value.ref b :: argsL).toArray) :
    (∃ (v : Option Value) (vm₁ : Vm) (B : Pt), s.WarmedH vm₁ ∧ Stand p l e R s m args below meth c B.U B.locs B.cells B.slots ∧ Post ⟨T.setVm vm₁, locs, cells, slots⟩ (Value.ref b :: argsL).toArray v B ∧
      ∀ target, Steps p.tables e below (B.U.setTop { g with pc := g.pc + 3, stack := v.toList ++ rest }) target → Steps p.tables e below (T.setTop g) target) ∨
    (∃ (q : Addr) (vm₁ : Vm) (B : Pt), s.WarmedH vm₁ ∧ Stand p l e R s m args below meth c B.U B.locs B.cells B.slots ∧ PostX ⟨T.setVm vm₁, locs, cells, slots⟩ (Value.ref b :: argsL).toArray q B ∧
      Steps p.tables e below (T.setTop g) ((B.U.setTop { g with stack := rest }).pushFrame (.throwing q))) := by
  obtain ⟨mk, methM, hnamed, hmethM, hstM, habM⟩ := Cond.instanceMethod_spec hinst
  obtain ⟨methM', cM, hmethM', -, -, -, -, -, -, hsigM⟩ := Cond.code_spec hnamed hcode
  cases hmethM.symm.trans hmethM'
  obtain ⟨c2, r2, m2, q1, q2, q3, q4, kP, hkP, hkPi⟩ := Cond.selects_spec hsel
  cases hcls.symm.trans q1
  cases (State.methodFound?_of_named hnamed hy).symm.trans q2
  cases hnamed.symm.trans q3
  have hselP : selectMethod e.platform s.vm cellB.cls mk = .method mk := by rw [Launch.admits_selectMethod X.admits]; exact q4
  obtain ⟨vm₁, X₁, hstep₁⟩ := X.invokevirtual hexec hown hlink hnamed hmethM hstM hkP hkPi hy (a := b) (cell := cellB) hcell
    (fun z h => by rw [h] at hobj; cases hobj) hselP hmethM habM hkP hkPi (g := g) hg (argsL := argsL) (rest := rest) (hlen _ hsigM) hstack hdg
  rcases hK m meth c ⟨T.setVm vm₁, locs, cells, slots⟩ { g with stack := rest } (.invokevirtual index) mk (Value.ref b :: argsL).toArray X₁ hg hsize hdg hW (X₁.named hnamed) (hpre vm₁ X₁.warmed) with ⟨v, B, X', hpost, hsteps⟩ | ⟨q, B, X', hpost, hsteps⟩
  · exact Or.inl ⟨v, vm₁, B, X₁.warmed, X', hpost, fun target h => hstep₁ _ fun acts => by rw [doInvoke_state]; exact hsteps.trans h⟩
  · exact Or.inr ⟨q, vm₁, B, X₁.warmed, X', hpost, hstep₁ _ fun acts => by rw [doInvoke_state]; exact hsteps⟩
theorem vx_callS (X : Stand p l e R s m args below meth c T locs cells slots) (hexec : p.tables.exec = Jvm.exec) {own : String} {index : Nat} {y : MethodName} {bytes : ByteArray} {maxL : Nat} {ret : Option FieldType}
    (hown : s.vm.findClass own = some m.cls) (hlink : (Cond.methodLink own index y).before args s = true) (hstat : (Cond.static y).before args s = true) (hinit : (Cond.initialized y.cls).before args s = true)
    (hcode : (Cond.code y bytes maxL ret).before args s = true) (hy : y.cls ≠ "java/lang/invoke/MethodHandle" ∧ y.cls ≠ "java/lang/invoke/VarHandle")
    {W9 : Nat} {Pre : Pt → Array Value → Prop} {Post : Pt → Array Value → Option Value → Pt → Prop} {PostX : Pt → Array Value → Addr → Pt → Prop} (hK : vx_Back l R p e below s args y 3 W9 Pre Post PostX)
    {g : JFrame} (hg : g.method = m) (hsize : g.locals.size = c.maxLocals) {argsL rest : List Value} (hlen : ∀ sig, parseMethodDescriptor y.desc = some sig → argsL.length = sig.parameters.length)
    (hstack : g.stack = argsL.reverse ++ rest) (hW : 2 * g.monitorRoom + (rest.map fun v => v.category).sum ≤ W9) (hdg : decode c.code g.pc = .ok (.invokestatic index, 3))
    (hpre : ∀ vm₁, s.WarmedH vm₁ → Pre ⟨T.setVm vm₁, locs, cells, slots⟩ argsL.toArray) :
    (∃ (v : Option Value) (vm₁ : Vm) (B : Pt), s.WarmedH vm₁ ∧ Stand p l e R s m args below meth c B.U B.locs B.cells B.slots ∧ Post ⟨T.setVm vm₁, locs, cells, slots⟩ argsL.toArray v B ∧
      ∀ target, Steps p.tables e below (B.U.setTop { g with pc := g.pc + 3, stack := v.toList ++ rest }) target → Steps p.tables e below (T.setTop g) target) ∨
    (∃ (q : Addr) (vm₁ : Vm) (B : Pt), s.WarmedH vm₁ ∧ Stand p l e R s m args below meth c B.U B.locs B.cells B.slots ∧ PostX ⟨T.setVm vm₁, locs, cells, slots⟩ argsL.toArray q B ∧
      Steps p.tables e below (T.setTop g) ((B.U.setTop { g with stack := rest }).pushFrame (.throwing q))) := by
  obtain ⟨mk, hnamed⟩ := Cond.code_named hcode
  obtain ⟨methM, cM, hmethM, -, -, -, -, -, -, hsigM⟩ := Cond.code_spec hnamed hcode
  have hstatic : methM.isStatic = true := Cond.static_spec hnamed hmethM hstat
  obtain ⟨kP, hkP, -⟩ := className_of_methodNamed hnamed
  have hinitP : kP.init = .initialized := Cond.initialized_spec (findClass_of_methodNamed hnamed) hkP hinit
  obtain ⟨vm₁, X₁, hstep₁⟩ := X.invokestatic hexec hown hlink hnamed hmethM hstatic hkP hinitP hy (g := g) hg (argsL := argsL) (rest := rest) (hlen _ hsigM) hstack hdg
  rcases hK m meth c ⟨T.setVm vm₁, locs, cells, slots⟩ { g with stack := rest } (.invokestatic index) mk argsL.toArray X₁ hg hsize hdg hW (X₁.named hnamed) (hpre vm₁ X₁.warmed) with ⟨v, B, X', hpost, hsteps⟩ | ⟨q, B, X', hpost, hsteps⟩
  · exact Or.inl ⟨v, vm₁, B, X₁.warmed, X', hpost, fun target h => hstep₁ _ fun acts => by rw [doInvoke_state]; exact hsteps.trans h⟩
  · exact Or.inr ⟨q, vm₁, B, X₁.warmed, X', hpost, hstep₁ _ fun acts => by rw [doInvoke_state]; exact hsteps⟩
end Calls
theorem vx_cls {s : State} {T : State} {vm₁ : Vm} {E : String} {k : ClassId} (hW : s.WarmedH vm₁) (h : (T.setVm vm₁).vm.findClass E = some k) : s.vm.findClass E = some k := by
  have h1 : vm₁.findClass E = some k := h
  rw [hW.alike.findClass] at h1
  exact h1
/-- the method's frame g, with q thrown over it -/
def vx_W (p : Program) (l : Launch) (e : Env) (R : Room) (s : State) (m : MethodId) (args : Array Value) (below : List Frame) (meth : Method) (c : Code) (H : Heap) (locs : List Loc) (cells slots : Nat) (Q : State → Prop) (g : JFrame) (q : Addr) : Prop :=
  ∀ T : State, T.heap = H → Stand p l e R s m args below meth c T locs cells slots → ∃ t, Steps p.tables e below ((T.setTop g).pushFrame (.throwing q)) t ∧ Q t
def vx_Run (p : Program) (l : Launch) (e : Env) (R : Room) (s : State) (m : MethodId) (args : Array Value) (below : List Frame) (meth : Method) (c : Code) (H : Heap) (locs : List Loc) (cells slots mc ms : Nat) (g : JFrame) (rest : List Value) (Qa : State → Outcome → State → Prop) (XC : String → State → State → Prop) (free : Addr → Prop) : Prop :=
  ∀ T : State, T.heap = H → Stand p l e R s m args below meth c T locs cells slots →
    (∃ (v : Option Value) (st₀ t T' : State) (L : List Loc), st₀.heap = H ∧ Stand p l e R s m args below meth c T' (locs ++ L) (cells + mc) (slots + ms) ∧ (∀ q ∈ L, free q.base) ∧ T'.heap = t.heap ∧ T'.vm = t.vm ∧ Qa st₀ (.returned v) t ∧
      Goes p e below T g T' { g with pc := g.pc + 3, stack := v.toList ++ rest }) ∨
    (∃ (q : Addr) (st₀ t T' : State) (L : List Loc) (E : String) (ce : Cell), st₀.heap = H ∧ Stand p l e R s m args below meth c T' (locs ++ L) (cells + mc) (slots + ms) ∧ (∀ z ∈ L, free z.base) ∧ T'.heap = t.heap ∧ T'.vm = t.vm ∧ XC E st₀ t ∧ t.heap[q]? = some ce ∧ ce.vm = .none ∧ s.vm.findClass E = some ce.cls ∧
      Steps p.tables e below (T.setTop g) ((T'.setTop { g with stack := rest }).pushFrame (.throwing q)))
def vx_X {S : Type} (px : S → Prop) (B : String → S → State → Prop) (A : Nat → Prop) : String → State → State → Prop := fun E st t => ∃ u : S, px u ∧ B E u t ∧ va_F A st t
section Runs
variable {p : Program} {l : Launch} {e : Env} {R : Room} {s : State} {m : MethodId} {args : Array Value} {below : List Frame} {meth : Method} {c : Code} {H : Heap} {locs : List Loc} {cells slots : Nat}
variable {y : MethodName} {bytes cc : ByteArray} {maxL nL mc ms n index : Nat} {ret : Option FieldType} {ws : List Cond} {rm : Room} {Pc : Array Value → State → Prop} {Qc : Array Value → State → Outcome → State → Prop} {XC : String → State → State → Prop} {free : Addr → Prop} {Ts : List Cond} {own C : String} {b : Addr} {As rest : List Value} {g : JFrame}
theorem vx_callBack (cb : CallB R s args own index y bytes maxL ret ws rm mc ms n) (hM : vx_Met l y ws rm Pc Qc XC mc ms free) (hbl : FrameBlind Pc) : vx_Back l R p e below s args y 3 8 (PreOf R mc ms Pc) (PostOf Qc mc ms free) (vx_Post XC mc ms free) := by
  obtain ⟨hrc, hrs, hfr, hlo, hws, hcw, -, hini, -⟩ := cb
  exact vx_back (bytes := bytes) (maxL := maxL) (ret := ret) hM hbl hrc hrs hfr hlo hws hcw (fun a' U hW => word_at hW (Or.inl (by first | rfl | simp [Cond.onTables, Cond.keeps, Cond.steady])) hini)
theorem vx_runV (S : CallFix p m c cc nL s args Ts own) (hM : vx_Met l y ws rm Pc Qc XC mc ms free) (cw : CallW R s args own C index y bytes maxL ret ws rm mc ms n) (hp : PreV s H C b Pc As)
    (hg : g.method = m) (hn : As.length = n) (hsize : g.locals.size = nL) (hstack : g.stack = As.reverse ++ .ref b :: rest) (hW : 2 * g.monitorRoom + (rest.map fun v => v.category).sum ≤ 8) (hdg : decode cc g.pc = .ok (.invokevirtual index, 3)) (hf : cells + mc ≤ R.cells ∧ slots + ms ≤ R.slots) :
    vx_Run p l e R s m args below meth c H locs cells slots mc ms g rest (Qc (Value.ref b :: As).toArray) XC free := by
  have hK : vx_Back l R p e below s args y 3 8 (PreOf R mc ms Pc) (PostOf Qc mc ms free) (vx_Post XC mc ms free) := vx_callBack cw.1 hM hp.1
  obtain ⟨⟨-, -, -, -, -, -, hcode, -, hy, hlen, hl⟩, hin, hse⟩ := cw
  obtain ⟨hx, hb, hml, ho, -⟩ := S
  obtain ⟨-, ⟨cellB, hcB, hoB, hclB⟩, hPc⟩ := hp
  intro T hT X
  rcases vx_callV X hx (C := C) (bytes := bytes) (maxL := maxL) (ret := ret) ho hl hin hse hcode hy hK (by rw [hT]; exact hcB) hoB hclB hg (hsize.trans hml.symm) (argsL := As) (rest := rest) (fun sig h => hn.trans (hlen sig h)) hstack hW (by rw [hb]; exact hdg)
    (fun vm₁ hW₁ => ⟨hf.1, hf.2, hPc (T.setVm vm₁) hT hW₁⟩) with ⟨v, vm₁, ⟨U', l2, c2, s2⟩, hW₁, X', ⟨g', mk, t, L, e1, e2, hq, h1, hL, h2, h3⟩, st⟩ | ⟨q, vm₁, ⟨U', l2, c2, s2⟩, hW₁, X', ⟨g', mk, t, L, E, ce, e1, e2, hq, hce, hcv, hcl, h1, hL, h2, h3⟩, st⟩
  · dsimp only [Pt.U, Pt.locs, Pt.cells, Pt.slots] at X' e1 e2 h1 h2 h3 st
    subst h1; subst h2; subst h3
    exact Or.inl ⟨v, (T.setVm vm₁).calling g' mk (Value.ref b :: As).toArray, t, U', L, hT, X', hL, e1, e2, hq, st⟩
  · dsimp only [Pt.U, Pt.locs, Pt.cells, Pt.slots] at X' e1 e2 h1 h2 h3 st hcl
    subst h1; subst h2; subst h3
    exact Or.inr ⟨q, (T.setVm vm₁).calling g' mk (Value.ref b :: As).toArray, t, U', L, E, ce, hT, X', hL, e1, e2, hq, hce, hcv, vx_cls hW₁ hcl, st⟩
theorem vx_runS (S : CallFix p m c cc nL s args Ts own) (hM : vx_Met l y ws rm Pc Qc XC mc ms free) (cw : CallB R s args own index y bytes maxL ret ws rm mc ms n ∧ (Cond.static y).before args s = true) (hp : PreS s H Pc As)
    (hg : g.method = m) (hn : As.length = n) (hsize : g.locals.size = nL) (hstack : g.stack = As.reverse ++ rest) (hW : 2 * g.monitorRoom + (rest.map fun v => v.category).sum ≤ 8) (hdg : decode cc g.pc = .ok (.invokestatic index, 3)) (hf : cells + mc ≤ R.cells ∧ slots + ms ≤ R.slots) :
    vx_Run p l e R s m args below meth c H locs cells slots mc ms g rest (Qc As.toArray) XC free := by
  have hK : vx_Back l R p e below s args y 3 8 (PreOf R mc ms Pc) (PostOf Qc mc ms free) (vx_Post XC mc ms free) := vx_callBack cw.1 hM hp.1
  obtain ⟨⟨-, -, -, -, -, -, hcode, hini, hy, hlen, hl⟩, hstt⟩ := cw
  obtain ⟨hx, hb, hml, ho, -⟩ := S
  intro T hT X
  rcases vx_callS X hx (bytes := bytes) (maxL := maxL) (ret := ret) ho hl hstt hini hcode hy hK hg (hsize.trans hml.symm) (argsL := As) (rest := rest) (fun sig h => hn.trans (hlen sig h)) hstack hW (by rw [hb]; exact hdg)
    (fun vm₁ hW₁ => ⟨hf.1, hf.2, hp.2 (T.setVm vm₁) hT hW₁⟩) with ⟨v, vm₁, ⟨U', l2, c2, s2⟩, hW₁, X', ⟨g', mk, t, L, e1, e2, hq, h1, hL, h2, h3⟩, st⟩ | ⟨q, vm₁, ⟨U', l2, c2, s2⟩, hW₁, X', ⟨g', mk, t, L, E, ce, e1, e2, hq, hce, hcv, hcl, h1, hL, h2, h3⟩, st⟩
  · dsimp only [Pt.U, Pt.locs, Pt.cells, Pt.slots] at X' e1 e2 h1 h2 h3 st
    subst h1; subst h2; subst h3
    exact Or.inl ⟨v, (T.setVm vm₁).calling g' mk As.toArray, t, U', L, hT, X', hL, e1, e2, hq, st⟩
  · dsimp only [Pt.U, Pt.locs, Pt.cells, Pt.slots] at X' e1 e2 h1 h2 h3 st hcl
    subst h1; subst h2; subst h3
    exact Or.inr ⟨q, (T.setVm vm₁).calling g' mk As.toArray, t, U', L, E, ce, hT, X', hL, e1, e2, hq, hce, hcv, vx_cls hW₁ hcl, st⟩
end Runs
section Rows
variable {p : Program} {l : Launch} {e : Env} {R : Room} {s : State} {m : MethodId} {args : Array Value} {below : List Frame} {meth : Method} {c : Code} {H : Heap} {locs : List Loc} {cells slots : Nat} {Q : State → Prop}
variable {mc ms : Nat} {free : Addr → Prop} {A0 A1 : Nat → Prop} {H0 : Heap} {a : Array Value} {pc : Nat} {ls : Array Slot} {st0 rest : List Value}
theorem vx_keep {st₀ t T' : State} {L : List Loc} (h0 : st₀.heap = H) (e1 : T'.heap = t.heap) (hS : va_S A0 H0 H locs) (hA : ∀ q, q < H.size → A1 q → A0 q) (hf : ∀ q, free q → A0 q) (hL : ∀ q ∈ L, free q.base) (hF : va_F A1 st₀ t) :
    H.size ≤ T'.heap.size ∧ (∀ q : Nat, q < H.size → ¬ A1 q → T'.heap[q]? = H[q]?) ∧ va_S A0 H0 T'.heap (locs ++ L) := by
  obtain ⟨hz, hk⟩ := hF
  rw [h0] at hz hk
  exact ⟨by rw [e1]; exact hz, fun q h1 h2 => by rw [e1]; exact hk q h1 h2,
    ⟨Nat.le_trans hS.1 (by rw [e1]; exact hz), fun q h1 h2 => by rw [e1, hk q (Nat.lt_of_lt_of_le h1 hS.1) (fun z => h2 (hA q (Nat.lt_of_lt_of_le h1 hS.1) z))]; exact hS.2.1 q h1 h2, fun q hq => by
      rcases List.mem_append.mp hq with h | h
      · exact hS.2.2 q h
      · exact hf _ (hL q h)⟩⟩
theorem vx_calli {S SX : Type} {post : Int32 → S → Prop} {px : SX → Prop} {B : S → State → Prop} {BX : String → SX → State → Prop} {AX : Nat → Prop} (hr : vx_Run p l e R s m args below meth c H locs cells slots mc ms (F0 m pc ls st0) rest (va_Qi post B A1 a) (vx_X px BX AX) free) (hS : va_S A0 H0 H locs) (hA : ∀ q, q < H.size → A1 q → A0 q) (hf : ∀ q, free q → A0 q) (hAX : ∀ q, q < H.size → AX q → A0 q)
    (kx : ∀ (E : String) (ce : Cell) (q9 : Addr) (u : SX) (t : State) (H1 : Heap) (locs1 : List Loc), t.heap = H1 → s.vm.Alike t.vm → px u → BX E u t → H.size ≤ H1.size → (∀ q : Nat, q < H.size → ¬ AX q → H1[q]? = H[q]?) → va_S A0 H0 H1 locs1 → H1[q9]? = some ce → ce.vm = .none → s.vm.findClass E = some ce.cls → vx_W p l e R s m args below meth c H1 locs1 (cells + mc) (slots + ms) Q (F0 m pc ls rest) q9)
    (kk : ∀ (r : Int32) (u : S) (t : State) (H1 : Heap) (locs1 : List Loc), t.heap = H1 → s.vm.Alike t.vm → post r u → B u t → H.size ≤ H1.size → (∀ q : Nat, q < H.size → ¬ A1 q → H1[q]? = H[q]?) → va_S A0 H0 H1 locs1 → W p l e R s m args below meth c H1 locs1 (cells + mc) (slots + ms) Q (F0 m (pc + 3) ls (.int r :: rest))) : W p l e R s m args below meth c H locs cells slots Q (F0 m pc ls st0) := by
  intro T hT X
  rcases hr T hT X with ⟨v, st₀, t, T', L, h0, X', hL, e1, e2, ⟨⟨r, u, hv, hp, hb⟩, hF⟩, st⟩ | ⟨q, st₀, t, T', L, E, ce, h0, X', hL, e1, e2, ⟨u, hp, hb, hF⟩, hce, hcv, hcl, st⟩
  · cases hv
    obtain ⟨k1, k2, k3⟩ := vx_keep h0 e1 hS hA hf hL hF
    obtain ⟨t2, a1, b1⟩ := kk r u t T'.heap (locs ++ L) e1.symm (by rw [← e2]; exact X'.warmed.alike) hp hb k1 k2 k3 T' rfl X'
    exact ⟨t2, st t2 a1, b1⟩
  · obtain ⟨k1, k2, k3⟩ := vx_keep h0 e1 hS hAX hf hL hF
    obtain ⟨t2, a1, b1⟩ := kx E ce q u t T'.heap (locs ++ L) e1.symm (by rw [← e2]; exact X'.warmed.alike) hp hb k1 k2 k3 (by rw [e1]; exact hce) hcv hcl T' rfl X'
    exact ⟨t2, st.trans a1, b1⟩
theorem vx_calll {S SX : Type} {post : Int64 → S → Prop} {px : SX → Prop} {B : S → State → Prop} {BX : String → SX → State → Prop} {AX : Nat → Prop} (hr : vx_Run p l e R s m args below meth c H locs cells slots mc ms (F0 m pc ls st0) rest (va_Ql post B A1 a) (vx_X px BX AX) free) (hS : va_S A0 H0 H locs) (hA : ∀ q, q < H.size → A1 q → A0 q) (hf : ∀ q, free q → A0 q) (hAX : ∀ q, q < H.size → AX q → A0 q)
    (kx : ∀ (E : String) (ce : Cell) (q9 : Addr) (u : SX) (t : State) (H1 : Heap) (locs1 : List Loc), t.heap = H1 → s.vm.Alike t.vm → px u → BX E u t → H.size ≤ H1.size → (∀ q : Nat, q < H.size → ¬ AX q → H1[q]? = H[q]?) → va_S A0 H0 H1 locs1 → H1[q9]? = some ce → ce.vm = .none → s.vm.findClass E = some ce.cls → vx_W p l e R s m args below meth c H1 locs1 (cells + mc) (slots + ms) Q (F0 m pc ls rest) q9)
    (kk : ∀ (r : Int64) (u : S) (t : State) (H1 : Heap) (locs1 : List Loc), t.heap = H1 → s.vm.Alike t.vm → post r u → B u t → H.size ≤ H1.size → (∀ q : Nat, q < H.size → ¬ A1 q → H1[q]? = H[q]?) → va_S A0 H0 H1 locs1 → W p l e R s m args below meth c H1 locs1 (cells + mc) (slots + ms) Q (F0 m (pc + 3) ls (.long r :: rest))) : W p l e R s m args below meth c H locs cells slots Q (F0 m pc ls st0) := by
  intro T hT X
  rcases hr T hT X with ⟨v, st₀, t, T', L, h0, X', hL, e1, e2, ⟨⟨r, u, hv, hp, hb⟩, hF⟩, st⟩ | ⟨q, st₀, t, T', L, E, ce, h0, X', hL, e1, e2, ⟨u, hp, hb, hF⟩, hce, hcv, hcl, st⟩
  · cases hv
    obtain ⟨k1, k2, k3⟩ := vx_keep h0 e1 hS hA hf hL hF
    obtain ⟨t2, a1, b1⟩ := kk r u t T'.heap (locs ++ L) e1.symm (by rw [← e2]; exact X'.warmed.alike) hp hb k1 k2 k3 T' rfl X'
    exact ⟨t2, st t2 a1, b1⟩
  · obtain ⟨k1, k2, k3⟩ := vx_keep h0 e1 hS hAX hf hL hF
    obtain ⟨t2, a1, b1⟩ := kx E ce q u t T'.heap (locs ++ L) e1.symm (by rw [← e2]; exact X'.warmed.alike) hp hb k1 k2 k3 (by rw [e1]; exact hce) hcv hcl T' rfl X'
    exact ⟨t2, st.trans a1, b1⟩
theorem vx_callf {S SX : Type} {post : UInt32 → S → Prop} {px : SX → Prop} {B : S → State → Prop} {BX : String → SX → State → Prop} {AX : Nat → Prop} (hr : vx_Run p l e R s m args below meth c H locs cells slots mc ms (F0 m pc ls st0) rest (va_Qf post B A1 a) (vx_X px BX AX) free) (hS : va_S A0 H0 H locs) (hA : ∀ q, q < H.size → A1 q → A0 q) (hf : ∀ q, free q → A0 q) (hAX : ∀ q, q < H.size → AX q → A0 q)
    (kx : ∀ (E : String) (ce : Cell) (q9 : Addr) (u : SX) (t : State) (H1 : Heap) (locs1 : List Loc), t.heap = H1 → s.vm.Alike t.vm → px u → BX E u t → H.size ≤ H1.size → (∀ q : Nat, q < H.size → ¬ AX q → H1[q]? = H[q]?) → va_S A0 H0 H1 locs1 → H1[q9]? = some ce → ce.vm = .none → s.vm.findClass E = some ce.cls → vx_W p l e R s m args below meth c H1 locs1 (cells + mc) (slots + ms) Q (F0 m pc ls rest) q9)
    (kk : ∀ (r : UInt32) (u : S) (t : State) (H1 : Heap) (locs1 : List Loc), t.heap = H1 → s.vm.Alike t.vm → post r u → B u t → H.size ≤ H1.size → (∀ q : Nat, q < H.size → ¬ A1 q → H1[q]? = H[q]?) → va_S A0 H0 H1 locs1 → W p l e R s m args below meth c H1 locs1 (cells + mc) (slots + ms) Q (F0 m (pc + 3) ls (.float r :: rest))) : W p l e R s m args below meth c H locs cells slots Q (F0 m pc ls st0) := by
  intro T hT X
  rcases hr T hT X with ⟨v, st₀, t, T', L, h0, X', hL, e1, e2, ⟨⟨r, u, hv, hp, hb⟩, hF⟩, st⟩ | ⟨q, st₀, t, T', L, E, ce, h0, X', hL, e1, e2, ⟨u, hp, hb, hF⟩, hce, hcv, hcl, st⟩
  · cases hv
    obtain ⟨k1, k2, k3⟩ := vx_keep h0 e1 hS hA hf hL hF
    obtain ⟨t2, a1, b1⟩ := kk r u t T'.heap (locs ++ L) e1.symm (by rw [← e2]; exact X'.warmed.alike) hp hb k1 k2 k3 T' rfl X'
    exact ⟨t2, st t2 a1, b1⟩
  · obtain ⟨k1, k2, k3⟩ := vx_keep h0 e1 hS hAX hf hL hF
    obtain ⟨t2, a1, b1⟩ := kx E ce q u t T'.heap (locs ++ L) e1.symm (by rw [← e2]; exact X'.warmed.alike) hp hb k1 k2 k3 (by rw [e1]; exact hce) hcv hcl T' rfl X'
    exact ⟨t2, st.trans a1, b1⟩
theorem vx_calld {S SX : Type} {post : UInt64 → S → Prop} {px : SX → Prop} {B : S → State → Prop} {BX : String → SX → State → Prop} {AX : Nat → Prop} (hr : vx_Run p l e R s m args below meth c H locs cells slots mc ms (F0 m pc ls st0) rest (va_Qd post B A1 a) (vx_X px BX AX) free) (hS : va_S A0 H0 H locs) (hA : ∀ q, q < H.size → A1 q → A0 q) (hf : ∀ q, free q → A0 q) (hAX : ∀ q, q < H.size → AX q → A0 q)
    (kx : ∀ (E : String) (ce : Cell) (q9 : Addr) (u : SX) (t : State) (H1 : Heap) (locs1 : List Loc), t.heap = H1 → s.vm.Alike t.vm → px u → BX E u t → H.size ≤ H1.size → (∀ q : Nat, q < H.size → ¬ AX q → H1[q]? = H[q]?) → va_S A0 H0 H1 locs1 → H1[q9]? = some ce → ce.vm = .none → s.vm.findClass E = some ce.cls → vx_W p l e R s m args below meth c H1 locs1 (cells + mc) (slots + ms) Q (F0 m pc ls rest) q9)
    (kk : ∀ (r : UInt64) (u : S) (t : State) (H1 : Heap) (locs1 : List Loc), t.heap = H1 → s.vm.Alike t.vm → post r u → B u t → H.size ≤ H1.size → (∀ q : Nat, q < H.size → ¬ A1 q → H1[q]? = H[q]?) → va_S A0 H0 H1 locs1 → W p l e R s m args below meth c H1 locs1 (cells + mc) (slots + ms) Q (F0 m (pc + 3) ls (.double r :: rest))) : W p l e R s m args below meth c H locs cells slots Q (F0 m pc ls st0) := by
  intro T hT X
  rcases hr T hT X with ⟨v, st₀, t, T', L, h0, X', hL, e1, e2, ⟨⟨r, u, hv, hp, hb⟩, hF⟩, st⟩ | ⟨q, st₀, t, T', L, E, ce, h0, X', hL, e1, e2, ⟨u, hp, hb, hF⟩, hce, hcv, hcl, st⟩
  · cases hv
    obtain ⟨k1, k2, k3⟩ := vx_keep h0 e1 hS hA hf hL hF
    obtain ⟨t2, a1, b1⟩ := kk r u t T'.heap (locs ++ L) e1.symm (by rw [← e2]; exact X'.warmed.alike) hp hb k1 k2 k3 T' rfl X'
    exact ⟨t2, st t2 a1, b1⟩
  · obtain ⟨k1, k2, k3⟩ := vx_keep h0 e1 hS hAX hf hL hF
    obtain ⟨t2, a1, b1⟩ := kx E ce q u t T'.heap (locs ++ L) e1.symm (by rw [← e2]; exact X'.warmed.alike) hp hb k1 k2 k3 (by rw [e1]; exact hce) hcv hcl T' rfl X'
    exact ⟨t2, st.trans a1, b1⟩
theorem vx_callv {S SX : Type} {post : S → Prop} {px : SX → Prop} {B : S → State → Prop} {BX : String → SX → State → Prop} {AX : Nat → Prop} (hr : vx_Run p l e R s m args below meth c H locs cells slots mc ms (F0 m pc ls st0) rest (va_Qv post B A1 a) (vx_X px BX AX) free) (hS : va_S A0 H0 H locs) (hA : ∀ q, q < H.size → A1 q → A0 q) (hf : ∀ q, free q → A0 q) (hAX : ∀ q, q < H.size → AX q → A0 q)
    (kx : ∀ (E : String) (ce : Cell) (q9 : Addr) (u : SX) (t : State) (H1 : Heap) (locs1 : List Loc), t.heap = H1 → s.vm.Alike t.vm → px u → BX E u t → H.size ≤ H1.size → (∀ q : Nat, q < H.size → ¬ AX q → H1[q]? = H[q]?) → va_S A0 H0 H1 locs1 → H1[q9]? = some ce → ce.vm = .none → s.vm.findClass E = some ce.cls → vx_W p l e R s m args below meth c H1 locs1 (cells + mc) (slots + ms) Q (F0 m pc ls rest) q9)
    (kk : ∀ (u : S) (t : State) (H1 : Heap) (locs1 : List Loc), t.heap = H1 → s.vm.Alike t.vm → post u → B u t → H.size ≤ H1.size → (∀ q : Nat, q < H.size → ¬ A1 q → H1[q]? = H[q]?) → va_S A0 H0 H1 locs1 → W p l e R s m args below meth c H1 locs1 (cells + mc) (slots + ms) Q (F0 m (pc + 3) ls (rest))) : W p l e R s m args below meth c H locs cells slots Q (F0 m pc ls st0) := by
  intro T hT X
  rcases hr T hT X with ⟨v, st₀, t, T', L, h0, X', hL, e1, e2, ⟨⟨u, hv, hp, hb⟩, hF⟩, st⟩ | ⟨q, st₀, t, T', L, E, ce, h0, X', hL, e1, e2, ⟨u, hp, hb, hF⟩, hce, hcv, hcl, st⟩
  · cases hv
    obtain ⟨k1, k2, k3⟩ := vx_keep h0 e1 hS hA hf hL hF
    obtain ⟨t2, a1, b1⟩ := kk u t T'.heap (locs ++ L) e1.symm (by rw [← e2]; exact X'.warmed.alike) hp hb k1 k2 k3 T' rfl X'
    exact ⟨t2, st t2 a1, b1⟩
  · obtain ⟨k1, k2, k3⟩ := vx_keep h0 e1 hS hAX hf hL hF
    obtain ⟨t2, a1, b1⟩ := kx E ce q u t T'.heap (locs ++ L) e1.symm (by rw [← e2]; exact X'.warmed.alike) hp hb k1 k2 k3 (by rw [e1]; exact hce) hcv hcl T' rfl X'
    exact ⟨t2, st.trans a1, b1⟩
/-- caught by the row x of this method's table; the rows ahead don't take it -/
theorem vx_catch {own name : String} {E : String} {ce : Cell} {q : Addr} (hown : s.vm.findClass own = some m.cls) (pre : List ExceptionTableEntry) (x : ExceptionTableEntry) (suf : List ExceptionTableEntry) (hsplit : c.exceptionTable.toList = pre ++ x :: suf)
    (hpass : ∀ z ∈ pre, covers z pc = false ∨ (z.catchType ≠ 0 ∧ ∃ nm : String, (Cond.classLink own z.catchType nm).before args s = true ∧ va_Nc E nm s)) (hx : covers x pc = true) (h0 : x.catchType ≠ 0)
    (hlink : (Cond.classLink own x.catchType name).before args s = true) (hcast : (Cond.castable E name).before args s = true) (hcell : H[q]? = some ce) (hv : ce.vm = .none) (hcl : s.vm.findClass E = some ce.cls)
    (kk : W p l e R s m args below meth c H locs cells slots Q (F0 m x.handlerPc ls [.ref q])) : vx_W p l e R s m args below meth c H locs cells slots Q (F0 m pc ls rest) q := by
  intro T hT X
  have hpl : e.platform.magicAccessors = ({} : Platform).magicAccessors := by rw [X.admits.platform]
  obtain ⟨c3, c4, hc3, hc4, hasg⟩ := Cond.castable_spec hcast
  cases Option.some.inj (hc3.symm.trans hcl)
  obtain ⟨c5, hc5, hcl5⟩ := Cond.classLink_spec hown hlink e.platform hpl
  cases Option.some.inj (hc4.symm.trans hc5)
  obtain ⟨vm', X', st⟩ := X.thenCaughtThrough q (g := F0 m pc ls rest) rfl (Steps.refl _) (by rw [hT]; exact hcell) (by rw [hv]; rfl) (by obtain ⟨k9, h9, -⟩ := Vm.findClass_spec hcl; exact ⟨k9, h9⟩) pre x suf hsplit
    (fun z hz => by
      rcases hpass z hz with h | ⟨hz0, nm, hl1, hn1⟩
      · exact Or.inl h
      · obtain ⟨c6, hc6, hcl6⟩ := Cond.classLink_spec hown hl1 e.platform hpl
        obtain ⟨a8, b8, h1, h2, h3⟩ := hn1
        cases Option.some.inj (h1.symm.trans hcl)
        cases Option.some.inj (h2.symm.trans hc6)
        exact Or.inr ⟨hz0, _, hcl6, h3⟩) hx (Or.inr ⟨h0, c4, hcl5, hasg⟩)
  obtain ⟨t, a1, b1⟩ := kk (T.setVm vm') hT X'
  exact ⟨t, st.trans a1, b1⟩
end Rows
section Ends
variable {p : Program} {l : Launch} {e : Env} {R : Room} {s : State} {m : MethodId} {args : Array Value} {below : List Frame} {meth : Method} {c : Code} {H : Heap} {locs : List Loc} {cells slots : Nat} {Q : State → Prop}
variable {mc ms : Nat} {free : Addr → Prop} {A0 A1 : Nat → Prop} {H0 : Heap} {a : Array Value} {ls : Array Slot} {st0 rest : List Value}
variable {Qc : Array Value → State → Outcome → State → Prop} {XC : String → State → State → Prop}
/-- what a body that may throw owes at its end -/
def vx_MQ (below : List Frame) (Qc : Array Value → State → Outcome → State → Prop) (XC : String → State → State → Prop) (a : Array Value) (s : State) (mc ms : Nat) (free : Addr → Prop) : State → Prop := fun t =>
  ∃ o, t.status = .running ∧ Ended t below o ∧ vx_Q Qc XC mc ms free a s o t
theorem vx_ret {g : JFrame} {mc ms : Nat} (k : W p l e R s m args below meth c H locs cells slots (MQ below Qc args s mc ms free) g) : W p l e R s m args below meth c H locs cells slots (vx_MQ below Qc XC args s mc ms free) g := by
  intro T hT X
  obtain ⟨t, a1, o, b1, b2, b3, b4⟩ := k T hT X
  exact ⟨t, a1, o, b1, b2, Or.inl ⟨b3, b4⟩⟩
/-- not caught here: it goes on to the caller -/
theorem vx_widen {g : JFrame} {q : Addr} {k n : Nat} (h1 : cells ≤ k) (h2 : slots ≤ n) (kk : vx_W p l e R s m args below meth c H locs k n Q g q) : vx_W p l e R s m args below meth c H locs cells slots Q g q := fun T hT X => kk T hT (stand_widen X h1 h2)
theorem vx_out {pc : Nat} {E : String} {ce : Cell} {q : Addr} {mc ms : Nat} (hout : ∀ x ∈ c.exceptionTable.toList, covers x pc = false) (hlocks : meth.locks = false) (hcell : H[q]? = some ce) (hv : ce.vm = .none) (hcl : s.vm.findClass E = some ce.cls)
    (hx : ∀ t : State, t.heap = H → s.vm.Alike t.vm → XC E s t) (hf : ∀ z ∈ locs, free z.base) (hc : cells ≤ mc) (hs : slots ≤ ms) :
    vx_W p l e R s m args below meth c H locs cells slots (vx_MQ below Qc XC args s mc ms free) (F0 m pc ls rest) q := by
  intro T hT X
  obtain ⟨st1, hrun, hend, hW, hsm⟩ := X.leaveThrown q (g := F0 m pc ls rest) rfl rfl rfl hout hlocks
  have hcell9 : (T.setFrames (.throwing q :: below)).heap[q]? = some ce := by
    show T.heap[q]? = some ce
    rw [hT]; exact hcell
  exact ⟨_, st1, .threw q, hrun, hend, Or.inr ⟨q, rfl, E, ce, locs, hx _ hT hW.alike, hcell9, hv, hcl, hW, hsm.mono hc hs, hf⟩⟩
theorem vx_frame {U : State} {k n : Nat} (h : s.sameButNew ({ U with vm := s.vm } : State) locs k n) : s.heap.size ≤ U.heap.size ∧ ∀ q : Nat, q < s.heap.size → (∀ z ∈ locs, z.base ≠ q) → U.heap[q]? = s.heap[q]? := by
  obtain ⟨-, h2, -, -, -, h6⟩ := h
  refine ⟨h2, fun q hq hz => ?_⟩
  obtain ⟨c9, e1, e2, e3, e4⟩ := h6 q _ (Array.getElem?_eq_getElem hq)
  have hs : c9.slots = (s.heap[q]).slots := Array.ext_getElem? fun i => e4 i fun hm => hz _ hm rfl
  have h9 : c9 = s.heap[q] := by
    rw [hs] at e2
    exact e2
  have e5 : U.heap[q]? = some c9 := e1
  rw [e5, h9, Array.getElem?_eq_getElem hq]
/-- the words of a throw but the four that speak of the heap -/
def vx_no (w : Cond) : Bool := decide (w ≠ .isRef (.static Bundle.tN "UNASSIGNED_STACK" Bundle.steD)) && decide (w ≠ .isRef (.static Bundle.tN "SUPPRESSED_SENTINEL" Bundle.listD)) && decide (w ≠ .laysStatic Bundle.tN "UNASSIGNED_STACK" Bundle.steD) && decide (w ≠ .laysStatic Bundle.tN "SUPPRESSED_SENTINEL" Bundle.listD)
def vx_at0 (own : String) (ic : Nat) (X : String) (names : List String) : List Cond := (Bundle.ownAtoms0 own ic X names).filter vx_no
def vx_atS (own : String) (ic : Nat) (X : String) (names : List String) : List Cond := (Bundle.ownAtoms own ic X names).filter vx_no
/-- a word that the tables alone decide, or a good one -/
def vx_ot (w : Cond) : Bool := w.onTables || goodWord w
theorem vx_ot_at {args a' : Array Value} {s U : State} {w : Cond} (hW : s.WarmedH U.vm) (hvm : s.vm = U.vm) (hg : vx_ot w = true) (h : w.before args s = true) : w.before a' U = true := by
  simp only [vx_ot, Bool.or_eq_true] at hg
  rcases hg with hg | hg
  · exact va_tabs hg hvm h
  · exact word_at hW (good_of_word hg) h
/-- a list's words: the good ones out of the method's own list, the others by premises of their own -/
theorem vx_hat {args : Array Value} {s : State} {L B : List Cond} (h1 : ∀ w ∈ L.filter goodWord, w.before args s = true) (h2 : ∀ w ∈ L.filter (fun w => !goodWord w), w ∈ B) (h3 : ∀ w ∈ B, w.before args s = true) : ∀ w ∈ L, w.before args s = true := by
  intro w hw
  by_cases g : goodWord w = true
  · exact h1 w (List.mem_filter.mpr ⟨hw, g⟩)
  · refine h3 w (h2 w (List.mem_filter.mpr ⟨hw, ?_⟩))
    show (!goodWord w) = true
    cases hgw : goodWord w
    · rfl
    · exact absurd hgw g
theorem vx_c {args : Array Value} {s : State} {w : Cond} {B : List Cond} (h : w.before args s = true) (t : ∀ w ∈ B, w.before args s = true) : ∀ w' ∈ w :: B, w'.before args s = true := fun w' h' => (List.mem_cons.mp h').elim (fun e => by rw [e]; exact h) (t w')
theorem vx_n {args : Array Value} {s : State} : ∀ w ∈ ([] : List Cond), w.before args s = true := fun _ h => nomatch h
theorem vx_own {args : Array Value} {s : State} {L : List Cond} (h1 : ∀ w ∈ L.filter vx_no, w.before args s = true)
    (hU : (Cond.isRef (.static Bundle.tN "UNASSIGNED_STACK" Bundle.steD)).before args s = true) (hN : (Cond.isRef (.static Bundle.tN "SUPPRESSED_SENTINEL" Bundle.listD)).before args s = true)
    (lU : (Cond.laysStatic Bundle.tN "UNASSIGNED_STACK" Bundle.steD).before args s = true) (lN : (Cond.laysStatic Bundle.tN "SUPPRESSED_SENTINEL" Bundle.listD).before args s = true) : ∀ w ∈ L, w.before args s = true := by
  intro w hw
  by_cases e1 : w = .isRef (.static Bundle.tN "UNASSIGNED_STACK" Bundle.steD)
  · rw [e1]; exact hU
  · by_cases e2 : w = .isRef (.static Bundle.tN "SUPPRESSED_SENTINEL" Bundle.listD)
    · rw [e2]; exact hN
    · by_cases e3 : w = .laysStatic Bundle.tN "UNASSIGNED_STACK" Bundle.steD
      · rw [e3]; exact lU
      · by_cases e4 : w = .laysStatic Bundle.tN "SUPPRESSED_SENTINEL" Bundle.listD
        · rw [e4]; exact lN
        · exact h1 w (List.mem_filter.mpr ⟨hw, by unfold vx_no; rw [decide_eq_true e1, decide_eq_true e2, decide_eq_true e3, decide_eq_true e4]; rfl⟩)
/-- where a static field lies, its class's statics cell in H -/
def vx_L (C n d : String) (A : Nat → Prop) (U : State) (H : Heap) : Prop := ∃ (c : ClassId) (k : Class) (i : Nat) (f : Field) (a : Nat) (cell : Cell), U.vm.findClass C = some c ∧ U.fieldFound? C n d = some (c, k, i, f) ∧ f.isStatic = true ∧ k.statics = some a ∧ H[a]? = some cell ∧ cell.vm.isStatics = true ∧ cell.cls = c ∧ f.slot < cell.slots.size ∧ k.staticTypes[f.slot]? = some f.type ∧ ¬ A a
theorem vx_L.moved {C n d : String} {A : Nat → Prop} {u U : State} {H : Heap} (hvm : u.vm.Alike U.vm) (h : vx_L C n d A u H) : vx_L C n d A U H := by
  obtain ⟨c, k, i, f, a, cell, h1, h2, h3, h4, h5, h6, h7, h8, h9, h10⟩ := h
  obtain ⟨k', hi', he⟩ := State.fieldFound?_setVm hvm h2
  exact ⟨c, k', i, f, a, cell, by rw [hvm.findClass]; exact h1, hi', h3, by rw [he]; exact h4, h5, h6, h7, h8, by rw [he]; exact h9, h10⟩
theorem vx_L.kept {C n d : String} {A : Nat → Prop} {U : State} {H H1 : Heap} (h : vx_L C n d A U H) (hq : ∀ a : Nat, a < H.size → ¬ A a → H1[a]? = H[a]?) : vx_L C n d A U H1 := by
  obtain ⟨c, k, i, f, a, cell, h1, h2, h3, h4, h5, h6, h7, h8, h9, h10⟩ := h
  exact ⟨c, k, i, f, a, cell, h1, h2, h3, h4, by rw [hq a (Array.getElem?_eq_some_iff.mp h5).1 h10]; exact h5, h6, h7, h8, h9, h10⟩
theorem vx_L.narrow {C n d : String} {A B : Nat → Prop} {U : State} {H : Heap} (h : vx_L C n d A U H) (hAB : ∀ q, B q → A q) : vx_L C n d B U H := by
  obtain ⟨c, k, i, f, a, cell, h1, h2, h3, h4, h5, h6, h7, h8, h9, h10⟩ := h
  exact ⟨c, k, i, f, a, cell, h1, h2, h3, h4, h5, h6, h7, h8, h9, fun z => h10 (hAB _ z)⟩
theorem vx_L.word {C n d : String} {A : Nat → Prop} {s : State} {args : Array Value} (h : vx_L C n d A s s.heap) : (Cond.laysStatic C n d).before args s = true := by
  obtain ⟨c, k, i, f, a, cell, h1, h2, h3, h4, h5, h6, h7, h8, h9, -⟩ := h
  show (Cond.laysStatic C n d).holds args s none s [] = true
  exact Cond.laysStatic_of h1 h2 h3 h4 h5 h6 h7 h8 h9
/-- .. and what it holds: null or some reference -/
def vx_Zq (C n d : String) (A : Nat → Prop) (U : State) (H : Heap) : Prop := va_Zq C n d A U H ∧ vx_L C n d A U H
theorem vx_Zq.moved {C n d : String} {A : Nat → Prop} {u U : State} {H : Heap} (hvm : u.vm.Alike U.vm) (h : vx_Zq C n d A u H) : vx_Zq C n d A U H := ⟨va_Zq.moved hvm h.1, vx_L.moved hvm h.2⟩
theorem vx_Zq.kept {C n d : String} {A : Nat → Prop} {U : State} {H H1 : Heap} (h : vx_Zq C n d A U H) (hq : ∀ a : Nat, a < H.size → ¬ A a → H1[a]? = H[a]?) : vx_Zq C n d A U H1 := ⟨va_Zq.kept h.1 hq, vx_L.kept h.2 hq⟩
theorem vx_Zq.narrow {C n d : String} {A B : Nat → Prop} {U : State} {H : Heap} (h : vx_Zq C n d A U H) (hAB : ∀ q, B q → A q) : vx_Zq C n d B U H := ⟨va_Zq.narrow h.1 hAB, vx_L.narrow h.2 hAB⟩
theorem vx_Zqof {args : Array Value} {s : State} {C n d : String} {A : Nat → Prop} (hl : (Cond.laysStatic C n d).before args s = true) (hini : (Cond.initialized C).before args s = true) (h : (Cond.isRef (.static C n d)).before args s = true) (hA : ∀ a : Nat, a < s.heap.size → ¬ A a) : vx_Zq C n d A s s.heap := by
  refine ⟨va_Zqof hl hini h hA, ?_⟩
  obtain ⟨c, k, i, f, a, cell, h1, h2, h3, h4, h5, h6, h7, h8, h9⟩ := Cond.laysStatic_spec hl
  exact ⟨c, k, i, f, a, cell, h1, h2, h3, h4, h5, h6, h7, h8, h9, hA a (Array.getElem?_eq_some_iff.mp h5).1⟩
theorem vx_isRef {C n d : String} {v : Value} {A : Nat → Prop} {s : State} {args : Array Value} (h : va_Z C n d v A s s.heap) (hv : v.isRef = true) : (Cond.isRef (.static C n d)).before args s = true := by
  obtain ⟨cf, kf, fi, f, a, cell, h1, h2, h3, h4, h5, h6, h7, -⟩ := h
  have he : (Term.static C n d).eval args s none [] s = some v := by
    simp [Term.eval, State.fieldNamed?, h1, h2, h4, h5, h6, h7]
  simp only [Cond.before, Cond.holds, Cond.value, he]
  cases v <;> simp_all [Value.isRef]
theorem vx_isRefq {C n d : String} {A : Nat → Prop} {s : State} {args : Array Value} (h : va_Zq C n d A s s.heap) : (Cond.isRef (.static C n d)).before args s = true := by
  rcases h with h | ⟨t, h⟩
  · exact vx_isRef h rfl
  · exact vx_isRef h rfl
/-- the same frame, seen from here: as if the method were called anew in this heap -/
theorem vx_rebase {T : State} (X : Stand p l e R s m args below meth c T locs cells slots) {R' : Room} (hf : R'.frames ≤ R.frames) (hl : R'.locals ≤ R.locals) (hc : cells + R'.cells ≤ R.cells) (hs : slots + R'.slots ≤ R.slots) :
    Stand p l e R' ((T.setVm s.vm).setFrames (.invoking m args :: below)) m args below meth c T [] 0 0 := by
  have htop : (T.setVm s.vm).topJava?.isSome := X.here.top
  have hF : ((T.setVm s.vm).setFrames (.invoking m args :: below)).frames = .invoking m args :: below := State.frames_setFrames _ (State.cur_lt_of_top htop)
  obtain ⟨g₀, hg0⟩ := Option.isSome_iff_exists.mp htop
  obtain ⟨r, hr⟩ := State.topJava?_eq_some.mp hg0
  have hl9 : e.platform.stackLimits (T.setVm s.vm).me = e.platform.stackLimits s.me := X.limits
  have hb9 : (T.setVm s.vm).me.stackBytes = s.me.stackBytes := X.bytes
  refine ⟨X.admits, X.cas, X.clock, hF, ?_, X.hears, X.method, X.code, X.here, X.tail, X.warmed, ?_, ?_, ?_⟩
  · have h := X.room
    have hU : ((T.setVm s.vm).setFrames (.invoking m args :: below)).localsInUse = s.localsInUse := by
      rw [State.localsInUse_invoking hF (meth := meth) (c := c) X.method X.code, State.localsInUse_invoking X.frames X.method X.code]
    simp only [State.hasRoom, Bool.and_eq_true, decide_eq_true_eq] at h ⊢
    obtain ⟨⟨⟨⟨h1, h2, h3, h4, h5, h6⟩, h7⟩, h8⟩, h9⟩ := h
    rw [X.frames, List.length_cons] at h2 h3
    have q1 := X.heapSize
    have q2 := X.used
    simp only [hF, hU, List.length_cons, State.stackLimits_setFrames, State.stackBytes_setFrames, hl9, hb9]
    refine ⟨⟨⟨⟨by omega, by omega, by omega, by omega, by omega, h6⟩, ?_⟩, ?_⟩, X.book⟩
    · show T.heap.size + R'.cells ≤ e.platform.maxCells
      omega
    · show T.slotsUsed + R'.slots ≤ e.platform.maxSlots
      omega
  · rw [State.stackLimits_setFrames]; rfl
  · rw [State.stackBytes_setFrames]; rfl
  · refine ⟨?_, Nat.le_refl _, Nat.le_refl _, ?_, ?_, fun a c9 h9 => ⟨c9, h9, rfl, rfl, fun _ _ => rfl⟩⟩
    · obtain ⟨t, ht, -⟩ := State.frames_cons hr
      show T.setVm s.vm = { ((T.setVm s.vm).setFrames (.invoking m args :: below)).setFrames (T.setVm s.vm).frames with heap := T.heap, slotsUsed := T.slotsUsed }
      rw [State.setFrames_setFrames, State.setFrames_self ht]
      rfl
    · show T.slotsUsed = T.slotsUsed + ((T.heap.toList.drop T.heap.size).map (·.slots.size)).sum
      rw [List.drop_eq_nil_of_le (Nat.le_of_eq Array.length_toList)]
      rfl
    · show ((T.heap.toList.drop T.heap.size).map (·.slots.size)).sum ≤ 0
      rw [List.drop_eq_nil_of_le (Nat.le_of_eq Array.length_toList)]
      exact Nat.le_refl _
/-- 'throw new E()': new; dup; invokespecial; athrow -/
theorem vx_throw0 {cc : ByteArray} {pc : Nat} (hexec : p.tables.exec = Jvm.exec) (hb : c.code = cc) (hl : l.stackTraces = false) {own cls : String} {names : List String} {ik ic mc ms : Nat} {A : Nat → Prop}
    (hown : s.vm.findClass own = some m.cls) (hcls : Bundle.fit cls = true) (hnames : ∀ n ∈ names, Bundle.fit n = true)
    (hk : (Cond.classLink own ik cls).before args s = true) (hini : (Cond.initialized cls).before args s = true) (hat : ∀ w ∈ vx_at0 own ic cls names, w.before args s = true)
    (hgood : ∀ w ∈ Cond.classLink own ik cls :: Cond.initialized cls :: vx_at0 own ic cls names, vx_ot w = true)
    (hU : vx_Zq Bundle.tN "UNASSIGNED_STACK" Bundle.steD A s s.heap) (hN : vx_Zq Bundle.tN "SUPPRESSED_SENTINEL" Bundle.listD A s s.heap) (hS : va_S A s.heap H locs) (hsize : ls.size = c.maxLocals)
    (d0 : decode cc pc = .ok (.new ik, 3)) (d3 : decode cc (pc + 3) = .ok (.dup, 1)) (d4 : decode cc (pc + 4) = .ok (.invokespecial ic, 3)) (d7 : decode cc (pc + 7) = .ok (.athrow, 1))
    (hout : ∀ x ∈ c.exceptionTable.toList, covers x (pc + 7) = false)
    (hRframes : names.length + 3 < R.frames) (hRlocals : (rest.map fun v => v.category).sum + (13 * (names.length + 1) + 42) ≤ R.locals) (hRcells : cells + 1 ≤ R.cells) (hRslots : slots + 6 ≤ R.slots) (hlocks : meth.locks = false)
    (hx : ∀ t : State, s.vm.Alike t.vm → H.size ≤ t.heap.size → (∀ q : Nat, q < H.size → t.heap[q]? = H[q]?) → XC cls s t)
    (hf : ∀ z ∈ locs, free z.base) (hc : cells + 1 ≤ mc) (hs : slots + 6 ≤ ms) :
    W p l e R s m args below meth c H locs cells slots (vx_MQ below Qc XC args s mc ms free) (F0 m pc ls rest) := by
  intro T hT X
  have htr : e.platform.stackTraces = false := (show e.platform.stackTraces = l.stackTraces by rw [X.admits.platform]).trans hl
  have Y := vx_rebase X (R' := { frames := R.frames, locals := R.locals, cells := 1, slots := 6 }) (Nat.le_refl _) (Nat.le_refl _) hRcells hRslots
  obtain ⟨s', hA⟩ : ∃ z, z = (T.setVm s.vm).setFrames (.invoking m args :: below) := ⟨_, rfl⟩
  rw [← hA] at Y
  have hvm : s'.vm = s.vm := by rw [hA]; rfl
  have hhp : s'.heap = H := by rw [hA]; exact hT
  have hW0 : s.WarmedH s'.vm := by rw [hvm]; exact State.WarmedH.refl s
  have hat' : ∀ w ∈ vx_at0 own ic cls names, w.before args s' = true := fun w hw => vx_ot_at hW0 hvm.symm (hgood w (List.mem_cons_of_mem _ (List.mem_cons_of_mem _ hw))) (hat w hw)
  have hk' : (Cond.classLink own ik cls).before args s' = true := vx_ot_at hW0 hvm.symm (hgood _ List.mem_cons_self) hk
  have hini' : (Cond.initialized cls).before args s' = true := vx_ot_at hW0 hvm.symm (hgood _ (List.mem_cons_of_mem _ List.mem_cons_self)) hini
  have hU' : vx_Zq Bundle.tN "UNASSIGNED_STACK" Bundle.steD A s' s'.heap := by rw [hhp]; exact vx_Zq.moved hW0.alike (hU.kept hS.2.1)
  have hN' : vx_Zq Bundle.tN "SUPPRESSED_SENTINEL" Bundle.listD A s' s'.heap := by rw [hhp]; exact vx_Zq.moved hW0.alike (hN.kept hS.2.1)
  have h : ∀ w ∈ Bundle.ownAtoms0 own ic cls names, w.before args s' = true := vx_own hat' (vx_isRefq hU'.1) (vx_isRefq hN'.1) hU'.2.word hN'.2.word
  have hown' : s'.vm.findClass own = some m.cls := by rw [hvm]; exact hown
  have hins : (Cond.instantiable cls 6).before args s' = true := h _ (by simp [Bundle.ownAtoms0])
  obtain ⟨vm₁, cX, kX, hfX, hkX, -, -, X₁, st1⟩ := Y.newCold hexec (own := own) (C := cls) (index := ik) (n := 6) hown' hk' hins hini'
    (g := F0 m pc ls rest) rfl (by rw [hb]; exact d0) (Nat.le_refl _) (Nat.le_refl _)
  generalize hT1 : (T.setVm vm₁).pushCell { cls := cX, slots := kX.instanceTypes.map defaultValue, vm := .none } = T1 at X₁ st1
  have hcat : (Value.ref T.heap.size).category = 1 := rfl
  have hcellA : T1.heap[T.heap.size]? = some (freshCell cX kX) := by rw [← hT1]; exact State.heap_pushCell_size _ _
  have d3' : decode c.code (pc + 3) = .ok (.dup, 1) := by rw [hb]; exact d3
  obtain ⟨U, hsteps, hrun, hend, hW, hsame, ce, hce, hO⟩ := X₁.ctorThrow0 hexec htr (own := own) (cls := cls) (names := names) (ic := ic) hown' hcls hnames h (fun x hx => nomatch hx) hfX hkX hcellA (by rw [hhp, hT]; exact Nat.le_refl _)
    (g := { method := m, pc := pc + 4, locals := ls, stack := .ref T.heap.size :: .ref T.heap.size :: rest, locked := none }) rfl hsize rfl rfl (rest := rest) rfl
    (by rw [hb]; exact d4) (by rw [hb]; exact d7) hout hRframes (by simp only [List.map_cons, List.sum_cons, hcat]; omega) hlocks
  obtain ⟨f1, f2⟩ := vx_frame hsame
  rw [hhp] at f1 f2
  have hWs : s.WarmedH U.vm := State.WarmedH.trans hW0 hW
  have hcl : s.vm.findClass cls = some ce.cls := by
    have h9 := hO.cls
    rw [hvm] at h9
    exact h9
  have hall : s.sameButNew ({ U with vm := s.vm } : State) locs mc ms := by
    subst hA
    obtain ⟨e1, e2⟩ := hsame
    rw [State.setFrames_setFrames] at e1
    have h2 : (T.setVm s.vm).sameButNew ({ U with vm := s.vm } : State) [] (0 + 1) (0 + 6) := ⟨e1, e2⟩
    have h3 := X.same.trans h2
    rw [List.append_nil] at h3
    exact h3.mono hc hs
  refine ⟨U, ?_, .threw T.heap.size, hrun, hend, Or.inr ⟨T.heap.size, rfl, cls, ce, locs, hx U hWs.alike f1 (fun q hq => f2 q hq (fun z hz => nomatch hz)), hce, hO.vm, hcl, hWs, hall, hf⟩⟩
  refine st1 _ ?_
  show Steps p.tables e below (T1.setTop { method := m, pc := pc + 3, locals := ls, stack := .ref T.heap.size :: rest, locked := none }) _
  jvm_step X₁.here [X₁.here.top, hexec, d3', Value.category]
  exact hsteps
/-- 'throw new E("text")': new; dup; ldc; invokespecial; athrow -/
theorem vx_throwS {cc : ByteArray} {pc : Nat} (hexec : p.tables.exec = Jvm.exec) (hb : c.code = cc) (hl : l.stackTraces = false) {own cls text : String} {names : List String} {ik is ic mc ms sa : Nat} {A : Nat → Prop}
    (hown : s.vm.findClass own = some m.cls) (hcls : Bundle.fit cls = true) (hnames : ∀ n ∈ names, Bundle.fit n = true)
    (hk : (Cond.classLink own ik cls).before args s = true) (hini : (Cond.initialized cls).before args s = true) (hstr : vk_R own is text sa s) (hat : ∀ w ∈ vx_atS own ic cls names, w.before args s = true)
    (hgood : ∀ w ∈ Cond.classLink own ik cls :: Cond.initialized cls :: vx_atS own ic cls names, vx_ot w = true)
    (hU : vx_Zq Bundle.tN "UNASSIGNED_STACK" Bundle.steD A s s.heap) (hN : vx_Zq Bundle.tN "SUPPRESSED_SENTINEL" Bundle.listD A s s.heap) (hS : va_S A s.heap H locs) (hsize : ls.size = c.maxLocals)
    (d0 : decode cc pc = .ok (.new ik, 3)) (d3 : decode cc (pc + 3) = .ok (.dup, 1)) (d4 : decode cc (pc + 4) = .ok (.ldc is, 2)) (d6 : decode cc (pc + 6) = .ok (.invokespecial ic, 3)) (d9 : decode cc (pc + 9) = .ok (.athrow, 1))
    (hout : ∀ x ∈ c.exceptionTable.toList, covers x (pc + 9) = false)
    (hRframes : names.length + 3 < R.frames) (hRlocals : (rest.map fun v => v.category).sum + (13 * (names.length + 1) + 43) ≤ R.locals) (hRcells : cells + 1 ≤ R.cells) (hRslots : slots + 6 ≤ R.slots) (hlocks : meth.locks = false)
    (hx : ∀ t : State, s.vm.Alike t.vm → H.size ≤ t.heap.size → (∀ q : Nat, q < H.size → t.heap[q]? = H[q]?) → XC cls s t)
    (hf : ∀ z ∈ locs, free z.base) (hc : cells + 1 ≤ mc) (hs : slots + 6 ≤ ms) :
    W p l e R s m args below meth c H locs cells slots (vx_MQ below Qc XC args s mc ms free) (F0 m pc ls rest) := by
  intro T hT X
  have htr : e.platform.stackTraces = false := (show e.platform.stackTraces = l.stackTraces by rw [X.admits.platform]).trans hl
  have Y := vx_rebase X (R' := { frames := R.frames, locals := R.locals, cells := 1, slots := 6 }) (Nat.le_refl _) (Nat.le_refl _) hRcells hRslots
  obtain ⟨s', hA⟩ : ∃ z, z = (T.setVm s.vm).setFrames (.invoking m args :: below) := ⟨_, rfl⟩
  rw [← hA] at Y
  have hvm : s'.vm = s.vm := by rw [hA]; rfl
  have hhp : s'.heap = H := by rw [hA]; exact hT
  have hW0 : s.WarmedH s'.vm := by rw [hvm]; exact State.WarmedH.refl s
  have hat' : ∀ w ∈ vx_atS own ic cls names, w.before args s' = true := fun w hw => vx_ot_at hW0 hvm.symm (hgood w (List.mem_cons_of_mem _ (List.mem_cons_of_mem _ hw))) (hat w hw)
  have hk' : (Cond.classLink own ik cls).before args s' = true := vx_ot_at hW0 hvm.symm (hgood _ List.mem_cons_self) hk
  have hini' : (Cond.initialized cls).before args s' = true := vx_ot_at hW0 hvm.symm (hgood _ (List.mem_cons_of_mem _ List.mem_cons_self)) hini
  have hU' : vx_Zq Bundle.tN "UNASSIGNED_STACK" Bundle.steD A s' s'.heap := by rw [hhp]; exact vx_Zq.moved hW0.alike (hU.kept hS.2.1)
  have hN' : vx_Zq Bundle.tN "SUPPRESSED_SENTINEL" Bundle.listD A s' s'.heap := by rw [hhp]; exact vx_Zq.moved hW0.alike (hN.kept hS.2.1)
  have h : ∀ w ∈ Bundle.ownAtoms own ic cls names, w.before args s' = true := vx_own hat' (vx_isRefq hU'.1) (vx_isRefq hN'.1) hU'.2.word hN'.2.word
  have hown' : s'.vm.findClass own = some m.cls := by rw [hvm]; exact hown
  have hins : (Cond.instantiable cls 6).before args s' = true := h _ (by simp [Bundle.ownAtoms])
  obtain ⟨vm₁, cX, kX, hfX, hkX, -, -, X₁, st1⟩ := Y.newCold hexec (own := own) (C := cls) (index := ik) (n := 6) hown' hk' hins hini'
    (g := F0 m pc ls rest) rfl (by rw [hb]; exact d0) (Nat.le_refl _) (Nat.le_refl _)
  generalize hT1 : (T.setVm vm₁).pushCell { cls := cX, slots := kX.instanceTypes.map defaultValue, vm := .none } = T1 at X₁ st1
  have hcat : (Value.ref T.heap.size).category = 1 := rfl
  have hcellA : T1.heap[T.heap.size]? = some (freshCell cX kX) := by rw [← hT1]; exact State.heap_pushCell_size _ _
  have d3' : decode c.code (pc + 3) = .ok (.dup, 1) := by rw [hb]; exact d3
  have d4' : decode c.code (pc + 4) = .ok (.ldc is, 2) := by rw [hb]; exact d4
  have hstr' : vk_R own is text sa s' := vk_R.warm hW0 hstr
  obtain ⟨U, hsteps, hrun, hend, hW, hsame, ce, hce, hO⟩ := X₁.ctorThrowS hexec htr (own := own) (cls := cls) (names := names) (ic := ic) hown' hcls hnames h (fun x hx => nomatch hx) hfX hkX hcellA (by rw [hhp, hT]; exact Nat.le_refl _) (msg := .ref sa) rfl
    (g := { method := m, pc := pc + 6, locals := ls, stack := .ref sa :: .ref T.heap.size :: .ref T.heap.size :: rest, locked := none }) rfl hsize rfl rfl (rest := rest) rfl
    (by rw [hb]; exact d6) (by rw [hb]; exact d9) hout hRframes (by simp only [List.map_cons, List.sum_cons, hcat]; omega) hlocks
  obtain ⟨f1, f2⟩ := vx_frame hsame
  rw [hhp] at f1 f2
  have hWs : s.WarmedH U.vm := State.WarmedH.trans hW0 hW
  have hcl : s.vm.findClass cls = some ce.cls := by
    have h9 := hO.cls
    rw [hvm] at h9
    exact h9
  have hall : s.sameButNew ({ U with vm := s.vm } : State) locs mc ms := by
    subst hA
    obtain ⟨e1, e2⟩ := hsame
    rw [State.setFrames_setFrames] at e1
    have h2 : (T.setVm s.vm).sameButNew ({ U with vm := s.vm } : State) [] (0 + 1) (0 + 6) := ⟨e1, e2⟩
    have h3 := X.same.trans h2
    rw [List.append_nil] at h3
    exact h3.mono hc hs
  refine ⟨U, ?_, .threw T.heap.size, hrun, hend, Or.inr ⟨T.heap.size, rfl, cls, ce, locs, hx U hWs.alike f1 (fun q hq => f2 q hq (fun z hz => nomatch hz)), hce, hO.vm, hcl, hWs, hall, hf⟩⟩
  refine st1 _ ?_
  show Steps p.tables e below (T1.setTop { method := m, pc := pc + 3, locals := ls, stack := .ref T.heap.size :: rest, locked := none }) _
  jvm_step X₁.here [X₁.here.top, hexec, d3', Value.category]
  exact X₁.ldcString hexec (own := own) (text := text) (index := is) (a := sa) hown' hstr'.1 hstr'.2
    (g := { method := m, pc := pc + 4, locals := ls, stack := .ref T.heap.size :: .ref T.heap.size :: rest, locked := none }) rfl d4' _ hsteps
/-- 'throw new E("text")', the text by a wide index -/
theorem vx_throwSW {cc : ByteArray} {pc : Nat} (hexec : p.tables.exec = Jvm.exec) (hb : c.code = cc) (hl : l.stackTraces = false) {own cls text : String} {names : List String} {ik is ic mc ms sa : Nat} {A : Nat → Prop}
    (hown : s.vm.findClass own = some m.cls) (hcls : Bundle.fit cls = true) (hnames : ∀ n ∈ names, Bundle.fit n = true)
    (hk : (Cond.classLink own ik cls).before args s = true) (hini : (Cond.initialized cls).before args s = true) (hstr : vk_R own is text sa s) (hat : ∀ w ∈ vx_atS own ic cls names, w.before args s = true)
    (hgood : ∀ w ∈ Cond.classLink own ik cls :: Cond.initialized cls :: vx_atS own ic cls names, vx_ot w = true)
    (hU : vx_Zq Bundle.tN "UNASSIGNED_STACK" Bundle.steD A s s.heap) (hN : vx_Zq Bundle.tN "SUPPRESSED_SENTINEL" Bundle.listD A s s.heap) (hS : va_S A s.heap H locs) (hsize : ls.size = c.maxLocals)
    (d0 : decode cc pc = .ok (.new ik, 3)) (d3 : decode cc (pc + 3) = .ok (.dup, 1)) (d4 : decode cc (pc + 4) = .ok (.ldc_w is, 3)) (d7 : decode cc (pc + 7) = .ok (.invokespecial ic, 3)) (d10 : decode cc (pc + 10) = .ok (.athrow, 1))
    (hout : ∀ x ∈ c.exceptionTable.toList, covers x (pc + 10) = false)
    (hRframes : names.length + 3 < R.frames) (hRlocals : (rest.map fun v => v.category).sum + (13 * (names.length + 1) + 43) ≤ R.locals) (hRcells : cells + 1 ≤ R.cells) (hRslots : slots + 6 ≤ R.slots) (hlocks : meth.locks = false)
    (hx : ∀ t : State, s.vm.Alike t.vm → H.size ≤ t.heap.size → (∀ q : Nat, q < H.size → t.heap[q]? = H[q]?) → XC cls s t)
    (hf : ∀ z ∈ locs, free z.base) (hc : cells + 1 ≤ mc) (hs : slots + 6 ≤ ms) :
    W p l e R s m args below meth c H locs cells slots (vx_MQ below Qc XC args s mc ms free) (F0 m pc ls rest) := by
  intro T hT X
  have htr : e.platform.stackTraces = false := (show e.platform.stackTraces = l.stackTraces by rw [X.admits.platform]).trans hl
  have Y := vx_rebase X (R' := { frames := R.frames, locals := R.locals, cells := 1, slots := 6 }) (Nat.le_refl _) (Nat.le_refl _) hRcells hRslots
  obtain ⟨s', hA⟩ : ∃ z, z = (T.setVm s.vm).setFrames (.invoking m args :: below) := ⟨_, rfl⟩
  rw [← hA] at Y
  have hvm : s'.vm = s.vm := by rw [hA]; rfl
  have hhp : s'.heap = H := by rw [hA]; exact hT
  have hW0 : s.WarmedH s'.vm := by rw [hvm]; exact State.WarmedH.refl s
  have hat' : ∀ w ∈ vx_atS own ic cls names, w.before args s' = true := fun w hw => vx_ot_at hW0 hvm.symm (hgood w (List.mem_cons_of_mem _ (List.mem_cons_of_mem _ hw))) (hat w hw)
  have hk' : (Cond.classLink own ik cls).before args s' = true := vx_ot_at hW0 hvm.symm (hgood _ List.mem_cons_self) hk
  have hini' : (Cond.initialized cls).before args s' = true := vx_ot_at hW0 hvm.symm (hgood _ (List.mem_cons_of_mem _ List.mem_cons_self)) hini
  have hU' : vx_Zq Bundle.tN "UNASSIGNED_STACK" Bundle.steD A s' s'.heap := by rw [hhp]; exact vx_Zq.moved hW0.alike (hU.kept hS.2.1)
  have hN' : vx_Zq Bundle.tN "SUPPRESSED_SENTINEL" Bundle.listD A s' s'.heap := by rw [hhp]; exact vx_Zq.moved hW0.alike (hN.kept hS.2.1)
  have h : ∀ w ∈ Bundle.ownAtoms own ic cls names, w.before args s' = true := vx_own hat' (vx_isRefq hU'.1) (vx_isRefq hN'.1) hU'.2.word hN'.2.word
  have hown' : s'.vm.findClass own = some m.cls := by rw [hvm]; exact hown
  have hins : (Cond.instantiable cls 6).before args s' = true := h _ (by simp [Bundle.ownAtoms])
  obtain ⟨vm₁, cX, kX, hfX, hkX, -, -, X₁, st1⟩ := Y.newCold hexec (own := own) (C := cls) (index := ik) (n := 6) hown' hk' hins hini'
    (g := F0 m pc ls rest) rfl (by rw [hb]; exact d0) (Nat.le_refl _) (Nat.le_refl _)
  generalize hT1 : (T.setVm vm₁).pushCell { cls := cX, slots := kX.instanceTypes.map defaultValue, vm := .none } = T1 at X₁ st1
  have hcat : (Value.ref T.heap.size).category = 1 := rfl
  have hcellA : T1.heap[T.heap.size]? = some (freshCell cX kX) := by rw [← hT1]; exact State.heap_pushCell_size _ _
  have d3' : decode c.code (pc + 3) = .ok (.dup, 1) := by rw [hb]; exact d3
  have d4' : decode c.code (pc + 4) = .ok (.ldc_w is, 3) := by rw [hb]; exact d4
  have hstr' : vk_R own is text sa s' := vk_R.warm hW0 hstr
  obtain ⟨U, hsteps, hrun, hend, hW, hsame, ce, hce, hO⟩ := X₁.ctorThrowS hexec htr (own := own) (cls := cls) (names := names) (ic := ic) hown' hcls hnames h (fun x hx => nomatch hx) hfX hkX hcellA (by rw [hhp, hT]; exact Nat.le_refl _) (msg := .ref sa) rfl
    (g := { method := m, pc := pc + 7, locals := ls, stack := .ref sa :: .ref T.heap.size :: .ref T.heap.size :: rest, locked := none }) rfl hsize rfl rfl (rest := rest) rfl
    (by rw [hb]; exact d7) (by rw [hb]; exact d10) hout hRframes (by simp only [List.map_cons, List.sum_cons, hcat]; omega) hlocks
  obtain ⟨f1, f2⟩ := vx_frame hsame
  rw [hhp] at f1 f2
  have hWs : s.WarmedH U.vm := State.WarmedH.trans hW0 hW
  have hcl : s.vm.findClass cls = some ce.cls := by
    have h9 := hO.cls
    rw [hvm] at h9
    exact h9
  have hall : s.sameButNew ({ U with vm := s.vm } : State) locs mc ms := by
    subst hA
    obtain ⟨e1, e2⟩ := hsame
    rw [State.setFrames_setFrames] at e1
    have h2 : (T.setVm s.vm).sameButNew ({ U with vm := s.vm } : State) [] (0 + 1) (0 + 6) := ⟨e1, e2⟩
    have h3 := X.same.trans h2
    rw [List.append_nil] at h3
    exact h3.mono hc hs
  refine ⟨U, ?_, .threw T.heap.size, hrun, hend, Or.inr ⟨T.heap.size, rfl, cls, ce, locs, hx U hWs.alike f1 (fun q hq => f2 q hq (fun z hz => nomatch hz)), hce, hO.vm, hcl, hWs, hall, hf⟩⟩
  refine st1 _ ?_
  show Steps p.tables e below (T1.setTop { method := m, pc := pc + 3, locals := ls, stack := .ref T.heap.size :: rest, locked := none }) _
  jvm_step X₁.here [X₁.here.top, hexec, d3', Value.category]
  exact X₁.ldcStringW hexec (own := own) (text := text) (index := is) (a := sa) hown' hstr'.1 hstr'.2
    (g := { method := m, pc := pc + 4, locals := ls, stack := .ref T.heap.size :: .ref T.heap.size :: rest, locked := none }) rfl d4' _ hsteps
end Ends
section Bodies
variable {l : Launch}
theorem vx_ofW {y : MethodName} {ws ws' : List Cond} {rm : Room} {Pc : Array Value → State → Prop} {Qc : Array Value → State → Outcome → State → Prop} {XC : String → State → State → Prop} {mc ms : Nat} {free : Addr → Prop} {cc : ByteArray} {maxL : Nat} {ret : Option FieldType}
    (hy : plainName y.cls = true) (hw : ws = Cond.code y cc maxL ret :: ws')
    (body : ∀ p e s m args below meth c s₁, BodyLoose p l y (headSpec ws rm) cc maxL ret e s m args below meth c s₁ → c.maxLocals = maxL → (∀ x ∈ c.exceptionTable.toList, False) → Pc args s →
      W p l e (headSpec ws rm).room s m args below meth c s.heap [] 0 0 (vx_MQ below Qc XC args s mc ms free) (entryFrame m args maxL)) : vx_Met l y ws rm Pc Qc XC mc ms free := by
  refine MetFree.of_bodyS (code := cc) (maxLocals := maxL) (ret := ret) hy ?_ ?_
  · intro args s m h hn
    obtain ⟨meth, c, h1, h2, h3, h4, h5, h6, -, -⟩ := Cond.code_spec hn (atoms_spec (ws := ws) h _ (by rw [hw]; exact List.mem_cons_self))
    exact ⟨meth, c, h1, h2, h3, h4, h5, h6⟩
  · intro p e s m args below meth c s₁ B hml hP _
    have hh0 : s₁.heap = s.heap := by rw [B.state]; rfl
    have ht : ∀ x ∈ c.exceptionTable.toList, False := by
      obtain ⟨meth9, c9, h1, h2, -, -, -, -, h7, -⟩ := Cond.code_spec B.named (atoms_spec (ws := ws) B.pre _ (by rw [hw]; exact List.mem_cons_self))
      cases Option.some.inj (h1.symm.trans B.method)
      cases Option.some.inj (h2.symm.trans (Stand.of_body B).code)
      intro x hx
      rw [Array.isEmpty_iff.mp h7] at hx
      cases hx
    obtain ⟨t, a1, o, b1, b2, b3⟩ := body p e s m args below meth c s₁ B hml ht hP s₁ hh0 (Stand.of_body B)
    exact ⟨t, o, a1, b1, b2, b3⟩
/-- the table of a body with handlers -/
theorem vx_table {p : Program} {x y : MethodName} {S : Spec} {cc bytes : ByteArray} {maxL maxL' : Nat} {ret ret' : Option FieldType} {e : Env} {s s₁ : State} {m : MethodId} {args : Array Value} {below : List Frame} {meth : Method} {c : Code} {hh : List (Nat × Nat × Nat × Nat)}
    (B : BodyLoose p l y S cc maxL ret e s m args below meth c s₁) (h : (Cond.codeWith y bytes maxL' ret' hh).before args s = true) : c.exceptionTable.toList = tableOf hh := by
  obtain ⟨m9, meth9, c9, hn9, h1, h2, -, -, h6, -⟩ := Cond.codeWith_spec h
  cases Option.some.inj (hn9.symm.trans B.named)
  cases Option.some.inj (h1.symm.trans B.method)
  cases Option.some.inj (h2.symm.trans (Stand.of_body B).code)
  rw [← h6, table_eq]
end Bodies
end VXA
/-! ===== END ===== -/
/-! ===== BEGIN a static call of a method with an exception table ===== -/
section VXS
variable {p : Program} {l : Launch} {e : Env} {R : Room} {s : State} {m : MethodId} {args : Array Value} {below : List Frame} {meth : Method} {c : Code} {T : State} {H : Heap} {locs : List Loc} {cells slots : Nat}
abbrev vx_CSW (R : Room) (s : State) (args : Array Value) (own : String) (index : Nat) (y : MethodName) (bytes : ByteArray) (maxL : Nat) (ret : Option FieldType) (hh : List (Nat × Nat × Nat × Nat)) (ws : List Cond) (rm : Room) (mc ms n : Nat) : Prop :=
  (rm.cells = mc ∧ rm.slots = ms ∧ rm.frames + 1 ≤ R.frames ∧ 8 + (maxL + 11) + rm.locals ≤ R.locals ∧ (∀ w ∈ ws, ∀ (a' : Array Value) (U : State), s.WarmedH U.vm → w.before a' U = true) ∧ Cond.codeWith y bytes maxL ret hh ∈ ws) ∧
  (Cond.codeWith y bytes maxL ret hh).before args s = true ∧ (Cond.initialized y.cls).before args s = true ∧ (y.cls ≠ "java/lang/invoke/MethodHandle" ∧ y.cls ≠ "java/lang/invoke/VarHandle") ∧
  (∀ sig, parseMethodDescriptor y.desc = some sig → n = sig.parameters.length) ∧ (Cond.methodLink own index y).before args s = true ∧ (Cond.static y).before args s = true
theorem vx_cwSW {own : String} {index maxL mc ms : Nat} {y : MethodName} {bytes : ByteArray} {ret : Option FieldType} {hh : List (Nat × Nat × Nat × Nat)} {Ts ws ws' : List Cond} {rm : Room} (n : Nat) (ht : ∀ w ∈ Ts, w.before args s = true) (hT : GoodIn Ts (va_wsS own index y ws)) (hw : ws = Cond.codeWith y bytes maxL ret hh :: ws') (hrc : rm.cells = mc) (hrs : rm.slots = ms)
    (hd : y.cls ≠ "java/lang/invoke/MethodHandle" ∧ y.cls ≠ "java/lang/invoke/VarHandle" ∧ (parseMethodDescriptor y.desc).map (fun d => d.parameters.length) = some n) (hR : rm.frames + 1 ≤ R.frames ∧ 8 + (maxL + 11) + rm.locals ≤ R.locals) :
    vx_CSW R s args own index y bytes maxL ret hh ws rm mc ms n := by
  have ok : ∀ w ∈ va_wsS own index y ws, w.before args s = true := fun w h => ht w (hT w h).1
  have hG : GoodIn Ts ws := fun w h => hT w (by unfold va_wsS; exact List.mem_append_right _ h)
  have hc : Cond.codeWith y bytes maxL ret hh ∈ ws := by rw [hw]; exact List.mem_cons_self
  refine ⟨⟨hrc, hrs, hR.1, hR.2, pay_in ht hG, hc⟩, ht _ (hG _ hc).1, ok _ (by simp [va_wsS]), ⟨hd.1, hd.2.1⟩, fun sig h => ?_, ok _ (by simp [va_wsS]), ok _ (by simp [va_wsS])⟩
  have h2 := hd.2.2
  rw [h] at h2
  exact (Option.some.inj h2).symm
theorem vx_callSW (X : Stand p l e R s m args below meth c T locs cells slots) (hexec : p.tables.exec = Jvm.exec) {own : String} {index : Nat} {y : MethodName} {bytes : ByteArray} {maxL : Nat} {ret : Option FieldType} {hh : List (Nat × Nat × Nat × Nat)}
    (hown : s.vm.findClass own = some m.cls) (hlink : (Cond.methodLink own index y).before args s = true) (hstat : (Cond.static y).before args s = true) (hinit : (Cond.initialized y.cls).before args s = true)
    (hcode : (Cond.codeWith y bytes maxL ret hh).before args s = true) (hy : y.cls ≠ "java/lang/invoke/MethodHandle" ∧ y.cls ≠ "java/lang/invoke/VarHandle")
    {W9 : Nat} {Pre : Pt → Array Value → Prop} {Post : Pt → Array Value → Option Value → Pt → Prop} (hK : Back l R p e below s args y 3 W9 Pre Post)
    {g : JFrame} (hg : g.method = m) (hsize : g.locals.size = c.maxLocals) {argsL rest : List Value} (hlen : ∀ sig, parseMethodDescriptor y.desc = some sig → argsL.length = sig.parameters.length)
    (hstack : g.stack = argsL.reverse ++ rest) (hW : 2 * g.monitorRoom + (rest.map fun v => v.category).sum ≤ W9) (hdg : decode c.code g.pc = .ok (.invokestatic index, 3))
    (hpre : ∀ vm₁, s.WarmedH vm₁ → Pre ⟨T.setVm vm₁, locs, cells, slots⟩ argsL.toArray) :
    ∃ (v : Option Value) (vm₁ : Vm) (B : Pt), s.WarmedH vm₁ ∧ Stand p l e R s m args below meth c B.U B.locs B.cells B.slots ∧ Post ⟨T.setVm vm₁, locs, cells, slots⟩ argsL.toArray v B ∧
      ∀ target, Steps p.tables e below (B.U.setTop { g with pc := g.pc + 3, stack := v.toList ++ rest }) target → Steps p.tables e below (T.setTop g) target := by
  obtain ⟨mk, methM, cM, hnamed, hmethM, -, -, -, -, -, -, hsigM⟩ := Cond.codeWith_spec hcode
  have hstatic : methM.isStatic = true := Cond.static_spec hnamed hmethM hstat
  obtain ⟨kP, hkP, -⟩ := className_of_methodNamed hnamed
  have hinitP : kP.init = .initialized := Cond.initialized_spec (findClass_of_methodNamed hnamed) hkP hinit
  obtain ⟨vm₁, X₁, hstep₁⟩ := X.invokestatic hexec hown hlink hnamed hmethM hstatic hkP hinitP hy (g := g) hg (argsL := argsL) (rest := rest) (hlen _ hsigM) hstack hdg
  obtain ⟨v, B, X', hpost, hsteps⟩ := hK m meth c ⟨T.setVm vm₁, locs, cells, slots⟩ { g with stack := rest } (.invokestatic index) mk argsL.toArray X₁ hg hsize hdg hW (X₁.named hnamed) (hpre vm₁ X₁.warmed)
  exact ⟨v, vm₁, B, X₁.warmed, X', hpost, fun target h => hstep₁ _ fun acts => by rw [doInvoke_state]; exact hsteps.trans h⟩
theorem vx_runSW {y : MethodName} {bytes cc : ByteArray} {maxL nL mc ms n index : Nat} {ret : Option FieldType} {hh : List (Nat × Nat × Nat × Nat)} {ws : List Cond} {rm : Room} {Pc : Array Value → State → Prop} {Qc : Array Value → State → Outcome → State → Prop} {free : Addr → Prop} {Ts : List Cond} {own : String} {As rest : List Value} {g : JFrame}
    (S : CallFix p m c cc nL s args Ts own) (hM : Met l y ws rm Pc Qc mc ms free) (cw : vx_CSW R s args own index y bytes maxL ret hh ws rm mc ms n) (hp : PreS s H Pc As)
    (hg : g.method = m) (hn : As.length = n) (hsize : g.locals.size = nL) (hstack : g.stack = As.reverse ++ rest) (hW : 2 * g.monitorRoom + (rest.map fun v => v.category).sum ≤ 8) (hdg : decode cc g.pc = .ok (.invokestatic index, 3)) (hf : cells + mc ≤ R.cells ∧ slots + ms ≤ R.slots) :
    va_Run p l e R s m args below meth c H locs cells slots mc ms g rest (Qc As.toArray) (free) := by
  obtain ⟨⟨hrc, hrs, hfr, hlo, hws, hcw⟩, hcode, hini, hy, hlen, hl, hstt⟩ := cw
  have hK : Back l R p e below s args y 3 8 (PreOf R mc ms Pc) (PostOf Qc mc ms free) := va_backW (hh := hh) (bytes := bytes) (maxL := maxL) (ret := ret) hM hp.1 hrc hrs hfr hlo hws hcw (fun a' U hW => word_at hW (Or.inl (by first | rfl | simp [Cond.onTables, Cond.keeps, Cond.steady])) hini)
  obtain ⟨hx, hb, hml, ho, -⟩ := S
  intro T hT X
  obtain ⟨v, vm₁, ⟨U', l2, c2, s2⟩, hW₁, X', ⟨g', mk, t, L, e1, e2, hq, h1, hL, h2, h3⟩, st⟩ := vx_callSW X hx (hh := hh) (bytes := bytes) (maxL := maxL) (ret := ret) ho hl hstt hini hcode hy hK hg (hsize.trans hml.symm) (argsL := As) (rest := rest) (fun sig h => hn.trans (hlen sig h)) hstack hW (by rw [hb]; exact hdg)
    (fun vm₁ hW₁ => ⟨hf.1, hf.2, hp.2 (T.setVm vm₁) hT hW₁⟩)
  dsimp only [Pt.U, Pt.locs, Pt.cells, Pt.slots] at X' e1 e2 h1 h2 h3 st
  subst h1; subst h2; subst h3
  exact ⟨v, (T.setVm vm₁).calling g' mk As.toArray, t, U', L, hT, X', hL, e1, e2, hq, st⟩
/-- not caught here, past rows that name other classes: it goes on to the caller -/
theorem vx_outP {p : Program} {l : Launch} {e : Env} {R : Room} {s : State} {m : MethodId} {args : Array Value} {below : List Frame} {meth : Method} {c : Code} {H : Heap} {locs : List Loc} {cells slots : Nat} {free : Addr → Prop} {ls : Array Slot} {rest : List Value} {Qc : Array Value → State → Outcome → State → Prop} {XC : String → State → State → Prop}
    {pc : Nat} {own E : String} {ce : Cell} {q : Addr} {mc ms : Nat} (hown : s.vm.findClass own = some m.cls) (hlocks : meth.locks = false)
    (hpass : ∀ z ∈ c.exceptionTable.toList, covers z pc = false ∨ (z.catchType ≠ 0 ∧ ∃ nm : String, (Cond.classLink own z.catchType nm).before args s = true ∧ va_Nc E nm s)) (hcell : H[q]? = some ce) (hv : ce.vm = .none) (hcl : s.vm.findClass E = some ce.cls)
    (hx : ∀ t : State, t.heap = H → s.vm.Alike t.vm → XC E s t) (hf : ∀ z ∈ locs, free z.base) (hc : cells ≤ mc) (hs : slots ≤ ms) :
    vx_W p l e R s m args below meth c H locs cells slots (vx_MQ below Qc XC args s mc ms free) (F0 m pc ls rest) q := by
  intro T hT X
  have hpl : e.platform.magicAccessors = ({} : Platform).magicAccessors := by rw [X.admits.platform]
  obtain ⟨vm', hW', X', st⟩ := X.outThrough hlocks q (g := F0 m pc ls rest) rfl rfl rfl (cell := ce) (by rw [hT]; exact hcell) (by rw [hv]; rfl)
    (by obtain ⟨k9, h9, -⟩ := Vm.findClass_spec hcl; exact ⟨k9, h9⟩) (fun z hz => by
      rcases hpass z hz with h | ⟨hz0, nm, hl1, hn1⟩
      · exact Or.inl h
      · obtain ⟨c6, hc6, hcl6⟩ := Cond.classLink_spec hown hl1 e.platform hpl
        obtain ⟨a8, b8, h1, h2, h3⟩ := hn1
        cases Option.some.inj (h1.symm.trans hcl)
        cases Option.some.inj (h2.symm.trans hc6)
        exact Or.inr ⟨hz0, _, hcl6, h3⟩)
  obtain ⟨g₀, hfr⟩ := X'.frames_eq
  have hcell9 : ((T.setVm vm').setFrames (.throwing q :: below)).heap[q]? = some ce := by
    show T.heap[q]? = some ce
    rw [hT]; exact hcell
  have hend : Ended ((T.setVm vm').setFrames (.throwing q :: below)) below (.threw q) := State.frames_setFrames _ (State.cur_lt_of_frames hfr)
  refine ⟨(T.setVm vm').setFrames (.throwing q :: below), ?_, .threw q, X'.here.running, hend, Or.inr ⟨q, rfl, E, ce, locs, hx _ hT (X'.ends _).1.alike, hcell9, hv, hcl, (X'.ends _).1, (X'.ends _).2.mono hc hs, hf⟩⟩
  rw [X.pushThrowing_eq]
  exact st
/-- a thing of a world lies in the heap -/
theorem vx_lt {D : va_G} {cl : List vw_C} {ws : va_W} {H1 : Heap} (h : va_P D cl ws H1) {k : Nat} {q : Nat × va_E} (hk : ws[k]? = some q) : q.1 < H1.size := (h k q hk).lt
end VXS
/-! ===== END ===== -/
/-! ===== BEGIN methods with a table of their own: called by a name, returning or throwing ===== -/
section VXH
/-! vx_backW, vx_callVX, vx_callSX, vx_callVW, vx_runVW, vx_runVX, vx_runSX, vx_ofWH follow the same proofs as their sisters above (Free/Laws.lean, Shelf42/LK1.lean); vx_outP calls Shelf42/NT130.lean (outThrough). -/
section
variable {l : Launch} {R : Room} {p : Program} {e : Env} {below : List Frame} {s : State} {sargs : Array Value} {y : MethodName} {len W9 : Nat}
theorem vx_backW {ws : List Cond} {rm : Room} {Pc : Array Value → State → Prop} {Qc : Array Value → State → Outcome → State → Prop} {XC : String → State → State → Prop} {mc ms : Nat} {free : Addr → Prop} {bytes : ByteArray} {maxL : Nat} {ret : Option FieldType} {hh : List (Nat × Nat × Nat × Nat)}
    (hM : vx_Met l y ws rm Pc Qc XC mc ms free) (hblind : FrameBlind Pc) (hrc : rm.cells = mc) (hrs : rm.slots = ms)
    (hframes : rm.frames + 1 ≤ R.frames) (hlocals : W9 + (maxL + 11) + rm.locals ≤ R.locals)
    (hws : ∀ w ∈ ws, ∀ a' U, s.WarmedH U.vm → w.before a' U = true) (hcode : Cond.codeWith y bytes maxL ret hh ∈ ws) (hinit : ∀ a' U, s.WarmedH U.vm → (Cond.initialized y.cls).before a' U = true) :
    vx_Back l R p e below s sargs y len W9 (PreOf R mc ms Pc) (PostOf Qc mc ms free) (vx_Post XC mc ms free) := by
  intro m meth c A g ig mk a X hg hsize hdg hW hn hp
  have h1 : (headSpec ws rm).pre.before a A.U = true := atoms_intro fun w hw => hws w hw _ _ X.warmed
  have h2 : (Cond.codeWith y bytes maxL ret hh).before a A.U = true := hws _ hcode _ _ X.warmed
  have h3 : (Cond.initialized y.cls).before a A.U = true := hinit _ _ X.warmed
  have h4 : A.cells + (headSpec ws rm).room.cells ≤ R.cells := by rw [show (headSpec ws rm).room.cells = mc from hrc]; exact hp.1
  have h5 : A.slots + (headSpec ws rm).room.slots ≤ R.slots := by rw [show (headSpec ws rm).room.slots = ms from hrs]; exact hp.2.1
  have hPc : Pc a (A.U.calling g mk a) := hblind _ _ _ _ hp.2.2
  obtain ⟨U, Ls, c0, s0⟩ := A
  dsimp only [Pt.U, Pt.locs, Pt.cells, Pt.slots] at h1 h2 h3 h4 h5 X hn hPc ⊢
  obtain ⟨m9, methY, cY, hn9, hmY, hcY, -, hlY, -⟩ := Cond.codeWith_spec h2
  cases Option.some.inj (hn9.symm.trans hn)
  obtain ⟨kY, hkY, -⟩ := className_of_methodNamed hn
  have hinitY : kY.init = .initialized := Cond.initialized_spec (findClass_of_methodNamed hn) hkY h3
  have h : At U g.method c below := by rw [hg]; exact X.here
  have hlocals9 : W9 + (maxL + 11) + (headSpec ws rm).room.locals ≤ R.locals := hlocals
  have happ : (headSpec ws rm).appliesLoose y e.platform (U.calling g mk a) = true :=
    Spec.appliesLoose_calling (g := g) h hdg hn hkY hinitY
      (X.room_calling (g := g) (R' := (headSpec ws rm).room) hsize hmY hcY hframes (by rw [hlY]; omega) h4 h5) h1
  obtain ⟨mid, hmid⟩ := h.above
  have hfr : (U.setTop g).frames = (.java g :: mid) ++ below := by rw [State.frames_setTop' g h.top, hmid]; rfl
  obtain ⟨o, s₂, hsteps, -, hend, hq⟩ := Steps.callFree hM p X.admits X.cas X.clock (acts := []) hfr happ hPc trivial
  have hq' : vx_Q Qc XC mc ms free a (U.calling g mk a) o s₂ := hq
  rw [State.frames_setTop' g h.top] at hend
  obtain ⟨g₀, hg0⟩ := Option.isSome_iff_exists.mp h.top
  obtain ⟨r, hr⟩ := State.topJava?_eq_some.mp hg0
  have hr' : (({ U with heap := s₂.heap, slotsUsed := s₂.slotsUsed } : State).setVm s₂.vm).frames = .java g₀ :: r := hr
  rcases hq' with ⟨hqc, L, hfe, hL⟩ | ⟨q, rfl, E, ce, L, hx, hce, hcv, hcl, hW₂, hsm, hL⟩
  · obtain ⟨⟨v, rfl⟩, hW₂, e2, q2, q3, q4, q5, q6⟩ := id hfe
    have e3 : s₂ = ({ (U.calling g mk a).setFrames s₂.frames with heap := s₂.heap, slotsUsed := s₂.slotsUsed } : State).setVm s₂.vm := by
      have : s₂ = ({ s₂ with vm := (U.calling g mk a).vm } : State).setVm s₂.vm := rfl
      rw [e2] at this
      exact this
    obtain ⟨c₂, i₂, len₂, hc₂, hd₂, hf₂⟩ := hend
    have hW' : U.WarmedH s₂.vm := hW₂
    have hcc : c₂ = c := by
      have h1 : s₂.code? g.method = U.code? g.method := by
        rw [State.code?_eq, State.code?_eq, hW'.alike.method?]
      exact Option.some.inj (hc₂.symm.trans (h1.trans h.code))
    subst hcc
    have hlen : len₂ = len := by rw [hdg] at hd₂; cases hd₂; rfl
    subst hlen
    have hs₂ : s₂ = (({ U with heap := s₂.heap, slotsUsed := s₂.slotsUsed } : State).setVm s₂.vm).setTop { g with pc := g.pc + len₂, stack := v.toList ++ g.stack } := by
      refine e3.trans ?_
      rw [hf₂, State.calling_eq h.top, State.setFrames_setFrames, State.setTop_of_frames _ hr', hr]
      rfl
    have hsame : U.sameButNew ({ U with heap := s₂.heap, slotsUsed := s₂.slotsUsed } : State) L mc ms := by
      refine ⟨?_, q2, q3, q4, q5, q6⟩
      obtain ⟨t, ht, -⟩ := State.frames_cons hr
      show ({ U with heap := s₂.heap, slotsUsed := s₂.slotsUsed } : State) = { U.setFrames U.frames with heap := s₂.heap, slotsUsed := s₂.slotsUsed }
      rw [State.setFrames_self ht]
    subst hg
    refine Or.inl ⟨v, ⟨(({ U with heap := s₂.heap, slotsUsed := s₂.slotsUsed } : State).setVm s₂.vm), Ls ++ L, c0 + mc, s0 + ms⟩,
      ⟨X.admits, X.cas, X.clock, X.frames, X.room, X.hears, X.method, X.code, (X.here.setHeapUsed s₂.heap s₂.slotsUsed).setVm hW'.alike, X.tail, State.WarmedH.trans X.warmed hW', X.limits, X.bytes, X.same.trans (hsame.setVm s.vm)⟩,
      ⟨g, mk, s₂, L, rfl, rfl, hqc, rfl, hL, rfl, rfl⟩, ?_⟩
    show Steps p.tables e below _ ((({ U with heap := s₂.heap, slotsUsed := s₂.slotsUsed } : State).setVm s₂.vm).setTop { g with pc := g.pc + len₂, stack := v.toList ++ g.stack })
    rw [← hs₂]
    exact hsteps
  · obtain ⟨e2, q2, q3, q4, q5, q6⟩ := id hsm
    have e3 : s₂ = ({ (U.calling g mk a).setFrames s₂.frames with heap := s₂.heap, slotsUsed := s₂.slotsUsed } : State).setVm s₂.vm := by
      have : s₂ = ({ s₂ with vm := (U.calling g mk a).vm } : State).setVm s₂.vm := rfl
      rw [e2] at this
      exact this
    have hf₂ : s₂.frames = .throwing q :: .java g :: U.frames.tail := hend
    have hW' : U.WarmedH s₂.vm := hW₂
    have hs₂ : s₂ = ((({ U with heap := s₂.heap, slotsUsed := s₂.slotsUsed } : State).setVm s₂.vm).setTop g).pushFrame (.throwing q) := by
      refine e3.trans ?_
      rw [hf₂, State.calling_eq h.top, State.setFrames_setFrames, State.pushFrame, State.frames_setTop _ hr', State.setTop_of_frames _ hr', State.setFrames_setFrames, hr]
      rfl
    have hsame : U.sameButNew ({ U with heap := s₂.heap, slotsUsed := s₂.slotsUsed } : State) L mc ms := by
      refine ⟨?_, q2, q3, q4, q5, q6⟩
      obtain ⟨t, ht, -⟩ := State.frames_cons hr
      show ({ U with heap := s₂.heap, slotsUsed := s₂.slotsUsed } : State) = { U.setFrames U.frames with heap := s₂.heap, slotsUsed := s₂.slotsUsed }
      rw [State.setFrames_self ht]
    subst hg
    refine Or.inr ⟨q, ⟨(({ U with heap := s₂.heap, slotsUsed := s₂.slotsUsed } : State).setVm s₂.vm), Ls ++ L, c0 + mc, s0 + ms⟩,
      ⟨X.admits, X.cas, X.clock, X.frames, X.room, X.hears, X.method, X.code, (X.here.setHeapUsed s₂.heap s₂.slotsUsed).setVm hW'.alike, X.tail, State.WarmedH.trans X.warmed hW', X.limits, X.bytes, X.same.trans (hsame.setVm s.vm)⟩,
      ⟨g, mk, s₂, L, E, ce, rfl, rfl, hx, hce, hcv, hcl, rfl, hL, rfl, rfl⟩, ?_⟩
    show Steps p.tables e below _ (((({ U with heap := s₂.heap, slotsUsed := s₂.slotsUsed } : State).setVm s₂.vm).setTop g).pushFrame (.throwing q))
    rw [← hs₂]
    exact hsteps
end
variable {p : Program} {l : Launch} {e : Env} {R : Room} {s : State} {m : MethodId} {args : Array Value} {below : List Frame} {meth : Method} {c : Code} {T : State} {H : Heap} {locs : List Loc} {cells slots : Nat}
theorem vx_callVX (X : Stand p l e R s m args below meth c T locs cells slots) (hexec : p.tables.exec = Jvm.exec) {own C : String} {index : Nat} {y : MethodName} {bytes : ByteArray} {maxL : Nat} {ret : Option FieldType} {hh : List (Nat × Nat × Nat × Nat)}
    (hown : s.vm.findClass own = some m.cls) (hlink : (Cond.methodLink own index y).before args s = true) (hinst : (Cond.instanceMethod y).before args s = true) (hsel : (Cond.selects C y y).before args s = true)
    (hcode : (Cond.codeWith y bytes maxL ret hh).before args s = true) (hy : y.cls ≠ "java/lang/invoke/MethodHandle" ∧ y.cls ≠ "java/lang/invoke/VarHandle")
    {W9 : Nat} {Pre : Pt → Array Value → Prop} {Post : Pt → Array Value → Option Value → Pt → Prop} {PostX : Pt → Array Value → Addr → Pt → Prop} (hK : vx_Back l R p e below s args y 3 W9 Pre Post PostX)
    {b : Addr} {cellB : Cell} (hcell : T.heap[b]? = some cellB) (hobj : cellB.vm.isStatics = false) (hcls : s.vm.findClass C = some cellB.cls)
    {g : JFrame} (hg : g.method = m) (hsize : g.locals.size = c.maxLocals) {argsL rest : List Value} (hlen : ∀ sig, parseMethodDescriptor y.desc = some sig → argsL.length = sig.parameters.length)
    (hstack : g.stack = argsL.reverse ++ .ref b :: rest) (hW : 2 * g.monitorRoom + (rest.map fun v => v.category).sum ≤ W9) (hdg : decode c.code g.pc = .ok (.invokevirtual index, 3))
    (hpre : ∀ vm₁, s.WarmedH vm₁ → Pre ⟨T.setVm vm₁, locs, cells, slots⟩ (Value.ref b :: argsL).toArray) :
    (∃ (v : Option Value) (vm₁ : Vm) (B : Pt), s.WarmedH vm₁ ∧ Stand p l e R s m args below meth c B.U B.locs B.cells B.slots ∧ Post ⟨T.setVm vm₁, locs, cells, slots⟩ (Value.ref b :: argsL).toArray v B ∧
      ∀ target, Steps p.tables e below (B.U.setTop { g with pc := g.pc + 3, stack := v.toList ++ rest }) target → Steps p.tables e below (T.setTop g) target) ∨
    (∃ (q : Addr) (vm₁ : Vm) (B : Pt), s.WarmedH vm₁ ∧ Stand p l e R s m args below meth c B.U B.locs B.cells B.slots ∧ PostX ⟨T.setVm vm₁, locs, cells, slots⟩ (Value.ref b :: argsL).toArray q B ∧
      Steps p.tables e below (T.setTop g) ((B.U.setTop { g with stack := rest }).pushFrame (.throwing q))) := by
  obtain ⟨mk, methM, hnamed, hmethM, hstM, habM⟩ := Cond.instanceMethod_spec hinst
  obtain ⟨m8, methM', cM, hn8, hmethM', -, -, -, -, -, -, hsigM⟩ := Cond.codeWith_spec hcode
  cases Option.some.inj (hn8.symm.trans hnamed)
  cases hmethM.symm.trans hmethM'
  obtain ⟨c2, r2, m2, q1, q2, q3, q4, kP, hkP, hkPi⟩ := Cond.selects_spec hsel
  cases hcls.symm.trans q1
  cases (State.methodFound?_of_named hnamed hy).symm.trans q2
  cases hnamed.symm.trans q3
  have hselP : selectMethod e.platform s.vm cellB.cls mk = .method mk := by rw [Launch.admits_selectMethod X.admits]; exact q4
  obtain ⟨vm₁, X₁, hstep₁⟩ := X.invokevirtual hexec hown hlink hnamed hmethM hstM hkP hkPi hy (a := b) (cell := cellB) hcell
    (fun z h => by rw [h] at hobj; cases hobj) hselP hmethM habM hkP hkPi (g := g) hg (argsL := argsL) (rest := rest) (hlen _ hsigM) hstack hdg
  rcases hK m meth c ⟨T.setVm vm₁, locs, cells, slots⟩ { g with stack := rest } (.invokevirtual index) mk (Value.ref b :: argsL).toArray X₁ hg hsize hdg hW (X₁.named hnamed) (hpre vm₁ X₁.warmed) with ⟨v, B, X', hpost, hsteps⟩ | ⟨q, B, X', hpost, hsteps⟩
  · exact Or.inl ⟨v, vm₁, B, X₁.warmed, X', hpost, fun target h => hstep₁ _ fun acts => by rw [doInvoke_state]; exact hsteps.trans h⟩
  · exact Or.inr ⟨q, vm₁, B, X₁.warmed, X', hpost, hstep₁ _ fun acts => by rw [doInvoke_state]; exact hsteps⟩
theorem vx_callSX (X : Stand p l e R s m args below meth c T locs cells slots) (hexec : p.tables.exec = Jvm.exec) {own : String} {index : Nat} {y : MethodName} {bytes : ByteArray} {maxL : Nat} {ret : Option FieldType} {hh : List (Nat × Nat × Nat × Nat)}
    (hown : s.vm.findClass own = some m.cls) (hlink : (Cond.methodLink own index y).before args s = true) (hstat : (Cond.static y).before args s = true) (hinit : (Cond.initialized y.cls).before args s = true)
    (hcode : (Cond.codeWith y bytes maxL ret hh).before args s = true) (hy : y.cls ≠ "java/lang/invoke/MethodHandle" ∧ y.cls ≠ "java/lang/invoke/VarHandle")
    {W9 : Nat} {Pre : Pt → Array Value → Prop} {Post : Pt → Array Value → Option Value → Pt → Prop} {PostX : Pt → Array Value → Addr → Pt → Prop} (hK : vx_Back l R p e below s args y 3 W9 Pre Post PostX)
    {g : JFrame} (hg : g.method = m) (hsize : g.locals.size = c.maxLocals) {argsL rest : List Value} (hlen : ∀ sig, parseMethodDescriptor y.desc = some sig → argsL.length = sig.parameters.length)
    (hstack : g.stack = argsL.reverse ++ rest) (hW : 2 * g.monitorRoom + (rest.map fun v => v.category).sum ≤ W9) (hdg : decode c.code g.pc = .ok (.invokestatic index, 3))
    (hpre : ∀ vm₁, s.WarmedH vm₁ → Pre ⟨T.setVm vm₁, locs, cells, slots⟩ argsL.toArray) :
    (∃ (v : Option Value) (vm₁ : Vm) (B : Pt), s.WarmedH vm₁ ∧ Stand p l e R s m args below meth c B.U B.locs B.cells B.slots ∧ Post ⟨T.setVm vm₁, locs, cells, slots⟩ argsL.toArray v B ∧
      ∀ target, Steps p.tables e below (B.U.setTop { g with pc := g.pc + 3, stack := v.toList ++ rest }) target → Steps p.tables e below (T.setTop g) target) ∨
    (∃ (q : Addr) (vm₁ : Vm) (B : Pt), s.WarmedH vm₁ ∧ Stand p l e R s m args below meth c B.U B.locs B.cells B.slots ∧ PostX ⟨T.setVm vm₁, locs, cells, slots⟩ argsL.toArray q B ∧
      Steps p.tables e below (T.setTop g) ((B.U.setTop { g with stack := rest }).pushFrame (.throwing q))) := by
  obtain ⟨mk, methM, cM, hnamed, hmethM, -, -, -, -, -, -, hsigM⟩ := Cond.codeWith_spec hcode
  have hstatic : methM.isStatic = true := Cond.static_spec hnamed hmethM hstat
  obtain ⟨kP, hkP, -⟩ := className_of_methodNamed hnamed
  have hinitP : kP.init = .initialized := Cond.initialized_spec (findClass_of_methodNamed hnamed) hkP hinit
  obtain ⟨vm₁, X₁, hstep₁⟩ := X.invokestatic hexec hown hlink hnamed hmethM hstatic hkP hinitP hy (g := g) hg (argsL := argsL) (rest := rest) (hlen _ hsigM) hstack hdg
  rcases hK m meth c ⟨T.setVm vm₁, locs, cells, slots⟩ { g with stack := rest } (.invokestatic index) mk argsL.toArray X₁ hg hsize hdg hW (X₁.named hnamed) (hpre vm₁ X₁.warmed) with ⟨v, B, X', hpost, hsteps⟩ | ⟨q, B, X', hpost, hsteps⟩
  · exact Or.inl ⟨v, vm₁, B, X₁.warmed, X', hpost, fun target h => hstep₁ _ fun acts => by rw [doInvoke_state]; exact hsteps.trans h⟩
  · exact Or.inr ⟨q, vm₁, B, X₁.warmed, X', hpost, hstep₁ _ fun acts => by rw [doInvoke_state]; exact hsteps⟩
theorem vx_callVW (X : Stand p l e R s m args below meth c T locs cells slots) (hexec : p.tables.exec = Jvm.exec) {own C : String} {index : Nat} {y : MethodName} {bytes : ByteArray} {maxL : Nat} {ret : Option FieldType} {hh : List (Nat × Nat × Nat × Nat)}
    (hown : s.vm.findClass own = some m.cls) (hlink : (Cond.methodLink own index y).before args s = true) (hinst : (Cond.instanceMethod y).before args s = true) (hsel : (Cond.selects C y y).before args s = true)
    (hcode : (Cond.codeWith y bytes maxL ret hh).before args s = true) (hy : y.cls ≠ "java/lang/invoke/MethodHandle" ∧ y.cls ≠ "java/lang/invoke/VarHandle")
    {W9 : Nat} {Pre : Pt → Array Value → Prop} {Post : Pt → Array Value → Option Value → Pt → Prop} (hK : Back l R p e below s args y 3 W9 Pre Post)
    {b : Addr} {cellB : Cell} (hcell : T.heap[b]? = some cellB) (hobj : cellB.vm.isStatics = false) (hcls : s.vm.findClass C = some cellB.cls)
    {g : JFrame} (hg : g.method = m) (hsize : g.locals.size = c.maxLocals) {argsL rest : List Value} (hlen : ∀ sig, parseMethodDescriptor y.desc = some sig → argsL.length = sig.parameters.length)
    (hstack : g.stack = argsL.reverse ++ .ref b :: rest) (hW : 2 * g.monitorRoom + (rest.map fun v => v.category).sum ≤ W9) (hdg : decode c.code g.pc = .ok (.invokevirtual index, 3))
    (hpre : ∀ vm₁, s.WarmedH vm₁ → Pre ⟨T.setVm vm₁, locs, cells, slots⟩ (Value.ref b :: argsL).toArray) :
    ∃ (v : Option Value) (vm₁ : Vm) (B : Pt), s.WarmedH vm₁ ∧ Stand p l e R s m args below meth c B.U B.locs B.cells B.slots ∧ Post ⟨T.setVm vm₁, locs, cells, slots⟩ (Value.ref b :: argsL).toArray v B ∧
      ∀ target, Steps p.tables e below (B.U.setTop { g with pc := g.pc + 3, stack := v.toList ++ rest }) target → Steps p.tables e below (T.setTop g) target := by
  obtain ⟨mk, methM, hnamed, hmethM, hstM, habM⟩ := Cond.instanceMethod_spec hinst
  obtain ⟨m8, methM', cM, hn8, hmethM', -, -, -, -, -, -, hsigM⟩ := Cond.codeWith_spec hcode
  cases Option.some.inj (hn8.symm.trans hnamed)
  cases hmethM.symm.trans hmethM'
  obtain ⟨c2, r2, m2, q1, q2, q3, q4, kP, hkP, hkPi⟩ := Cond.selects_spec hsel
  cases hcls.symm.trans q1
  cases (State.methodFound?_of_named hnamed hy).symm.trans q2
  cases hnamed.symm.trans q3
  have hselP : selectMethod e.platform s.vm cellB.cls mk = .method mk := by rw [Launch.admits_selectMethod X.admits]; exact q4
  obtain ⟨vm₁, X₁, hstep₁⟩ := X.invokevirtual hexec hown hlink hnamed hmethM hstM hkP hkPi hy (a := b) (cell := cellB) hcell
    (fun z h => by rw [h] at hobj; cases hobj) hselP hmethM habM hkP hkPi (g := g) hg (argsL := argsL) (rest := rest) (hlen _ hsigM) hstack hdg
  obtain ⟨v, B, X', hpost, hsteps⟩ := hK m meth c ⟨T.setVm vm₁, locs, cells, slots⟩ { g with stack := rest } (.invokevirtual index) mk (Value.ref b :: argsL).toArray X₁ hg hsize hdg hW (X₁.named hnamed) (hpre vm₁ X₁.warmed)
  exact ⟨v, vm₁, B, X₁.warmed, X', hpost, fun target h => hstep₁ _ fun acts => by rw [doInvoke_state]; exact hsteps.trans h⟩
abbrev vx_CVW (R : Room) (s : State) (args : Array Value) (own C : String) (index : Nat) (y : MethodName) (bytes : ByteArray) (maxL : Nat) (ret : Option FieldType) (hh : List (Nat × Nat × Nat × Nat)) (ws : List Cond) (rm : Room) (mc ms n : Nat) : Prop :=
  (rm.cells = mc ∧ rm.slots = ms ∧ rm.frames + 1 ≤ R.frames ∧ 8 + (maxL + 11) + rm.locals ≤ R.locals ∧ (∀ w ∈ ws, ∀ (a' : Array Value) (U : State), s.WarmedH U.vm → w.before a' U = true) ∧ Cond.codeWith y bytes maxL ret hh ∈ ws) ∧
  (Cond.codeWith y bytes maxL ret hh).before args s = true ∧ (Cond.initialized y.cls).before args s = true ∧ (y.cls ≠ "java/lang/invoke/MethodHandle" ∧ y.cls ≠ "java/lang/invoke/VarHandle") ∧
  (∀ sig, parseMethodDescriptor y.desc = some sig → n = sig.parameters.length) ∧ (Cond.methodLink own index y).before args s = true ∧ (Cond.instanceMethod y).before args s = true ∧ (Cond.selects C y y).before args s = true
theorem vx_cwVW {own C : String} {index maxL mc ms : Nat} {y : MethodName} {bytes : ByteArray} {ret : Option FieldType} {hh : List (Nat × Nat × Nat × Nat)} {Ts ws ws' : List Cond} {rm : Room} (n : Nat) (ht : ∀ w ∈ Ts, w.before args s = true) (hT : GoodIn Ts (wsV own index C y ws)) (hw : ws = Cond.codeWith y bytes maxL ret hh :: ws') (hrc : rm.cells = mc) (hrs : rm.slots = ms)
    (hd : y.cls = C ∧ y.cls ≠ "java/lang/invoke/MethodHandle" ∧ y.cls ≠ "java/lang/invoke/VarHandle" ∧ (parseMethodDescriptor y.desc).map (fun d => d.parameters.length) = some n) (hR : rm.frames + 1 ≤ R.frames ∧ 8 + (maxL + 11) + rm.locals ≤ R.locals) :
    vx_CVW R s args own C index y bytes maxL ret hh ws rm mc ms n := by
  obtain ⟨hC, hd⟩ := hd
  subst hC
  have ok : ∀ w ∈ wsV own index y.cls y ws, w.before args s = true := fun w h => ht w (hT w h).1
  have hG : GoodIn Ts ws := fun w h => hT w (by unfold wsV; exact List.mem_append_right _ h)
  have hc : Cond.codeWith y bytes maxL ret hh ∈ ws := by rw [hw]; exact List.mem_cons_self
  refine ⟨⟨hrc, hrs, hR.1, hR.2, pay_in ht hG, hc⟩, ht _ (hG _ hc).1, ok _ (by simp [wsV]), ⟨hd.1, hd.2.1⟩, fun sig h => ?_, ok _ (by simp [wsV]), ok _ (by simp [wsV]), ok _ (by simp [wsV])⟩
  have h2 := hd.2.2
  rw [h] at h2
  exact (Option.some.inj h2).symm
theorem vx_runVW {y : MethodName} {bytes cc : ByteArray} {maxL nL mc ms n index : Nat} {ret : Option FieldType} {hh : List (Nat × Nat × Nat × Nat)} {ws : List Cond} {rm : Room} {Pc : Array Value → State → Prop} {Qc : Array Value → State → Outcome → State → Prop} {free : Addr → Prop} {Ts : List Cond} {own C : String} {b : Addr} {As rest : List Value} {g : JFrame}
    (S : CallFix p m c cc nL s args Ts own) (hM : Met l y ws rm Pc Qc mc ms free) (cw : vx_CVW R s args own C index y bytes maxL ret hh ws rm mc ms n) (hp : PreV s H C b Pc As)
    (hg : g.method = m) (hn : As.length = n) (hsize : g.locals.size = nL) (hstack : g.stack = As.reverse ++ .ref b :: rest) (hW : 2 * g.monitorRoom + (rest.map fun v => v.category).sum ≤ 8) (hdg : decode cc g.pc = .ok (.invokevirtual index, 3)) (hf : cells + mc ≤ R.cells ∧ slots + ms ≤ R.slots) :
    va_Run p l e R s m args below meth c H locs cells slots mc ms g rest (Qc (Value.ref b :: As).toArray) free := by
  obtain ⟨⟨hrc, hrs, hfr, hlo, hws, hcw⟩, hcode, hini, hy, hlen, hl, hin, hse⟩ := cw
  have hK : Back l R p e below s args y 3 8 (PreOf R mc ms Pc) (PostOf Qc mc ms free) := va_backW (hh := hh) (bytes := bytes) (maxL := maxL) (ret := ret) hM hp.1 hrc hrs hfr hlo hws hcw (fun a' U hW => word_at hW (Or.inl (by first | rfl | simp [Cond.onTables, Cond.keeps, Cond.steady])) hini)
  obtain ⟨hx, hb, hml, ho, -⟩ := S
  obtain ⟨-, ⟨cellB, hcB, hoB, hclB⟩, hPc⟩ := hp
  intro T hT X
  obtain ⟨v, vm₁, ⟨U', l2, c2, s2⟩, hW₁, X', ⟨g', mk, t, L, e1, e2, hq, h1, hL, h2, h3⟩, st⟩ := vx_callVW X hx (C := C) (hh := hh) (bytes := bytes) (maxL := maxL) (ret := ret) ho hl hin hse hcode hy hK (by rw [hT]; exact hcB) hoB hclB hg (hsize.trans hml.symm) (argsL := As) (rest := rest) (fun sig h => hn.trans (hlen sig h)) hstack hW (by rw [hb]; exact hdg)
    (fun vm₁ hW₁ => ⟨hf.1, hf.2, hPc (T.setVm vm₁) hT hW₁⟩)
  dsimp only [Pt.U, Pt.locs, Pt.cells, Pt.slots] at X' e1 e2 h1 h2 h3 st
  subst h1; subst h2; subst h3
  exact ⟨v, (T.setVm vm₁).calling g' mk (Value.ref b :: As).toArray, t, U', L, hT, X', hL, e1, e2, hq, st⟩
section
variable {y : MethodName} {bytes cc : ByteArray} {maxL nL mc ms n index : Nat} {ret : Option FieldType} {ws : List Cond} {rm : Room} {Pc : Array Value → State → Prop} {Qc : Array Value → State → Outcome → State → Prop} {XC : String → State → State → Prop} {free : Addr → Prop} {Ts : List Cond} {own C : String} {b : Addr} {As rest : List Value} {g : JFrame}
theorem vx_runVX {hh : List (Nat × Nat × Nat × Nat)} (S : CallFix p m c cc nL s args Ts own) (hM : vx_Met l y ws rm Pc Qc XC mc ms free) (cw : vx_CVW R s args own C index y bytes maxL ret hh ws rm mc ms n) (hp : PreV s H C b Pc As)
    (hg : g.method = m) (hn : As.length = n) (hsize : g.locals.size = nL) (hstack : g.stack = As.reverse ++ .ref b :: rest) (hW : 2 * g.monitorRoom + (rest.map fun v => v.category).sum ≤ 8) (hdg : decode cc g.pc = .ok (.invokevirtual index, 3)) (hf : cells + mc ≤ R.cells ∧ slots + ms ≤ R.slots) :
    vx_Run p l e R s m args below meth c H locs cells slots mc ms g rest (Qc (Value.ref b :: As).toArray) XC free := by
  obtain ⟨⟨hrc, hrs, hfr, hlo, hws, hcw⟩, hcode, hini, hy, hlen, hl, hin, hse⟩ := cw
  have hK : vx_Back l R p e below s args y 3 8 (PreOf R mc ms Pc) (PostOf Qc mc ms free) (vx_Post XC mc ms free) := vx_backW (hh := hh) (bytes := bytes) (maxL := maxL) (ret := ret) hM hp.1 hrc hrs hfr hlo hws hcw (fun a' U hW => word_at hW (Or.inl (by first | rfl | simp [Cond.onTables, Cond.keeps, Cond.steady])) hini)
  obtain ⟨hx, hb, hml, ho, -⟩ := S
  obtain ⟨-, ⟨cellB, hcB, hoB, hclB⟩, hPc⟩ := hp
  intro T hT X
  rcases vx_callVX X hx (C := C) (hh := hh) (bytes := bytes) (maxL := maxL) (ret := ret) ho hl hin hse hcode hy hK (by rw [hT]; exact hcB) hoB hclB hg (hsize.trans hml.symm) (argsL := As) (rest := rest) (fun sig h => hn.trans (hlen sig h)) hstack hW (by rw [hb]; exact hdg)
    (fun vm₁ hW₁ => ⟨hf.1, hf.2, hPc (T.setVm vm₁) hT hW₁⟩) with ⟨v, vm₁, ⟨U', l2, c2, s2⟩, hW₁, X', ⟨g', mk, t, L, e1, e2, hq, h1, hL, h2, h3⟩, st⟩ | ⟨q, vm₁, ⟨U', l2, c2, s2⟩, hW₁, X', ⟨g', mk, t, L, E, ce, e1, e2, hq, hce, hcv, hcl, h1, hL, h2, h3⟩, st⟩
  · dsimp only [Pt.U, Pt.locs, Pt.cells, Pt.slots] at X' e1 e2 h1 h2 h3 st
    subst h1; subst h2; subst h3
    exact Or.inl ⟨v, (T.setVm vm₁).calling g' mk (Value.ref b :: As).toArray, t, U', L, hT, X', hL, e1, e2, hq, st⟩
  · dsimp only [Pt.U, Pt.locs, Pt.cells, Pt.slots] at X' e1 e2 h1 h2 h3 st hcl
    subst h1; subst h2; subst h3
    exact Or.inr ⟨q, (T.setVm vm₁).calling g' mk (Value.ref b :: As).toArray, t, U', L, E, ce, hT, X', hL, e1, e2, hq, hce, hcv, vx_cls hW₁ hcl, st⟩
theorem vx_runSX {hh : List (Nat × Nat × Nat × Nat)} (S : CallFix p m c cc nL s args Ts own) (hM : vx_Met l y ws rm Pc Qc XC mc ms free) (cw : vx_CSW R s args own index y bytes maxL ret hh ws rm mc ms n) (hp : PreS s H Pc As)
    (hg : g.method = m) (hn : As.length = n) (hsize : g.locals.size = nL) (hstack : g.stack = As.reverse ++ rest) (hW : 2 * g.monitorRoom + (rest.map fun v => v.category).sum ≤ 8) (hdg : decode cc g.pc = .ok (.invokestatic index, 3)) (hf : cells + mc ≤ R.cells ∧ slots + ms ≤ R.slots) :
    vx_Run p l e R s m args below meth c H locs cells slots mc ms g rest (Qc As.toArray) XC free := by
  obtain ⟨⟨hrc, hrs, hfr, hlo, hws, hcw⟩, hcode, hini, hy, hlen, hl, hstt⟩ := cw
  have hK : vx_Back l R p e below s args y 3 8 (PreOf R mc ms Pc) (PostOf Qc mc ms free) (vx_Post XC mc ms free) := vx_backW (hh := hh) (bytes := bytes) (maxL := maxL) (ret := ret) hM hp.1 hrc hrs hfr hlo hws hcw (fun a' U hW => word_at hW (Or.inl (by first | rfl | simp [Cond.onTables, Cond.keeps, Cond.steady])) hini)
  obtain ⟨hx, hb, hml, ho, -⟩ := S
  intro T hT X
  rcases vx_callSX X hx (hh := hh) (bytes := bytes) (maxL := maxL) (ret := ret) ho hl hstt hini hcode hy hK hg (hsize.trans hml.symm) (argsL := As) (rest := rest) (fun sig h => hn.trans (hlen sig h)) hstack hW (by rw [hb]; exact hdg)
    (fun vm₁ hW₁ => ⟨hf.1, hf.2, hp.2 (T.setVm vm₁) hT hW₁⟩) with ⟨v, vm₁, ⟨U', l2, c2, s2⟩, hW₁, X', ⟨g', mk, t, L, e1, e2, hq, h1, hL, h2, h3⟩, st⟩ | ⟨q, vm₁, ⟨U', l2, c2, s2⟩, hW₁, X', ⟨g', mk, t, L, E, ce, e1, e2, hq, hce, hcv, hcl, h1, hL, h2, h3⟩, st⟩
  · dsimp only [Pt.U, Pt.locs, Pt.cells, Pt.slots] at X' e1 e2 h1 h2 h3 st
    subst h1; subst h2; subst h3
    exact Or.inl ⟨v, (T.setVm vm₁).calling g' mk As.toArray, t, U', L, hT, X', hL, e1, e2, hq, st⟩
  · dsimp only [Pt.U, Pt.locs, Pt.cells, Pt.slots] at X' e1 e2 h1 h2 h3 st hcl
    subst h1; subst h2; subst h3
    exact Or.inr ⟨q, (T.setVm vm₁).calling g' mk As.toArray, t, U', L, E, ce, hT, X', hL, e1, e2, hq, hce, hcv, vx_cls hW₁ hcl, st⟩
end
end VXH
theorem vx_ofWH {l : Launch} {y : MethodName} {ws ws' : List Cond} {rm : Room} {Pc : Array Value → State → Prop} {Qc : Array Value → State → Outcome → State → Prop} {XC : String → State → State → Prop} {mc ms : Nat} {free : Addr → Prop} {cc : ByteArray} {maxL : Nat} {ret : Option FieldType} {hh : List (Nat × Nat × Nat × Nat)}
    (hy : plainName y.cls = true) (hw : ws = Cond.codeWith y cc maxL ret hh :: ws')
    (body : ∀ p e s m args below meth c s₁, BodyLoose p l y (headSpec ws rm) cc maxL ret e s m args below meth c s₁ → c.maxLocals = maxL → Pc args s →
      W p l e (headSpec ws rm).room s m args below meth c s.heap [] 0 0 (vx_MQ below Qc XC args s mc ms free) (entryFrame m args maxL)) : vx_Met l y ws rm Pc Qc XC mc ms free := by
  refine MetFree.of_bodyS (code := cc) (maxLocals := maxL) (ret := ret) hy ?_ ?_
  · intro args s m h hn
    obtain ⟨m9, meth, c, hn9, h1, h2, h3, h4, -, h5, h6, -⟩ := Cond.codeWith_spec (atoms_spec (ws := ws) h _ (by rw [hw]; exact List.mem_cons_self))
    cases hn.symm.trans hn9
    exact ⟨meth, c, h1, h2, h3, h4, h5, h6⟩
  · intro p e s m args below meth c s₁ B hml hP _
    have hh0 : s₁.heap = s.heap := by rw [B.state]; rfl
    obtain ⟨t, a1, o, b1, b2, b3⟩ := body p e s m args below meth c s₁ B hml hP s₁ hh0 (Stand.of_body B)
    exact ⟨t, o, a1, b1, b2, b3⟩
/-! ===== END ===== -/

/-! ===== BEGIN printed: names, fields, word lists, decode rows ===== -/
def RX0 : String := "BellRanks$Change"
def TX0 : u_T := fun k => match k with
  | 0 => ("BellRanks$Change", "row", "[I", true)
  | _ => ("BellRanks$Change", "size", "I", false)
def tyX0 : Nat → FieldType := fun k => match k with
  | 0 => .array .int
  | _ => .int
abbrev wsX00 : List Cond := u_ws RX0 TX0 2
theorem nmX0 : ∀ a, a < 2 → ∀ b, b < 2 → a ≠ b → (TX0 a).2.1 ≠ (TX0 b).2.1 := by decide +kernel
theorem tyX0_ok : ∀ k, k < 2 → parseFieldDescriptor (TX0 k).2.2.1 = some (tyX0 k) := by decide +kernel
abbrev cX0_init : ByteArray := prog_2_method_1_code
def yX0_init : MethodName := ⟨RX0, "<init>", "()V"⟩
abbrev cX0_bellAt : ByteArray := prog_2_method_2_code
def yX0_bellAt : MethodName := ⟨RX0, "bellAt", "(I)I"⟩
abbrev cX0_put : ByteArray := prog_2_method_3_code
def yX0_put : MethodName := ⟨RX0, "put", "(II)V"⟩
abbrev cX0_placeOf : ByteArray := prog_2_method_4_code
def yX0_placeOf : MethodName := ⟨RX0, "placeOf", "(I)I"⟩
abbrev cX0_isSame : ByteArray := prog_2_method_5_code
def yX0_isSame : MethodName := ⟨RX0, "isSame", "(LBellRanks$Change;)Z"⟩
abbrev cX0_rank : ByteArray := prog_2_method_6_code
def yX0_rank : MethodName := ⟨RX0, "rank", "()I"⟩
abbrev cX0_inversions : ByteArray := prog_2_method_7_code
def yX0_inversions : MethodName := ⟨RX0, "inversions", "()I"⟩
abbrev cX0_lesserBehind : ByteArray := prog_2_method_8_code
def yX0_lesserBehind : MethodName := ⟨RX0, "lesserBehind", "(I)I"⟩
abbrev cX0_setRank : ByteArray := prog_2_method_9_code
def yX0_setRank : MethodName := ⟨RX0, "setRank", "(II)V"⟩
abbrev cX0_insertAhead : ByteArray := prog_2_method_10_code
def yX0_insertAhead : MethodName := ⟨RX0, "insertAhead", "(II)V"⟩
abbrev cX0_setCopy : ByteArray := prog_2_method_11_code
def yX0_setCopy : MethodName := ⟨RX0, "setCopy", "(LBellRanks$Change;)V"⟩
abbrev cX0_setBehind : ByteArray := prog_2_method_12_code
def yX0_setBehind : MethodName := ⟨RX0, "setBehind", "(LBellRanks$Change;LBellRanks$Change;)V"⟩
abbrev cX0_setBack : ByteArray := prog_2_method_13_code
def yX0_setBack : MethodName := ⟨RX0, "setBack", "(LBellRanks$Change;)V"⟩
abbrev cX0_setRepeated : ByteArray := prog_2_method_14_code
def yX0_setRepeated : MethodName := ⟨RX0, "setRepeated", "(LBellRanks$Change;I)V"⟩
abbrev cX0_goneFrom : ByteArray := prog_2_method_15_code
def yX0_goneFrom : MethodName := ⟨RX0, "goneFrom", "(II)I"⟩
abbrev cX0_exchange : ByteArray := prog_2_method_16_code
def yX0_exchange : MethodName := ⟨RX0, "exchange", "(I)V"⟩
abbrev cX0_ringStep : ByteArray := prog_2_method_17_code
def yX0_ringStep : MethodName := ⟨RX0, "ringStep", "(I)V"⟩
abbrev cX0_ringLength : ByteArray := prog_2_method_18_code
def yX0_ringLength : MethodName := ⟨RX0, "ringLength", "(I)I"⟩
abbrev cX0_isLeastOfRing : ByteArray := prog_2_method_19_code
def yX0_isLeastOfRing : MethodName := ⟨RX0, "isLeastOfRing", "(I)Z"⟩
abbrev cX0_ringCount : ByteArray := prog_2_method_20_code
def yX0_ringCount : MethodName := ⟨RX0, "ringCount", "()I"⟩
abbrev cX0_longestRing : ByteArray := prog_2_method_21_code
def yX0_longestRing : MethodName := ⟨RX0, "longestRing", "()I"⟩
abbrev cX0_order : ByteArray := prog_2_method_22_code
def yX0_order : MethodName := ⟨RX0, "order", "()I"⟩
abbrev cX0_leastMultiple : ByteArray := prog_2_method_23_code
def yX0_leastMultiple : MethodName := ⟨RX0, "leastMultiple", "(II)I"⟩
abbrev cX0_ownPlaces : ByteArray := prog_2_method_24_code
def yX0_ownPlaces : MethodName := ⟨RX0, "ownPlaces", "()I"⟩
def RX1 : String := "BellRanks$Method"
def TX1 : u_T := fun k => match k with
  | 0 => ("BellRanks$Method", "steps", "[I", true)
  | _ => ("BellRanks$Method", "length", "I", false)
def tyX1 : Nat → FieldType := fun k => match k with
  | 0 => .array .int
  | _ => .int
abbrev wsX10 : List Cond := u_ws RX1 TX1 2
theorem nmX1 : ∀ a, a < 2 → ∀ b, b < 2 → a ≠ b → (TX1 a).2.1 ≠ (TX1 b).2.1 := by decide +kernel
theorem tyX1_ok : ∀ k, k < 2 → parseFieldDescriptor (TX1 k).2.2.1 = some (tyX1 k) := by decide +kernel
abbrev cX1_init : ByteArray := prog_3_method_1_code
def yX1_init : MethodName := ⟨RX1, "<init>", "()V"⟩
abbrev cX1_keeps : ByteArray := prog_3_method_2_code
def yX1_keeps : MethodName := ⟨RX1, "keeps", "(II)Z"⟩
abbrev cX1_isStep : ByteArray := prog_3_method_3_code
def yX1_isStep : MethodName := ⟨RX1, "isStep", "(II)Z"⟩
abbrev cX1_length : ByteArray := prog_3_method_4_code
def yX1_length : MethodName := ⟨RX1, "length", "()I"⟩
abbrev cX1_keptAt : ByteArray := prog_3_method_5_code
def yX1_keptAt : MethodName := ⟨RX1, "keptAt", "(I)I"⟩
abbrev cX1_add : ByteArray := prog_3_method_6_code
def yX1_add : MethodName := ⟨RX1, "add", "(I)V"⟩
abbrev cX1_removeAll : ByteArray := prog_3_method_7_code
def yX1_removeAll : MethodName := ⟨RX1, "removeAll", "()V"⟩
abbrev cX1_ringOn : ByteArray := prog_3_method_8_code
def yX1_ringOn : MethodName := ⟨RX1, "ringOn", "(LBellRanks$Change;I)V"⟩
def RX2 : String := "BellRanks$RankSet"
def TX2 : u_T := fun k => match k with
  | 0 => ("BellRanks$RankSet", "row", "[I", true)
  | _ => ("BellRanks$RankSet", "size", "I", false)
def tyX2 : Nat → FieldType := fun k => match k with
  | 0 => .array .int
  | _ => .int
abbrev wsX20 : List Cond := u_ws RX2 TX2 2
theorem nmX2 : ∀ a, a < 2 → ∀ b, b < 2 → a ≠ b → (TX2 a).2.1 ≠ (TX2 b).2.1 := by decide +kernel
theorem tyX2_ok : ∀ k, k < 2 → parseFieldDescriptor (TX2 k).2.2.1 = some (tyX2 k) := by decide +kernel
abbrev cX2_init : ByteArray := prog_4_method_1_code
def yX2_init : MethodName := ⟨RX2, "<init>", "()V"⟩
abbrev cX2_size : ByteArray := prog_4_method_2_code
def yX2_size : MethodName := ⟨RX2, "size", "()I"⟩
abbrev cX2_removeAll : ByteArray := prog_4_method_3_code
def yX2_removeAll : MethodName := ⟨RX2, "removeAll", "()V"⟩
abbrev cX2_add : ByteArray := prog_4_method_4_code
def yX2_add : MethodName := ⟨RX2, "add", "(I)V"⟩
def RX3 : String := "BellRanks"
def TX3 : u_T := fun k => match k with
  | 0 => ("BellRanks", "book", "[LBellRanks$Change;", true)
  | 1 => ("BellRanks", "method", "LBellRanks$Method;", true)
  | 2 => ("BellRanks", "rung", "LBellRanks$Change;", true)
  | 3 => ("BellRanks", "made", "LBellRanks$Change;", true)
  | 4 => ("BellRanks", "ranks", "LBellRanks$RankSet;", true)
  | 5 => ("BellRanks", "bells", "I", false)
  | 6 => ("BellRanks", "written", "I", false)
  | _ => ("BellRanks", "rungInAll", "I", false)
def tyX3 : Nat → FieldType := fun k => match k with
  | 0 => .array (.object "BellRanks$Change")
  | 1 => .object "BellRanks$Method"
  | 2 => .object "BellRanks$Change"
  | 3 => .object "BellRanks$Change"
  | 4 => .object "BellRanks$RankSet"
  | 5 => .int
  | 6 => .int
  | _ => .int
abbrev wsX30 : List Cond := u_ws RX3 TX3 8
theorem nmX3 : ∀ a, a < 8 → ∀ b, b < 8 → a ≠ b → (TX3 a).2.1 ≠ (TX3 b).2.1 := by decide +kernel
theorem tyX3_ok : ∀ k, k < 8 → parseFieldDescriptor (TX3 k).2.2.1 = some (tyX3 k) := by decide +kernel
abbrev cX3_init : ByteArray := prog_1_method_1_code
def yX3_init : MethodName := ⟨RX3, "<init>", "()V"⟩
abbrev cX3_setBells : ByteArray := prog_1_method_2_code
def yX3_setBells : MethodName := ⟨RX3, "setBells", "(I)I"⟩
abbrev cX3_write : ByteArray := prog_1_method_3_code
def yX3_write : MethodName := ⟨RX3, "write", "(I)I"⟩
abbrev cX3_swap : ByteArray := prog_1_method_4_code
def yX3_swap : MethodName := ⟨RX3, "swap", "(II)I"⟩
abbrev cX3_next : ByteArray := prog_1_method_5_code
def yX3_next : MethodName := ⟨RX3, "next", "(I)I"⟩
abbrev cX3_behind : ByteArray := prog_1_method_6_code
def yX3_behind : MethodName := ⟨RX3, "behind", "(II)I"⟩
abbrev cX3_back : ByteArray := prog_1_method_7_code
def yX3_back : MethodName := ⟨RX3, "back", "(I)I"⟩
abbrev cX3_repeat : ByteArray := prog_1_method_8_code
def yX3_repeat : MethodName := ⟨RX3, "repeat", "(II)I"⟩
abbrev cX3_step : ByteArray := prog_1_method_9_code
def yX3_step : MethodName := ⟨RX3, "step", "(I)I"⟩
abbrev cX3_clear : ByteArray := prog_1_method_10_code
def yX3_clear : MethodName := ⟨RX3, "clear", "()I"⟩
abbrev cX3_ring : ByteArray := prog_1_method_11_code
def yX3_ring : MethodName := ⟨RX3, "ring", "(II)I"⟩
abbrev cX3_bell : ByteArray := prog_1_method_12_code
def yX3_bell : MethodName := ⟨RX3, "bell", "(II)I"⟩
abbrev cX3_told : ByteArray := prog_1_method_13_code
def yX3_told : MethodName := ⟨RX3, "told", "(II)I"⟩
abbrev cX3_round : ByteArray := prog_1_method_14_code
def yX3_round : MethodName := ⟨RX3, "round", "(II)I"⟩
abbrev cX3_apart : ByteArray := prog_1_method_15_code
def yX3_apart : MethodName := ⟨RX3, "apart", "(II)I"⟩
abbrev cX3_count : ByteArray := prog_1_method_16_code
def yX3_count : MethodName := ⟨RX3, "count", "(I)I"⟩
abbrev cX3_kept : ByteArray := prog_1_method_17_code
def yX3_kept : MethodName := ⟨RX3, "kept", "(I)I"⟩
abbrev cX3_comes : ByteArray := prog_1_method_18_code
def yX3_comes : MethodName := ⟨RX3, "comes", "(I)I"⟩
abbrev cX3_differ : ByteArray := prog_1_method_19_code
def yX3_differ : MethodName := ⟨RX3, "differ", "(I)I"⟩
abbrev cX3_advise : ByteArray := prog_1_method_20_code
def yX3_advise : MethodName := ⟨RX3, "advise", "(I)I"⟩
abbrev cX3_mean : ByteArray := prog_1_method_21_code
def yX3_mean : MethodName := ⟨RX3, "mean", "()D"⟩
abbrev cX3_digest : ByteArray := prog_1_method_22_code
def yX3_digest : MethodName := ⟨RX3, "digest", "()J"⟩
abbrev cX3_find : ByteArray := prog_1_method_23_code
def yX3_find : MethodName := ⟨RX3, "find", "(I)LBellRanks$Change;"⟩
abbrev cX3_openPage : ByteArray := prog_1_method_24_code
def yX3_openPage : MethodName := ⟨RX3, "openPage", "()LBellRanks$Change;"⟩
abbrev cX3_checkPlace : ByteArray := prog_1_method_25_code
def yX3_checkPlace : MethodName := ⟨RX3, "checkPlace", "(I)V"⟩
abbrev cX3_checkSteps : ByteArray := prog_1_method_26_code
def yX3_checkSteps : MethodName := ⟨RX3, "checkSteps", "(I)V"⟩
abbrev cX3_differentInBook : ByteArray := prog_1_method_27_code
def yX3_differentInBook : MethodName := ⟨RX3, "differentInBook", "()I"⟩
abbrev cX3_changesOf : ByteArray := prog_1_method_28_code
def yX3_changesOf : MethodName := ⟨RX3, "changesOf", "(I)I"⟩
def RX4 : String := "BellRanksModel"
def TX4 : u_T := fun k => match k with
  | 0 => ("BellRanksModel", "thrown", "I", false)
  | 1 => ("BellRanksModel", "bells", "I", false)
  | 2 => ("BellRanksModel", "changes", "I", false)
  | 3 => ("BellRanksModel", "book", "[I", true)
  | 4 => ("BellRanksModel", "steps", "I", false)
  | 5 => ("BellRanksModel", "kept", "[I", true)
  | _ => ("BellRanksModel", "rung", "I", false)
def tyX4 : Nat → FieldType := fun k => match k with
  | 0 => .int
  | 1 => .int
  | 2 => .int
  | 3 => .array .int
  | 4 => .int
  | 5 => .array .int
  | _ => .int
abbrev wsX40 : List Cond := u_ws RX4 TX4 7
theorem nmX4 : ∀ a, a < 7 → ∀ b, b < 7 → a ≠ b → (TX4 a).2.1 ≠ (TX4 b).2.1 := by decide +kernel
theorem tyX4_ok : ∀ k, k < 7 → parseFieldDescriptor (TX4 k).2.2.1 = some (tyX4 k) := by decide +kernel
abbrev cX4_init : ByteArray := prog_6_method_1_code
def yX4_init : MethodName := ⟨RX4, "<init>", "()V"⟩
abbrev cX4_thrown : ByteArray := prog_6_method_2_code
def yX4_thrown : MethodName := ⟨RX4, "thrown", "()I"⟩
abbrev cX4_no : ByteArray := prog_6_method_3_code
def yX4_no : MethodName := ⟨RX4, "no", "(I)I"⟩
abbrev cX4_isIn : ByteArray := prog_6_method_4_code
def yX4_isIn : MethodName := ⟨RX4, "isIn", "(III)Z"⟩
abbrev cX4_isChange : ByteArray := prog_6_method_5_code
def yX4_isChange : MethodName := ⟨RX4, "isChange", "(I)Z"⟩
abbrev cX4_isPlace : ByteArray := prog_6_method_6_code
def yX4_isPlace : MethodName := ⟨RX4, "isPlace", "(I)Z"⟩
abbrev cX4_product : ByteArray := prog_6_method_7_code
def yX4_product : MethodName := ⟨RX4, "product", "(I)I"⟩
abbrev cX4_row : ByteArray := prog_6_method_8_code
def yX4_row : MethodName := ⟨RX4, "row", "(I)[I"⟩
abbrev cX4_bellAt : ByteArray := prog_6_method_9_code
def yX4_bellAt : MethodName := ⟨RX4, "bellAt", "(II)I"⟩
abbrev cX4_less : ByteArray := prog_6_method_10_code
def yX4_less : MethodName := ⟨RX4, "less", "([II)I"⟩
abbrev cX4_rank : ByteArray := prog_6_method_11_code
def yX4_rank : MethodName := ⟨RX4, "rank", "([I)I"⟩
abbrev cX4_inversions : ByteArray := prog_6_method_12_code
def yX4_inversions : MethodName := ⟨RX4, "inversions", "([I)I"⟩
abbrev cX4_behindRow : ByteArray := prog_6_method_13_code
def yX4_behindRow : MethodName := ⟨RX4, "behindRow", "([I[I)[I"⟩
abbrev cX4_backRow : ByteArray := prog_6_method_14_code
def yX4_backRow : MethodName := ⟨RX4, "backRow", "([I)[I"⟩
abbrev cX4_ringOf : ByteArray := prog_6_method_15_code
def yX4_ringOf : MethodName := ⟨RX4, "ringOf", "([II)I"⟩
abbrev cX4_isFirst : ByteArray := prog_6_method_16_code
def yX4_isFirst : MethodName := ⟨RX4, "isFirst", "([II)Z"⟩
abbrev cX4_divisor : ByteArray := prog_6_method_17_code
def yX4_divisor : MethodName := ⟨RX4, "divisor", "(II)I"⟩
abbrev cX4_order : ByteArray := prog_6_method_18_code
def yX4_order : MethodName := ⟨RX4, "order", "([I)I"⟩
abbrev cX4_ringStep : ByteArray := prog_6_method_19_code
def yX4_ringStep : MethodName := ⟨RX4, "ringStep", "([II)V"⟩
abbrev cX4_isStep : ByteArray := prog_6_method_20_code
def yX4_isStep : MethodName := ⟨RX4, "isStep", "(I)Z"⟩
abbrev cX4_setBells : ByteArray := prog_6_method_21_code
def yX4_setBells : MethodName := ⟨RX4, "setBells", "(I)I"⟩
abbrev cX4_add : ByteArray := prog_6_method_22_code
def yX4_add : MethodName := ⟨RX4, "add", "(I)I"⟩
abbrev cX4_become : ByteArray := prog_6_method_23_code
def yX4_become : MethodName := ⟨RX4, "become", "(I[I)I"⟩
abbrev cX4_write : ByteArray := prog_6_method_24_code
def yX4_write : MethodName := ⟨RX4, "write", "(I)I"⟩
abbrev cX4_swap : ByteArray := prog_6_method_25_code
def yX4_swap : MethodName := ⟨RX4, "swap", "(II)I"⟩
abbrev cX4_next : ByteArray := prog_6_method_26_code
def yX4_next : MethodName := ⟨RX4, "next", "(I)I"⟩
abbrev cX4_behind : ByteArray := prog_6_method_27_code
def yX4_behind : MethodName := ⟨RX4, "behind", "(II)I"⟩
abbrev cX4_back : ByteArray := prog_6_method_28_code
def yX4_back : MethodName := ⟨RX4, "back", "(I)I"⟩
abbrev cX4_repeat : ByteArray := prog_6_method_29_code
def yX4_repeat : MethodName := ⟨RX4, "repeat", "(II)I"⟩
abbrev cX4_step : ByteArray := prog_6_method_30_code
def yX4_step : MethodName := ⟨RX4, "step", "(I)I"⟩
abbrev cX4_clear : ByteArray := prog_6_method_31_code
def yX4_clear : MethodName := ⟨RX4, "clear", "()I"⟩
abbrev cX4_ring : ByteArray := prog_6_method_32_code
def yX4_ring : MethodName := ⟨RX4, "ring", "(II)I"⟩
abbrev cX4_bell : ByteArray := prog_6_method_33_code
def yX4_bell : MethodName := ⟨RX4, "bell", "(II)I"⟩
abbrev cX4_toldOf : ByteArray := prog_6_method_34_code
def yX4_toldOf : MethodName := ⟨RX4, "toldOf", "([II)I"⟩
abbrev cX4_told : ByteArray := prog_6_method_35_code
def yX4_told : MethodName := ⟨RX4, "told", "(II)I"⟩
abbrev cX4_round : ByteArray := prog_6_method_36_code
def yX4_round : MethodName := ⟨RX4, "round", "(II)I"⟩
abbrev cX4_apart : ByteArray := prog_6_method_37_code
def yX4_apart : MethodName := ⟨RX4, "apart", "(II)I"⟩
abbrev cX4_different : ByteArray := prog_6_method_38_code
def yX4_different : MethodName := ⟨RX4, "different", "()I"⟩
abbrev cX4_counted : ByteArray := prog_6_method_39_code
def yX4_counted : MethodName := ⟨RX4, "counted", "(I)I"⟩
abbrev cX4_count : ByteArray := prog_6_method_40_code
def yX4_count : MethodName := ⟨RX4, "count", "(I)I"⟩
abbrev cX4_kept : ByteArray := prog_6_method_41_code
def yX4_kept : MethodName := ⟨RX4, "kept", "(I)I"⟩
abbrev cX4_comes : ByteArray := prog_6_method_42_code
def yX4_comes : MethodName := ⟨RX4, "comes", "(I)I"⟩
abbrev cX4_differ : ByteArray := prog_6_method_43_code
def yX4_differ : MethodName := ⟨RX4, "differ", "(I)I"⟩
abbrev cX4_advise : ByteArray := prog_6_method_44_code
def yX4_advise : MethodName := ⟨RX4, "advise", "(I)I"⟩
abbrev cX4_mean : ByteArray := prog_6_method_45_code
def yX4_mean : MethodName := ⟨RX4, "mean", "()D"⟩
abbrev cX4_digest : ByteArray := prog_6_method_46_code
def yX4_digest : MethodName := ⟨RX4, "digest", "()J"⟩
def RJ9 : String := "java/lang/Math"
def TJ9 : u_T := fun k => match k with
  | _ => ("", "", "", false)
def tyJ9 : Nat → FieldType := fun k => match k with
  | _ => .int
abbrev wsJ90 : List Cond := u_ws RJ9 TJ9 0
theorem nmJ9 : ∀ a, a < 0 → ∀ b, b < 0 → a ≠ b → (TJ9 a).2.1 ≠ (TJ9 b).2.1 := by decide +kernel
theorem tyJ9_ok : ∀ k, k < 0 → parseFieldDescriptor (TJ9 k).2.2.1 = some (tyJ9 k) := by decide +kernel
abbrev cJ9_max_7cf53 : ByteArray := prog_11_method_65_code
def yJ9_max_7cf53 : MethodName := ⟨RJ9, "max", "(II)I"⟩
def RJ0 : String := "java/lang/String"
def TJ0 : u_T := fun k => match k with
  | _ => ("", "", "", false)
def tyJ0 : Nat → FieldType := fun k => match k with
  | _ => .int
abbrev wsJ00 : List Cond := u_ws RJ0 TJ0 0
theorem nmJ0 : ∀ a, a < 0 → ∀ b, b < 0 → a ≠ b → (TJ0 a).2.1 ≠ (TJ0 b).2.1 := by decide +kernel
theorem tyJ0_ok : ∀ k, k < 0 → parseFieldDescriptor (TJ0 k).2.2.1 = some (tyJ0 k) := by decide +kernel
def RL : String := "BellRanksLaw"
abbrev cL_setBells : ByteArray := method_3_code
def yL_setBells : MethodName := ⟨RL, "setBells", "(LBellRanks;I[J)I"⟩
abbrev cL_write : ByteArray := method_4_code
def yL_write : MethodName := ⟨RL, "write", "(LBellRanks;I[J)I"⟩
abbrev cL_swap : ByteArray := method_5_code
def yL_swap : MethodName := ⟨RL, "swap", "(LBellRanks;II[J)I"⟩
abbrev cL_next : ByteArray := method_6_code
def yL_next : MethodName := ⟨RL, "next", "(LBellRanks;I[J)I"⟩
abbrev cL_behind : ByteArray := method_7_code
def yL_behind : MethodName := ⟨RL, "behind", "(LBellRanks;II[J)I"⟩
abbrev cL_back : ByteArray := method_8_code
def yL_back : MethodName := ⟨RL, "back", "(LBellRanks;I[J)I"⟩
abbrev cL_repeat : ByteArray := method_9_code
def yL_repeat : MethodName := ⟨RL, "repeat", "(LBellRanks;II[J)I"⟩
abbrev cL_step : ByteArray := method_10_code
def yL_step : MethodName := ⟨RL, "step", "(LBellRanks;I[J)I"⟩
abbrev cL_ring : ByteArray := method_11_code
def yL_ring : MethodName := ⟨RL, "ring", "(LBellRanks;II[J)I"⟩
abbrev cL_bell : ByteArray := method_12_code
def yL_bell : MethodName := ⟨RL, "bell", "(LBellRanks;II[J)I"⟩
abbrev cL_told : ByteArray := method_13_code
def yL_told : MethodName := ⟨RL, "told", "(LBellRanks;II[J)I"⟩
abbrev cL_round : ByteArray := method_14_code
def yL_round : MethodName := ⟨RL, "round", "(LBellRanks;II[J)I"⟩
abbrev cL_apart : ByteArray := method_15_code
def yL_apart : MethodName := ⟨RL, "apart", "(LBellRanks;II[J)I"⟩
abbrev cL_count : ByteArray := method_16_code
def yL_count : MethodName := ⟨RL, "count", "(LBellRanks;I[J)I"⟩
abbrev cL_kept : ByteArray := method_17_code
def yL_kept : MethodName := ⟨RL, "kept", "(LBellRanks;I[J)I"⟩
abbrev cL_comes : ByteArray := method_18_code
def yL_comes : MethodName := ⟨RL, "comes", "(LBellRanks;I[J)I"⟩
abbrev cL_differ : ByteArray := method_19_code
def yL_differ : MethodName := ⟨RL, "differ", "(LBellRanks;I[J)I"⟩
abbrev cL_advise : ByteArray := method_20_code
def yL_advise : MethodName := ⟨RL, "advise", "(LBellRanks;I[J)I"⟩
abbrev cL_law : ByteArray := code
def yL_law : MethodName := ⟨RL, "law", "([I)Z"⟩
def wsX0_init : List Cond := .code yX0_init cX0_init 1 none :: ([.methodLink RX0 3 objectInit, .instanceMethod objectInit, .code objectInit ⟨#[0xb1]⟩ 1 none, .arrayClass .int, .fieldLink RX0 9 "BellRanks$Change" "row" "[I", .fieldLink RX0 15 "BellRanks$Change" "size" "I"] ++ wsX00)
def wsX0_bellAt : List Cond := .code yX0_bellAt cX0_bellAt 2 (some .int) :: ([.fieldLink RX0 9 "BellRanks$Change" "row" "[I"] ++ wsX00)
def wsX0_put : List Cond := .code yX0_put cX0_put 3 none :: ([.fieldLink RX0 9 "BellRanks$Change" "row" "[I"] ++ wsX00)
def wsX0_placeOf : List Cond := .code yX0_placeOf cX0_placeOf 3 (some .int) :: ([.fieldLink RX0 15 "BellRanks$Change" "size" "I", .methodLink RX0 19 yX0_bellAt, .instanceMethod yX0_bellAt, .selects RX0 yX0_bellAt yX0_bellAt, .initialized RX0, .code yX0_bellAt cX0_bellAt 2 (some .int), .fieldLink RX0 9 "BellRanks$Change" "row" "[I"] ++ wsX00)
def wsX0_isSame : List Cond := .code yX0_isSame cX0_isSame 3 (some .boolean) :: ([.fieldLink RX0 15 "BellRanks$Change" "size" "I", .methodLink RX0 19 yX0_bellAt, .instanceMethod yX0_bellAt, .selects RX0 yX0_bellAt yX0_bellAt, .initialized RX0, .code yX0_bellAt cX0_bellAt 2 (some .int), .fieldLink RX0 9 "BellRanks$Change" "row" "[I"] ++ wsX00)
def wsX0_lesserBehind : List Cond := .code yX0_lesserBehind cX0_lesserBehind 4 (some .int) :: ([.fieldLink RX0 15 "BellRanks$Change" "size" "I", .methodLink RX0 19 yX0_bellAt, .instanceMethod yX0_bellAt, .selects RX0 yX0_bellAt yX0_bellAt, .initialized RX0, .code yX0_bellAt cX0_bellAt 2 (some .int), .fieldLink RX0 9 "BellRanks$Change" "row" "[I"] ++ wsX00)
def wsX0_rank : List Cond := .code yX0_rank cX0_rank 3 (some .int) :: ([.fieldLink RX0 15 "BellRanks$Change" "size" "I", .methodLink RX0 23 yX0_lesserBehind, .instanceMethod yX0_lesserBehind, .selects RX0 yX0_lesserBehind yX0_lesserBehind, .initialized RX0, .code yX0_lesserBehind cX0_lesserBehind 4 (some .int), .methodLink RX0 19 yX0_bellAt, .instanceMethod yX0_bellAt, .selects RX0 yX0_bellAt yX0_bellAt, .code yX0_bellAt cX0_bellAt 2 (some .int), .fieldLink RX0 9 "BellRanks$Change" "row" "[I"] ++ wsX00)
def wsX0_inversions : List Cond := .code yX0_inversions cX0_inversions 3 (some .int) :: ([.fieldLink RX0 15 "BellRanks$Change" "size" "I", .methodLink RX0 23 yX0_lesserBehind, .instanceMethod yX0_lesserBehind, .selects RX0 yX0_lesserBehind yX0_lesserBehind, .initialized RX0, .code yX0_lesserBehind cX0_lesserBehind 4 (some .int), .methodLink RX0 19 yX0_bellAt, .instanceMethod yX0_bellAt, .selects RX0 yX0_bellAt yX0_bellAt, .code yX0_bellAt cX0_bellAt 2 (some .int), .fieldLink RX0 9 "BellRanks$Change" "row" "[I"] ++ wsX00)
def wsX0_insertAhead : List Cond := .code yX0_insertAhead cX0_insertAhead 4 none :: ([.fieldLink RX0 15 "BellRanks$Change" "size" "I", .methodLink RX0 30 yX0_put, .instanceMethod yX0_put, .selects RX0 yX0_put yX0_put, .initialized RX0, .code yX0_put cX0_put 3 none, .fieldLink RX0 9 "BellRanks$Change" "row" "[I", .methodLink RX0 19 yX0_bellAt, .instanceMethod yX0_bellAt, .selects RX0 yX0_bellAt yX0_bellAt, .code yX0_bellAt cX0_bellAt 2 (some .int)] ++ wsX00)
def wsX0_setRank : List Cond := .code yX0_setRank cX0_setRank 5 none :: ([.fieldLink RX0 15 "BellRanks$Change" "size" "I", .methodLink RX0 26 yX0_insertAhead, .instanceMethod yX0_insertAhead, .selects RX0 yX0_insertAhead yX0_insertAhead, .initialized RX0, .code yX0_insertAhead cX0_insertAhead 4 none, .methodLink RX0 30 yX0_put, .instanceMethod yX0_put, .selects RX0 yX0_put yX0_put, .code yX0_put cX0_put 3 none, .fieldLink RX0 9 "BellRanks$Change" "row" "[I", .methodLink RX0 19 yX0_bellAt, .instanceMethod yX0_bellAt, .selects RX0 yX0_bellAt yX0_bellAt, .code yX0_bellAt cX0_bellAt 2 (some .int)] ++ wsX00)
def wsX0_setCopy : List Cond := .code yX0_setCopy cX0_setCopy 3 none :: ([.fieldLink RX0 15 "BellRanks$Change" "size" "I", .methodLink RX0 19 yX0_bellAt, .instanceMethod yX0_bellAt, .selects RX0 yX0_bellAt yX0_bellAt, .initialized RX0, .code yX0_bellAt cX0_bellAt 2 (some .int), .fieldLink RX0 9 "BellRanks$Change" "row" "[I", .methodLink RX0 30 yX0_put, .instanceMethod yX0_put, .selects RX0 yX0_put yX0_put, .code yX0_put cX0_put 3 none] ++ wsX00)
def wsX0_setBehind : List Cond := .code yX0_setBehind cX0_setBehind 4 none :: ([.fieldLink RX0 15 "BellRanks$Change" "size" "I", .methodLink RX0 19 yX0_bellAt, .instanceMethod yX0_bellAt, .selects RX0 yX0_bellAt yX0_bellAt, .initialized RX0, .code yX0_bellAt cX0_bellAt 2 (some .int), .fieldLink RX0 9 "BellRanks$Change" "row" "[I", .methodLink RX0 30 yX0_put, .instanceMethod yX0_put, .selects RX0 yX0_put yX0_put, .code yX0_put cX0_put 3 none] ++ wsX00)
def wsX0_setBack : List Cond := .code yX0_setBack cX0_setBack 3 none :: ([.fieldLink RX0 15 "BellRanks$Change" "size" "I", .methodLink RX0 19 yX0_bellAt, .instanceMethod yX0_bellAt, .selects RX0 yX0_bellAt yX0_bellAt, .initialized RX0, .code yX0_bellAt cX0_bellAt 2 (some .int), .fieldLink RX0 9 "BellRanks$Change" "row" "[I", .methodLink RX0 30 yX0_put, .instanceMethod yX0_put, .selects RX0 yX0_put yX0_put, .code yX0_put cX0_put 3 none] ++ wsX00)
def wsX0_ringLength : List Cond := .code yX0_ringLength cX0_ringLength 4 (some .int) :: ([.fieldLink RX0 15 "BellRanks$Change" "size" "I", .methodLink RX0 19 yX0_bellAt, .instanceMethod yX0_bellAt, .selects RX0 yX0_bellAt yX0_bellAt, .initialized RX0, .code yX0_bellAt cX0_bellAt 2 (some .int), .fieldLink RX0 9 "BellRanks$Change" "row" "[I"] ++ wsX00)
def wsX0_goneFrom : List Cond := .code yX0_goneFrom cX0_goneFrom 5 (some .int) :: ([.methodLink RX0 19 yX0_bellAt, .instanceMethod yX0_bellAt, .selects RX0 yX0_bellAt yX0_bellAt, .initialized RX0, .code yX0_bellAt cX0_bellAt 2 (some .int), .fieldLink RX0 9 "BellRanks$Change" "row" "[I"] ++ wsX00)
def wsX0_setRepeated : List Cond := .code yX0_setRepeated cX0_setRepeated 6 none :: ([.fieldLink RX0 15 "BellRanks$Change" "size" "I", .methodLink RX0 33 yX0_ringLength, .instanceMethod yX0_ringLength, .selects RX0 yX0_ringLength yX0_ringLength, .initialized RX0, .code yX0_ringLength cX0_ringLength 4 (some .int), .methodLink RX0 19 yX0_bellAt, .instanceMethod yX0_bellAt, .selects RX0 yX0_bellAt yX0_bellAt, .code yX0_bellAt cX0_bellAt 2 (some .int), .fieldLink RX0 9 "BellRanks$Change" "row" "[I", .methodLink RX0 36 yX0_goneFrom, .instanceMethod yX0_goneFrom, .selects RX0 yX0_goneFrom yX0_goneFrom, .code yX0_goneFrom cX0_goneFrom 5 (some .int), .methodLink RX0 30 yX0_put, .instanceMethod yX0_put, .selects RX0 yX0_put yX0_put, .code yX0_put cX0_put 3 none] ++ wsX00)
def wsX0_exchange : List Cond := .code yX0_exchange cX0_exchange 3 none :: ([.methodLink RX0 19 yX0_bellAt, .instanceMethod yX0_bellAt, .selects RX0 yX0_bellAt yX0_bellAt, .initialized RX0, .code yX0_bellAt cX0_bellAt 2 (some .int), .fieldLink RX0 9 "BellRanks$Change" "row" "[I", .methodLink RX0 30 yX0_put, .instanceMethod yX0_put, .selects RX0 yX0_put yX0_put, .code yX0_put cX0_put 3 none] ++ wsX00)
def wsX1_keeps : List Cond := .code yX1_keeps cX1_keeps 2 (some .boolean) :: ([])
def wsX0_ringStep : List Cond := .code yX0_ringStep cX0_ringStep 3 none :: ([.fieldLink RX0 15 "BellRanks$Change" "size" "I", .methodLink RX0 40 yX1_keeps, .static yX1_keeps, .initialized RX1, .code yX1_keeps cX1_keeps 2 (some .boolean), .methodLink RX0 46 yX0_exchange, .instanceMethod yX0_exchange, .selects RX0 yX0_exchange yX0_exchange, .initialized RX0, .code yX0_exchange cX0_exchange 3 none, .methodLink RX0 19 yX0_bellAt, .instanceMethod yX0_bellAt, .selects RX0 yX0_bellAt yX0_bellAt, .code yX0_bellAt cX0_bellAt 2 (some .int), .fieldLink RX0 9 "BellRanks$Change" "row" "[I", .methodLink RX0 30 yX0_put, .instanceMethod yX0_put, .selects RX0 yX0_put yX0_put, .code yX0_put cX0_put 3 none] ++ wsX00)
def wsX0_isLeastOfRing : List Cond := .code yX0_isLeastOfRing cX0_isLeastOfRing 4 (some .boolean) :: ([.fieldLink RX0 15 "BellRanks$Change" "size" "I", .methodLink RX0 19 yX0_bellAt, .instanceMethod yX0_bellAt, .selects RX0 yX0_bellAt yX0_bellAt, .initialized RX0, .code yX0_bellAt cX0_bellAt 2 (some .int), .fieldLink RX0 9 "BellRanks$Change" "row" "[I"] ++ wsX00)
def wsX0_ringCount : List Cond := .code yX0_ringCount cX0_ringCount 3 (some .int) :: ([.fieldLink RX0 15 "BellRanks$Change" "size" "I", .methodLink RX0 50 yX0_isLeastOfRing, .instanceMethod yX0_isLeastOfRing, .selects RX0 yX0_isLeastOfRing yX0_isLeastOfRing, .initialized RX0, .code yX0_isLeastOfRing cX0_isLeastOfRing 4 (some .boolean), .methodLink RX0 19 yX0_bellAt, .instanceMethod yX0_bellAt, .selects RX0 yX0_bellAt yX0_bellAt, .code yX0_bellAt cX0_bellAt 2 (some .int), .fieldLink RX0 9 "BellRanks$Change" "row" "[I"] ++ wsX00)
def wsX0_longestRing : List Cond := .code yX0_longestRing cX0_longestRing 3 (some .int) :: ([.fieldLink RX0 15 "BellRanks$Change" "size" "I", .methodLink RX0 54 Lib.Math.max.name, .static Lib.Math.max.name, .initialized "java/lang/Math", .code Lib.Math.max.name Lib.Math.max.code 2 (some .int), .methodLink RX0 33 yX0_ringLength, .instanceMethod yX0_ringLength, .selects RX0 yX0_ringLength yX0_ringLength, .initialized RX0, .code yX0_ringLength cX0_ringLength 4 (some .int), .methodLink RX0 19 yX0_bellAt, .instanceMethod yX0_bellAt, .selects RX0 yX0_bellAt yX0_bellAt, .code yX0_bellAt cX0_bellAt 2 (some .int), .fieldLink RX0 9 "BellRanks$Change" "row" "[I"] ++ wsX00)
def wsX0_leastMultiple : List Cond := .code yX0_leastMultiple cX0_leastMultiple 4 (some .int) :: ([])
def wsX0_order : List Cond := .code yX0_order cX0_order 3 (some .int) :: ([.fieldLink RX0 15 "BellRanks$Change" "size" "I", .methodLink RX0 33 yX0_ringLength, .instanceMethod yX0_ringLength, .selects RX0 yX0_ringLength yX0_ringLength, .initialized RX0, .code yX0_ringLength cX0_ringLength 4 (some .int), .methodLink RX0 19 yX0_bellAt, .instanceMethod yX0_bellAt, .selects RX0 yX0_bellAt yX0_bellAt, .code yX0_bellAt cX0_bellAt 2 (some .int), .fieldLink RX0 9 "BellRanks$Change" "row" "[I", .methodLink RX0 59 yX0_leastMultiple, .static yX0_leastMultiple, .code yX0_leastMultiple cX0_leastMultiple 4 (some .int)] ++ wsX00)
def wsX0_ownPlaces : List Cond := .code yX0_ownPlaces cX0_ownPlaces 3 (some .int) :: ([.fieldLink RX0 15 "BellRanks$Change" "size" "I", .methodLink RX0 19 yX0_bellAt, .instanceMethod yX0_bellAt, .selects RX0 yX0_bellAt yX0_bellAt, .initialized RX0, .code yX0_bellAt cX0_bellAt 2 (some .int), .fieldLink RX0 9 "BellRanks$Change" "row" "[I"] ++ wsX00)
def wsX1_init : List Cond := .code yX1_init cX1_init 1 none :: ([.methodLink RX1 3 objectInit, .instanceMethod objectInit, .code objectInit ⟨#[0xb1]⟩ 1 none, .arrayClass .int, .fieldLink RX1 9 "BellRanks$Method" "steps" "[I", .fieldLink RX1 15 "BellRanks$Method" "length" "I"] ++ wsX10)
def wsX1_isStep : List Cond := .code yX1_isStep cX1_isStep 3 (some .boolean) :: ([.methodLink RX1 19 yX1_keeps, .static yX1_keeps, .initialized RX1, .code yX1_keeps cX1_keeps 2 (some .boolean)])
def wsX1_length : List Cond := .code yX1_length cX1_length 1 (some .int) :: ([.fieldLink RX1 15 "BellRanks$Method" "length" "I"] ++ wsX10)
def wsX1_keptAt : List Cond := .code yX1_keptAt cX1_keptAt 2 (some .int) :: ([.fieldLink RX1 9 "BellRanks$Method" "steps" "[I"] ++ wsX10)
def wsX1_add : List Cond := .code yX1_add cX1_add 2 none :: ([.fieldLink RX1 15 "BellRanks$Method" "length" "I", .fieldLink RX1 9 "BellRanks$Method" "steps" "[I"] ++ wsX10)
def wsX1_removeAll : List Cond := .code yX1_removeAll cX1_removeAll 1 none :: ([.fieldLink RX1 15 "BellRanks$Method" "length" "I"] ++ wsX10)
def wsX1_ringOn_r1 : List Cond := [Cond.fieldLink RX1 15 "BellRanks$Method" "length" "I", Cond.methodLink RX1 23 yX1_keptAt, Cond.instanceMethod yX1_keptAt, Cond.selects RX1 yX1_keptAt yX1_keptAt, Cond.initialized RX1, Cond.code yX1_keptAt cX1_keptAt 2 (some .int), Cond.fieldLink RX1 9 "BellRanks$Method" "steps" "[I", Cond.methodLink RX1 27 yX0_ringStep, Cond.instanceMethod yX0_ringStep, Cond.selects RX0 yX0_ringStep yX0_ringStep, Cond.initialized RX0, Cond.code yX0_ringStep cX0_ringStep 3 none, Cond.fieldLink RX0 15 "BellRanks$Change" "size" "I", Cond.methodLink RX0 40 yX1_keeps, Cond.static yX1_keeps, Cond.code yX1_keeps cX1_keeps 2 (some .boolean), Cond.methodLink RX0 46 yX0_exchange, Cond.instanceMethod yX0_exchange, Cond.selects RX0 yX0_exchange yX0_exchange, Cond.code yX0_exchange cX0_exchange 3 none, Cond.methodLink RX0 19 yX0_bellAt, Cond.instanceMethod yX0_bellAt, Cond.selects RX0 yX0_bellAt yX0_bellAt, Cond.code yX0_bellAt cX0_bellAt 2 (some .int)]
def wsX1_ringOn_r2 : List Cond := [Cond.fieldLink RX0 9 "BellRanks$Change" "row" "[I", Cond.methodLink RX0 30 yX0_put, Cond.instanceMethod yX0_put, Cond.selects RX0 yX0_put yX0_put, Cond.code yX0_put cX0_put 3 none]
def wsX1_ringOn : List Cond := .code yX1_ringOn cX1_ringOn 3 none :: ((wsX1_ringOn_r1 ++ wsX1_ringOn_r2) ++ wsX10 ++ wsX00)
def wsX2_init : List Cond := .code yX2_init cX2_init 1 none :: ([.methodLink RX2 3 objectInit, .instanceMethod objectInit, .code objectInit ⟨#[0xb1]⟩ 1 none, .arrayClass .int, .fieldLink RX2 9 "BellRanks$RankSet" "row" "[I", .fieldLink RX2 15 "BellRanks$RankSet" "size" "I"] ++ wsX20)
def wsX2_size : List Cond := .code yX2_size cX2_size 1 (some .int) :: ([.fieldLink RX2 15 "BellRanks$RankSet" "size" "I"] ++ wsX20)
def wsX2_removeAll : List Cond := .code yX2_removeAll cX2_removeAll 1 none :: ([.fieldLink RX2 15 "BellRanks$RankSet" "size" "I"] ++ wsX20)
def wsX2_add : List Cond := .code yX2_add cX2_add 3 none :: ([.fieldLink RX2 15 "BellRanks$RankSet" "size" "I", .fieldLink RX2 9 "BellRanks$RankSet" "row" "[I"] ++ wsX20)
def wsX3_init_r1 : List Cond := [Cond.methodLink RX3 1 objectInit, Cond.instanceMethod objectInit, Cond.code objectInit ⟨#[0xb1]⟩ 1 none, Cond.classLink RX3 9 RX0, Cond.fieldLink RX3 11 "BellRanks" "book" "[LBellRanks$Change;", Cond.instantiable RX0 2, Cond.initialized RX0, Cond.classLink RX3 16 RX1, Cond.instantiable RX1 2, Cond.initialized RX1, Cond.fieldLink RX3 19 "BellRanks" "method" "LBellRanks$Method;", Cond.fieldLink RX3 23 "BellRanks" "rung" "LBellRanks$Change;", Cond.fieldLink RX3 27 "BellRanks" "made" "LBellRanks$Change;", Cond.classLink RX3 30 RX2, Cond.instantiable RX2 2, Cond.initialized RX2, Cond.fieldLink RX3 33 "BellRanks" "ranks" "LBellRanks$RankSet;", Cond.fieldLink RX3 37 "BellRanks" "bells" "I", Cond.fieldLink RX3 41 "BellRanks" "written" "I", Cond.fieldLink RX3 44 "BellRanks" "rungInAll" "I", Cond.methodLink RX3 15 yX0_init, Cond.instanceMethod yX0_init, Cond.code yX0_init cX0_init 1 none, Cond.methodLink RX0 3 objectInit]
def wsX3_init_r2 : List Cond := [Cond.arrayClass .int, Cond.fieldLink RX0 9 "BellRanks$Change" "row" "[I", Cond.fieldLink RX0 15 "BellRanks$Change" "size" "I", Cond.methodLink RX3 18 yX1_init, Cond.instanceMethod yX1_init, Cond.code yX1_init cX1_init 1 none, Cond.methodLink RX1 3 objectInit, Cond.fieldLink RX1 9 "BellRanks$Method" "steps" "[I", Cond.fieldLink RX1 15 "BellRanks$Method" "length" "I", Cond.methodLink RX3 32 yX2_init, Cond.instanceMethod yX2_init, Cond.code yX2_init cX2_init 1 none, Cond.methodLink RX2 3 objectInit, Cond.fieldLink RX2 9 "BellRanks$RankSet" "row" "[I", Cond.fieldLink RX2 15 "BellRanks$RankSet" "size" "I"]
def wsX3_init : List Cond := .code yX3_init cX3_init 2 none :: ((wsX3_init_r1 ++ wsX3_init_r2) ++ wsX30 ++ wsX00 ++ wsX10 ++ wsX20)
def wsX3_setBells : List Cond := .code yX3_setBells cX3_setBells 3 (some .int) :: ([.classLink RX3 47 "java/lang/IllegalArgumentException", .initialized "java/lang/IllegalArgumentException", .fieldLink RX3 37 "BellRanks" "bells" "I", .fieldLink RX3 41 "BellRanks" "written" "I", .fieldLink RX3 19 "BellRanks" "method" "LBellRanks$Method;", .methodLink RX3 54 yX1_removeAll, .instanceMethod yX1_removeAll, .selects RX1 yX1_removeAll yX1_removeAll, .initialized RX1, .code yX1_removeAll cX1_removeAll 1 none, .fieldLink RX1 15 "BellRanks$Method" "length" "I"] ++ wsX30 ++ wsX10 ++ (vx_atS RX3 51 "java/lang/IllegalArgumentException" ["java/lang/RuntimeException", "java/lang/Exception"]).filter goodWord)
def wsX3_changesOf : List Cond := .code yX3_changesOf cX3_changesOf 3 (some .int) :: ([])
def wsX3_openPage : List Cond := .code yX3_openPage cX3_openPage 2 (some (.object "BellRanks$Change")) :: ([.classLink RX3 114 "java/lang/IllegalStateException", .initialized "java/lang/IllegalStateException", .fieldLink RX3 41 "BellRanks" "written" "I", .fieldLink RX3 11 "BellRanks" "book" "[LBellRanks$Change;"] ++ wsX30 ++ (vx_atS RX3 118 "java/lang/IllegalStateException" ["java/lang/RuntimeException", "java/lang/Exception"]).filter goodWord)
def wsX3_write_r1 : List Cond := [Cond.classLink RX3 61 "java/lang/IndexOutOfBoundsException", Cond.initialized "java/lang/IndexOutOfBoundsException", Cond.fieldLink RX3 37 "BellRanks" "bells" "I", Cond.fieldLink RX3 41 "BellRanks" "written" "I", Cond.methodLink RX3 57 yX3_changesOf, Cond.static yX3_changesOf, Cond.initialized RX3, Cond.code yX3_changesOf cX3_changesOf 3 (some .int), Cond.methodLink RX3 66 yX3_openPage, Cond.instanceMethod yX3_openPage, Cond.selects RX3 yX3_openPage yX3_openPage, Cond.code yX3_openPage cX3_openPage 2 (some (.object "BellRanks$Change")), Cond.classLink RX3 114 "java/lang/IllegalStateException", Cond.initialized "java/lang/IllegalStateException", Cond.fieldLink RX3 11 "BellRanks" "book" "[LBellRanks$Change;", Cond.methodLink RX3 70 yX0_setRank, Cond.instanceMethod yX0_setRank, Cond.selects RX0 yX0_setRank yX0_setRank, Cond.initialized RX0, Cond.code yX0_setRank cX0_setRank 5 none, Cond.fieldLink RX0 15 "BellRanks$Change" "size" "I", Cond.methodLink RX0 26 yX0_insertAhead, Cond.instanceMethod yX0_insertAhead, Cond.selects RX0 yX0_insertAhead yX0_insertAhead]
def wsX3_write_r2 : List Cond := [Cond.code yX0_insertAhead cX0_insertAhead 4 none, Cond.methodLink RX0 30 yX0_put, Cond.instanceMethod yX0_put, Cond.selects RX0 yX0_put yX0_put, Cond.code yX0_put cX0_put 3 none, Cond.fieldLink RX0 9 "BellRanks$Change" "row" "[I", Cond.methodLink RX0 19 yX0_bellAt, Cond.instanceMethod yX0_bellAt, Cond.selects RX0 yX0_bellAt yX0_bellAt, Cond.code yX0_bellAt cX0_bellAt 2 (some .int)]
def wsX3_write : List Cond := .code yX3_write cX3_write 3 (some .int) :: ((wsX3_write_r1 ++ wsX3_write_r2) ++ wsX30 ++ wsX00 ++ (vx_atS RX3 65 "java/lang/IndexOutOfBoundsException" ["java/lang/RuntimeException", "java/lang/Exception"]).filter goodWord ++ (vx_atS RX3 118 "java/lang/IllegalStateException" ["java/lang/RuntimeException", "java/lang/Exception"]).filter goodWord)
def wsX3_find : List Cond := .code yX3_find cX3_find 2 (some (.object "BellRanks$Change")) :: ([.classLink RX3 61 "java/lang/IndexOutOfBoundsException", .initialized "java/lang/IndexOutOfBoundsException", .fieldLink RX3 41 "BellRanks" "written" "I", .fieldLink RX3 11 "BellRanks" "book" "[LBellRanks$Change;"] ++ wsX30 ++ (vx_atS RX3 65 "java/lang/IndexOutOfBoundsException" ["java/lang/RuntimeException", "java/lang/Exception"]).filter goodWord)
def wsX3_swap_r1 : List Cond := [Cond.classLink RX3 61 "java/lang/IndexOutOfBoundsException", Cond.initialized "java/lang/IndexOutOfBoundsException", Cond.fieldLink RX3 37 "BellRanks" "bells" "I", Cond.methodLink RX3 74 yX3_find, Cond.instanceMethod yX3_find, Cond.selects RX3 yX3_find yX3_find, Cond.initialized RX3, Cond.code yX3_find cX3_find 2 (some (.object "BellRanks$Change")), Cond.fieldLink RX3 41 "BellRanks" "written" "I", Cond.fieldLink RX3 11 "BellRanks" "book" "[LBellRanks$Change;", Cond.methodLink RX3 80 yX0_exchange, Cond.instanceMethod yX0_exchange, Cond.selects RX0 yX0_exchange yX0_exchange, Cond.initialized RX0, Cond.code yX0_exchange cX0_exchange 3 none, Cond.methodLink RX0 19 yX0_bellAt, Cond.instanceMethod yX0_bellAt, Cond.selects RX0 yX0_bellAt yX0_bellAt, Cond.code yX0_bellAt cX0_bellAt 2 (some .int), Cond.fieldLink RX0 9 "BellRanks$Change" "row" "[I", Cond.methodLink RX0 30 yX0_put, Cond.instanceMethod yX0_put, Cond.selects RX0 yX0_put yX0_put, Cond.code yX0_put cX0_put 3 none]
def wsX3_swap_r2 : List Cond := [Cond.methodLink RX3 84 yX0_rank, Cond.instanceMethod yX0_rank, Cond.selects RX0 yX0_rank yX0_rank, Cond.code yX0_rank cX0_rank 3 (some .int), Cond.fieldLink RX0 15 "BellRanks$Change" "size" "I", Cond.methodLink RX0 23 yX0_lesserBehind, Cond.instanceMethod yX0_lesserBehind, Cond.selects RX0 yX0_lesserBehind yX0_lesserBehind, Cond.code yX0_lesserBehind cX0_lesserBehind 4 (some .int)]
def wsX3_swap : List Cond := .code yX3_swap cX3_swap 4 (some .int) :: ((wsX3_swap_r1 ++ wsX3_swap_r2) ++ wsX30 ++ wsX00 ++ (vx_atS RX3 65 "java/lang/IndexOutOfBoundsException" ["java/lang/RuntimeException", "java/lang/Exception"]).filter goodWord)
def wsX3_next_r1 : List Cond := [Cond.fieldLink RX3 37 "BellRanks" "bells" "I", Cond.methodLink RX3 74 yX3_find, Cond.instanceMethod yX3_find, Cond.selects RX3 yX3_find yX3_find, Cond.initialized RX3, Cond.code yX3_find cX3_find 2 (some (.object "BellRanks$Change")), Cond.classLink RX3 61 "java/lang/IndexOutOfBoundsException", Cond.initialized "java/lang/IndexOutOfBoundsException", Cond.fieldLink RX3 41 "BellRanks" "written" "I", Cond.fieldLink RX3 11 "BellRanks" "book" "[LBellRanks$Change;", Cond.methodLink RX3 84 yX0_rank, Cond.instanceMethod yX0_rank, Cond.selects RX0 yX0_rank yX0_rank, Cond.initialized RX0, Cond.code yX0_rank cX0_rank 3 (some .int), Cond.fieldLink RX0 15 "BellRanks$Change" "size" "I", Cond.methodLink RX0 23 yX0_lesserBehind, Cond.instanceMethod yX0_lesserBehind, Cond.selects RX0 yX0_lesserBehind yX0_lesserBehind, Cond.code yX0_lesserBehind cX0_lesserBehind 4 (some .int), Cond.methodLink RX0 19 yX0_bellAt, Cond.instanceMethod yX0_bellAt, Cond.selects RX0 yX0_bellAt yX0_bellAt, Cond.code yX0_bellAt cX0_bellAt 2 (some .int)]
def wsX3_next_r2 : List Cond := [Cond.fieldLink RX0 9 "BellRanks$Change" "row" "[I", Cond.methodLink RX3 57 yX3_changesOf, Cond.static yX3_changesOf, Cond.code yX3_changesOf cX3_changesOf 3 (some .int), Cond.methodLink RX3 70 yX0_setRank, Cond.instanceMethod yX0_setRank, Cond.selects RX0 yX0_setRank yX0_setRank, Cond.code yX0_setRank cX0_setRank 5 none, Cond.methodLink RX0 26 yX0_insertAhead, Cond.instanceMethod yX0_insertAhead, Cond.selects RX0 yX0_insertAhead yX0_insertAhead, Cond.code yX0_insertAhead cX0_insertAhead 4 none, Cond.methodLink RX0 30 yX0_put, Cond.instanceMethod yX0_put, Cond.selects RX0 yX0_put yX0_put, Cond.code yX0_put cX0_put 3 none]
def wsX3_next : List Cond := .code yX3_next cX3_next 4 (some .int) :: ((wsX3_next_r1 ++ wsX3_next_r2) ++ wsX30 ++ wsX00 ++ (vx_atS RX3 65 "java/lang/IndexOutOfBoundsException" ["java/lang/RuntimeException", "java/lang/Exception"]).filter goodWord)
def wsX3_behind_r1 : List Cond := [Cond.fieldLink RX3 41 "BellRanks" "written" "I", Cond.methodLink RX3 74 yX3_find, Cond.instanceMethod yX3_find, Cond.selects RX3 yX3_find yX3_find, Cond.initialized RX3, Cond.code yX3_find cX3_find 2 (some (.object "BellRanks$Change")), Cond.classLink RX3 61 "java/lang/IndexOutOfBoundsException", Cond.initialized "java/lang/IndexOutOfBoundsException", Cond.fieldLink RX3 11 "BellRanks" "book" "[LBellRanks$Change;", Cond.methodLink RX3 66 yX3_openPage, Cond.instanceMethod yX3_openPage, Cond.selects RX3 yX3_openPage yX3_openPage, Cond.code yX3_openPage cX3_openPage 2 (some (.object "BellRanks$Change")), Cond.classLink RX3 114 "java/lang/IllegalStateException", Cond.initialized "java/lang/IllegalStateException", Cond.methodLink RX3 88 yX0_setBehind, Cond.instanceMethod yX0_setBehind, Cond.selects RX0 yX0_setBehind yX0_setBehind, Cond.initialized RX0, Cond.code yX0_setBehind cX0_setBehind 4 none, Cond.fieldLink RX0 15 "BellRanks$Change" "size" "I", Cond.methodLink RX0 19 yX0_bellAt, Cond.instanceMethod yX0_bellAt, Cond.selects RX0 yX0_bellAt yX0_bellAt]
def wsX3_behind_r2 : List Cond := [Cond.code yX0_bellAt cX0_bellAt 2 (some .int), Cond.fieldLink RX0 9 "BellRanks$Change" "row" "[I", Cond.methodLink RX0 30 yX0_put, Cond.instanceMethod yX0_put, Cond.selects RX0 yX0_put yX0_put, Cond.code yX0_put cX0_put 3 none]
def wsX3_behind : List Cond := .code yX3_behind cX3_behind 6 (some .int) :: ((wsX3_behind_r1 ++ wsX3_behind_r2) ++ wsX30 ++ wsX00 ++ (vx_atS RX3 65 "java/lang/IndexOutOfBoundsException" ["java/lang/RuntimeException", "java/lang/Exception"]).filter goodWord ++ (vx_atS RX3 118 "java/lang/IllegalStateException" ["java/lang/RuntimeException", "java/lang/Exception"]).filter goodWord)
def wsX3_back_r1 : List Cond := [Cond.fieldLink RX3 27 "BellRanks" "made" "LBellRanks$Change;", Cond.methodLink RX3 74 yX3_find, Cond.instanceMethod yX3_find, Cond.selects RX3 yX3_find yX3_find, Cond.initialized RX3, Cond.code yX3_find cX3_find 2 (some (.object "BellRanks$Change")), Cond.classLink RX3 61 "java/lang/IndexOutOfBoundsException", Cond.initialized "java/lang/IndexOutOfBoundsException", Cond.fieldLink RX3 41 "BellRanks" "written" "I", Cond.fieldLink RX3 11 "BellRanks" "book" "[LBellRanks$Change;", Cond.methodLink RX3 92 yX0_setBack, Cond.instanceMethod yX0_setBack, Cond.selects RX0 yX0_setBack yX0_setBack, Cond.initialized RX0, Cond.code yX0_setBack cX0_setBack 3 none, Cond.fieldLink RX0 15 "BellRanks$Change" "size" "I", Cond.methodLink RX0 19 yX0_bellAt, Cond.instanceMethod yX0_bellAt, Cond.selects RX0 yX0_bellAt yX0_bellAt, Cond.code yX0_bellAt cX0_bellAt 2 (some .int), Cond.fieldLink RX0 9 "BellRanks$Change" "row" "[I", Cond.methodLink RX0 30 yX0_put, Cond.instanceMethod yX0_put, Cond.selects RX0 yX0_put yX0_put]
def wsX3_back_r2 : List Cond := [Cond.code yX0_put cX0_put 3 none, Cond.methodLink RX3 96 yX0_setCopy, Cond.instanceMethod yX0_setCopy, Cond.selects RX0 yX0_setCopy yX0_setCopy, Cond.code yX0_setCopy cX0_setCopy 3 none, Cond.methodLink RX3 84 yX0_rank, Cond.instanceMethod yX0_rank, Cond.selects RX0 yX0_rank yX0_rank, Cond.code yX0_rank cX0_rank 3 (some .int), Cond.methodLink RX0 23 yX0_lesserBehind, Cond.instanceMethod yX0_lesserBehind, Cond.selects RX0 yX0_lesserBehind yX0_lesserBehind, Cond.code yX0_lesserBehind cX0_lesserBehind 4 (some .int)]
def wsX3_back : List Cond := .code yX3_back cX3_back 3 (some .int) :: ((wsX3_back_r1 ++ wsX3_back_r2) ++ wsX30 ++ wsX00 ++ (vx_atS RX3 65 "java/lang/IndexOutOfBoundsException" ["java/lang/RuntimeException", "java/lang/Exception"]).filter goodWord)
def wsX3_repeat_r1 : List Cond := [Cond.classLink RX3 47 "java/lang/IllegalArgumentException", Cond.initialized "java/lang/IllegalArgumentException", Cond.fieldLink RX3 27 "BellRanks" "made" "LBellRanks$Change;", Cond.methodLink RX3 74 yX3_find, Cond.instanceMethod yX3_find, Cond.selects RX3 yX3_find yX3_find, Cond.initialized RX3, Cond.code yX3_find cX3_find 2 (some (.object "BellRanks$Change")), Cond.classLink RX3 61 "java/lang/IndexOutOfBoundsException", Cond.initialized "java/lang/IndexOutOfBoundsException", Cond.fieldLink RX3 41 "BellRanks" "written" "I", Cond.fieldLink RX3 11 "BellRanks" "book" "[LBellRanks$Change;", Cond.methodLink RX3 101 yX0_setRepeated, Cond.instanceMethod yX0_setRepeated, Cond.selects RX0 yX0_setRepeated yX0_setRepeated, Cond.initialized RX0, Cond.code yX0_setRepeated cX0_setRepeated 6 none, Cond.fieldLink RX0 15 "BellRanks$Change" "size" "I", Cond.methodLink RX0 33 yX0_ringLength, Cond.instanceMethod yX0_ringLength, Cond.selects RX0 yX0_ringLength yX0_ringLength, Cond.code yX0_ringLength cX0_ringLength 4 (some .int), Cond.methodLink RX0 19 yX0_bellAt, Cond.instanceMethod yX0_bellAt]
def wsX3_repeat_r2 : List Cond := [Cond.selects RX0 yX0_bellAt yX0_bellAt, Cond.code yX0_bellAt cX0_bellAt 2 (some .int), Cond.fieldLink RX0 9 "BellRanks$Change" "row" "[I", Cond.methodLink RX0 36 yX0_goneFrom, Cond.instanceMethod yX0_goneFrom, Cond.selects RX0 yX0_goneFrom yX0_goneFrom, Cond.code yX0_goneFrom cX0_goneFrom 5 (some .int), Cond.methodLink RX0 30 yX0_put, Cond.instanceMethod yX0_put, Cond.selects RX0 yX0_put yX0_put, Cond.code yX0_put cX0_put 3 none, Cond.methodLink RX3 96 yX0_setCopy, Cond.instanceMethod yX0_setCopy, Cond.selects RX0 yX0_setCopy yX0_setCopy, Cond.code yX0_setCopy cX0_setCopy 3 none, Cond.methodLink RX3 84 yX0_rank, Cond.instanceMethod yX0_rank, Cond.selects RX0 yX0_rank yX0_rank, Cond.code yX0_rank cX0_rank 3 (some .int), Cond.methodLink RX0 23 yX0_lesserBehind, Cond.instanceMethod yX0_lesserBehind, Cond.selects RX0 yX0_lesserBehind yX0_lesserBehind, Cond.code yX0_lesserBehind cX0_lesserBehind 4 (some .int)]
def wsX3_repeat : List Cond := .code yX3_repeat cX3_repeat 4 (some .int) :: ((wsX3_repeat_r1 ++ wsX3_repeat_r2) ++ wsX30 ++ wsX00 ++ (vx_atS RX3 51 "java/lang/IllegalArgumentException" ["java/lang/RuntimeException", "java/lang/Exception"]).filter goodWord ++ (vx_atS RX3 65 "java/lang/IndexOutOfBoundsException" ["java/lang/RuntimeException", "java/lang/Exception"]).filter goodWord)
def wsX3_step : List Cond := .code yX3_step cX3_step 2 (some .int) :: ([.classLink RX3 47 "java/lang/IllegalArgumentException", .initialized "java/lang/IllegalArgumentException", .classLink RX3 114 "java/lang/IllegalStateException", .initialized "java/lang/IllegalStateException", .fieldLink RX3 37 "BellRanks" "bells" "I", .fieldLink RX3 19 "BellRanks" "method" "LBellRanks$Method;", .methodLink RX3 105 yX1_isStep, .static yX1_isStep, .initialized RX1, .code yX1_isStep cX1_isStep 3 (some .boolean), .methodLink RX1 19 yX1_keeps, .static yX1_keeps, .code yX1_keeps cX1_keeps 2 (some .boolean), .methodLink RX3 111 yX1_length, .instanceMethod yX1_length, .selects RX1 yX1_length yX1_length, .code yX1_length cX1_length 1 (some .int), .fieldLink RX1 15 "BellRanks$Method" "length" "I", .methodLink RX3 119 yX1_add, .instanceMethod yX1_add, .selects RX1 yX1_add yX1_add, .code yX1_add cX1_add 2 none, .fieldLink RX1 9 "BellRanks$Method" "steps" "[I"] ++ wsX30 ++ wsX10 ++ (vx_atS RX3 51 "java/lang/IllegalArgumentException" ["java/lang/RuntimeException", "java/lang/Exception"]).filter goodWord ++ (vx_atS RX3 118 "java/lang/IllegalStateException" ["java/lang/RuntimeException", "java/lang/Exception"]).filter goodWord)
def wsX3_clear : List Cond := .code yX3_clear cX3_clear 2 (some .int) :: ([.fieldLink RX3 19 "BellRanks" "method" "LBellRanks$Method;", .methodLink RX3 111 yX1_length, .instanceMethod yX1_length, .selects RX1 yX1_length yX1_length, .initialized RX1, .code yX1_length cX1_length 1 (some .int), .fieldLink RX1 15 "BellRanks$Method" "length" "I", .methodLink RX3 54 yX1_removeAll, .instanceMethod yX1_removeAll, .selects RX1 yX1_removeAll yX1_removeAll, .code yX1_removeAll cX1_removeAll 1 none] ++ wsX30 ++ wsX10)
def wsX3_checkSteps : List Cond := .code yX3_checkSteps cX3_checkSteps 1 none :: ([.classLink RX3 47 "java/lang/IllegalArgumentException", .initialized "java/lang/IllegalArgumentException"] ++ (vx_atS RX3 51 "java/lang/IllegalArgumentException" ["java/lang/RuntimeException", "java/lang/Exception"]).filter goodWord)
def wsX3_ring_r1 : List Cond := [Cond.fieldLink RX3 19 "BellRanks" "method" "LBellRanks$Method;", Cond.fieldLink RX3 44 "BellRanks" "rungInAll" "I", Cond.methodLink RX3 74 yX3_find, Cond.instanceMethod yX3_find, Cond.selects RX3 yX3_find yX3_find, Cond.initialized RX3, Cond.code yX3_find cX3_find 2 (some (.object "BellRanks$Change")), Cond.classLink RX3 61 "java/lang/IndexOutOfBoundsException", Cond.initialized "java/lang/IndexOutOfBoundsException", Cond.fieldLink RX3 41 "BellRanks" "written" "I", Cond.fieldLink RX3 11 "BellRanks" "book" "[LBellRanks$Change;", Cond.methodLink RX3 122 yX3_checkSteps, Cond.static yX3_checkSteps, Cond.code yX3_checkSteps cX3_checkSteps 1 none, Cond.classLink RX3 47 "java/lang/IllegalArgumentException", Cond.initialized "java/lang/IllegalArgumentException", Cond.methodLink RX3 111 yX1_length, Cond.instanceMethod yX1_length, Cond.selects RX1 yX1_length yX1_length, Cond.initialized RX1, Cond.code yX1_length cX1_length 1 (some .int), Cond.fieldLink RX1 15 "BellRanks$Method" "length" "I", Cond.methodLink RX3 125 yX1_ringOn, Cond.instanceMethod yX1_ringOn]
def wsX3_ring_r2 : List Cond := [Cond.selects RX1 yX1_ringOn yX1_ringOn, Cond.code yX1_ringOn cX1_ringOn 3 none, Cond.methodLink RX1 23 yX1_keptAt, Cond.instanceMethod yX1_keptAt, Cond.selects RX1 yX1_keptAt yX1_keptAt, Cond.code yX1_keptAt cX1_keptAt 2 (some .int), Cond.fieldLink RX1 9 "BellRanks$Method" "steps" "[I", Cond.methodLink RX1 27 yX0_ringStep, Cond.instanceMethod yX0_ringStep, Cond.selects RX0 yX0_ringStep yX0_ringStep, Cond.initialized RX0, Cond.code yX0_ringStep cX0_ringStep 3 none, Cond.fieldLink RX0 15 "BellRanks$Change" "size" "I", Cond.methodLink RX0 40 yX1_keeps, Cond.static yX1_keeps, Cond.code yX1_keeps cX1_keeps 2 (some .boolean), Cond.methodLink RX0 46 yX0_exchange, Cond.instanceMethod yX0_exchange, Cond.selects RX0 yX0_exchange yX0_exchange, Cond.code yX0_exchange cX0_exchange 3 none, Cond.methodLink RX0 19 yX0_bellAt, Cond.instanceMethod yX0_bellAt, Cond.selects RX0 yX0_bellAt yX0_bellAt, Cond.code yX0_bellAt cX0_bellAt 2 (some .int)]
def wsX3_ring_r3 : List Cond := [Cond.fieldLink RX0 9 "BellRanks$Change" "row" "[I", Cond.methodLink RX0 30 yX0_put, Cond.instanceMethod yX0_put, Cond.selects RX0 yX0_put yX0_put, Cond.code yX0_put cX0_put 3 none, Cond.methodLink RX3 84 yX0_rank, Cond.instanceMethod yX0_rank, Cond.selects RX0 yX0_rank yX0_rank, Cond.code yX0_rank cX0_rank 3 (some .int), Cond.methodLink RX0 23 yX0_lesserBehind, Cond.instanceMethod yX0_lesserBehind, Cond.selects RX0 yX0_lesserBehind yX0_lesserBehind, Cond.code yX0_lesserBehind cX0_lesserBehind 4 (some .int)]
def wsX3_ring : List Cond := .code yX3_ring cX3_ring 5 (some .int) :: ((wsX3_ring_r1 ++ (wsX3_ring_r2 ++ wsX3_ring_r3)) ++ wsX30 ++ wsX10 ++ wsX00 ++ (vx_atS RX3 65 "java/lang/IndexOutOfBoundsException" ["java/lang/RuntimeException", "java/lang/Exception"]).filter goodWord ++ (vx_atS RX3 51 "java/lang/IllegalArgumentException" ["java/lang/RuntimeException", "java/lang/Exception"]).filter goodWord)
def wsX3_checkPlace : List Cond := .code yX3_checkPlace cX3_checkPlace 2 none :: ([.classLink RX3 61 "java/lang/IndexOutOfBoundsException", .initialized "java/lang/IndexOutOfBoundsException", .fieldLink RX3 37 "BellRanks" "bells" "I"] ++ wsX30 ++ (vx_atS RX3 65 "java/lang/IndexOutOfBoundsException" ["java/lang/RuntimeException", "java/lang/Exception"]).filter goodWord)
def wsX3_bell : List Cond := .code yX3_bell cX3_bell 4 (some .int) :: ([.methodLink RX3 74 yX3_find, .instanceMethod yX3_find, .selects RX3 yX3_find yX3_find, .initialized RX3, .code yX3_find cX3_find 2 (some (.object "BellRanks$Change")), .classLink RX3 61 "java/lang/IndexOutOfBoundsException", .initialized "java/lang/IndexOutOfBoundsException", .fieldLink RX3 41 "BellRanks" "written" "I", .fieldLink RX3 11 "BellRanks" "book" "[LBellRanks$Change;", .methodLink RX3 128 yX3_checkPlace, .instanceMethod yX3_checkPlace, .selects RX3 yX3_checkPlace yX3_checkPlace, .code yX3_checkPlace cX3_checkPlace 2 none, .fieldLink RX3 37 "BellRanks" "bells" "I", .methodLink RX3 131 yX0_bellAt, .instanceMethod yX0_bellAt, .selects RX0 yX0_bellAt yX0_bellAt, .initialized RX0, .code yX0_bellAt cX0_bellAt 2 (some .int), .fieldLink RX0 9 "BellRanks$Change" "row" "[I"] ++ wsX30 ++ wsX00 ++ (vx_atS RX3 65 "java/lang/IndexOutOfBoundsException" ["java/lang/RuntimeException", "java/lang/Exception"]).filter goodWord)
def wsX3_told_r1 : List Cond := [Cond.classLink RX3 61 "java/lang/IndexOutOfBoundsException", Cond.initialized "java/lang/IndexOutOfBoundsException", Cond.methodLink RX3 74 yX3_find, Cond.instanceMethod yX3_find, Cond.selects RX3 yX3_find yX3_find, Cond.initialized RX3, Cond.code yX3_find cX3_find 2 (some (.object "BellRanks$Change")), Cond.fieldLink RX3 41 "BellRanks" "written" "I", Cond.fieldLink RX3 11 "BellRanks" "book" "[LBellRanks$Change;", Cond.methodLink RX3 84 yX0_rank, Cond.instanceMethod yX0_rank, Cond.selects RX0 yX0_rank yX0_rank, Cond.initialized RX0, Cond.code yX0_rank cX0_rank 3 (some .int), Cond.fieldLink RX0 15 "BellRanks$Change" "size" "I", Cond.methodLink RX0 23 yX0_lesserBehind, Cond.instanceMethod yX0_lesserBehind, Cond.selects RX0 yX0_lesserBehind yX0_lesserBehind, Cond.code yX0_lesserBehind cX0_lesserBehind 4 (some .int), Cond.methodLink RX0 19 yX0_bellAt, Cond.instanceMethod yX0_bellAt, Cond.selects RX0 yX0_bellAt yX0_bellAt, Cond.code yX0_bellAt cX0_bellAt 2 (some .int), Cond.fieldLink RX0 9 "BellRanks$Change" "row" "[I"]
def wsX3_told_r2 : List Cond := [Cond.methodLink RX3 134 yX0_inversions, Cond.instanceMethod yX0_inversions, Cond.selects RX0 yX0_inversions yX0_inversions, Cond.code yX0_inversions cX0_inversions 3 (some .int), Cond.methodLink RX3 137 yX0_ringCount, Cond.instanceMethod yX0_ringCount, Cond.selects RX0 yX0_ringCount yX0_ringCount, Cond.code yX0_ringCount cX0_ringCount 3 (some .int), Cond.methodLink RX0 50 yX0_isLeastOfRing, Cond.instanceMethod yX0_isLeastOfRing, Cond.selects RX0 yX0_isLeastOfRing yX0_isLeastOfRing, Cond.code yX0_isLeastOfRing cX0_isLeastOfRing 4 (some .boolean), Cond.methodLink RX3 140 yX0_longestRing, Cond.instanceMethod yX0_longestRing, Cond.selects RX0 yX0_longestRing yX0_longestRing, Cond.code yX0_longestRing cX0_longestRing 3 (some .int), Cond.methodLink RX0 54 Lib.Math.max.name, Cond.static Lib.Math.max.name, Cond.initialized "java/lang/Math", Cond.code Lib.Math.max.name Lib.Math.max.code 2 (some .int), Cond.methodLink RX0 33 yX0_ringLength, Cond.instanceMethod yX0_ringLength, Cond.selects RX0 yX0_ringLength yX0_ringLength, Cond.code yX0_ringLength cX0_ringLength 4 (some .int)]
def wsX3_told_r3 : List Cond := [Cond.methodLink RX3 143 yX0_order, Cond.instanceMethod yX0_order, Cond.selects RX0 yX0_order yX0_order, Cond.code yX0_order cX0_order 3 (some .int), Cond.methodLink RX0 59 yX0_leastMultiple, Cond.static yX0_leastMultiple, Cond.code yX0_leastMultiple cX0_leastMultiple 4 (some .int), Cond.methodLink RX3 146 yX0_ownPlaces, Cond.instanceMethod yX0_ownPlaces, Cond.selects RX0 yX0_ownPlaces yX0_ownPlaces, Cond.code yX0_ownPlaces cX0_ownPlaces 3 (some .int), Cond.methodLink RX3 149 yX0_placeOf, Cond.instanceMethod yX0_placeOf, Cond.selects RX0 yX0_placeOf yX0_placeOf, Cond.code yX0_placeOf cX0_placeOf 3 (some .int)]
def wsX3_told : List Cond := .code yX3_told cX3_told 4 (some .int) :: ((wsX3_told_r1 ++ (wsX3_told_r2 ++ wsX3_told_r3)) ++ wsX30 ++ wsX00 ++ (vx_atS RX3 65 "java/lang/IndexOutOfBoundsException" ["java/lang/RuntimeException", "java/lang/Exception"]).filter goodWord)
def wsX3_round_r1 : List Cond := [Cond.methodLink RX3 74 yX3_find, Cond.instanceMethod yX3_find, Cond.selects RX3 yX3_find yX3_find, Cond.initialized RX3, Cond.code yX3_find cX3_find 2 (some (.object "BellRanks$Change")), Cond.classLink RX3 61 "java/lang/IndexOutOfBoundsException", Cond.initialized "java/lang/IndexOutOfBoundsException", Cond.fieldLink RX3 41 "BellRanks" "written" "I", Cond.fieldLink RX3 11 "BellRanks" "book" "[LBellRanks$Change;", Cond.methodLink RX3 128 yX3_checkPlace, Cond.instanceMethod yX3_checkPlace, Cond.selects RX3 yX3_checkPlace yX3_checkPlace, Cond.code yX3_checkPlace cX3_checkPlace 2 none, Cond.fieldLink RX3 37 "BellRanks" "bells" "I", Cond.methodLink RX3 154 yX0_ringLength, Cond.instanceMethod yX0_ringLength, Cond.selects RX0 yX0_ringLength yX0_ringLength, Cond.initialized RX0, Cond.code yX0_ringLength cX0_ringLength 4 (some .int), Cond.fieldLink RX0 15 "BellRanks$Change" "size" "I", Cond.methodLink RX0 19 yX0_bellAt, Cond.instanceMethod yX0_bellAt, Cond.selects RX0 yX0_bellAt yX0_bellAt, Cond.code yX0_bellAt cX0_bellAt 2 (some .int)]
def wsX3_round_r2 : List Cond := [Cond.fieldLink RX0 9 "BellRanks$Change" "row" "[I"]
def wsX3_round : List Cond := .code yX3_round cX3_round 4 (some .int) :: ((wsX3_round_r1 ++ wsX3_round_r2) ++ wsX30 ++ wsX00 ++ (vx_atS RX3 65 "java/lang/IndexOutOfBoundsException" ["java/lang/RuntimeException", "java/lang/Exception"]).filter goodWord)
def wsX3_apart : List Cond := .code yX3_apart cX3_apart 8 (some .int) :: ([.fieldLink RX3 37 "BellRanks" "bells" "I", .methodLink RX3 74 yX3_find, .instanceMethod yX3_find, .selects RX3 yX3_find yX3_find, .initialized RX3, .code yX3_find cX3_find 2 (some (.object "BellRanks$Change")), .classLink RX3 61 "java/lang/IndexOutOfBoundsException", .initialized "java/lang/IndexOutOfBoundsException", .fieldLink RX3 41 "BellRanks" "written" "I", .fieldLink RX3 11 "BellRanks" "book" "[LBellRanks$Change;", .methodLink RX3 131 yX0_bellAt, .instanceMethod yX0_bellAt, .selects RX0 yX0_bellAt yX0_bellAt, .initialized RX0, .code yX0_bellAt cX0_bellAt 2 (some .int), .fieldLink RX0 9 "BellRanks$Change" "row" "[I", .methodLink RX3 149 yX0_placeOf, .instanceMethod yX0_placeOf, .selects RX0 yX0_placeOf yX0_placeOf, .code yX0_placeOf cX0_placeOf 3 (some .int), .fieldLink RX0 15 "BellRanks$Change" "size" "I", .methodLink RX0 19 yX0_bellAt] ++ wsX30 ++ wsX00 ++ (vx_atS RX3 65 "java/lang/IndexOutOfBoundsException" ["java/lang/RuntimeException", "java/lang/Exception"]).filter goodWord)
def wsX3_differentInBook_r1 : List Cond := [Cond.fieldLink RX3 33 "BellRanks" "ranks" "LBellRanks$RankSet;", Cond.fieldLink RX3 41 "BellRanks" "written" "I", Cond.fieldLink RX3 11 "BellRanks" "book" "[LBellRanks$Change;", Cond.methodLink RX3 171 yX2_removeAll, Cond.instanceMethod yX2_removeAll, Cond.selects RX2 yX2_removeAll yX2_removeAll, Cond.initialized RX2, Cond.code yX2_removeAll cX2_removeAll 1 none, Cond.fieldLink RX2 15 "BellRanks$RankSet" "size" "I", Cond.methodLink RX3 84 yX0_rank, Cond.instanceMethod yX0_rank, Cond.selects RX0 yX0_rank yX0_rank, Cond.initialized RX0, Cond.code yX0_rank cX0_rank 3 (some .int), Cond.fieldLink RX0 15 "BellRanks$Change" "size" "I", Cond.methodLink RX0 23 yX0_lesserBehind, Cond.instanceMethod yX0_lesserBehind, Cond.selects RX0 yX0_lesserBehind yX0_lesserBehind, Cond.code yX0_lesserBehind cX0_lesserBehind 4 (some .int), Cond.methodLink RX0 19 yX0_bellAt, Cond.instanceMethod yX0_bellAt, Cond.selects RX0 yX0_bellAt yX0_bellAt, Cond.code yX0_bellAt cX0_bellAt 2 (some .int), Cond.fieldLink RX0 9 "BellRanks$Change" "row" "[I"]
def wsX3_differentInBook_r2 : List Cond := [Cond.methodLink RX3 172 yX2_add, Cond.instanceMethod yX2_add, Cond.selects RX2 yX2_add yX2_add, Cond.code yX2_add cX2_add 3 none, Cond.fieldLink RX2 9 "BellRanks$RankSet" "row" "[I", Cond.methodLink RX3 173 yX2_size, Cond.instanceMethod yX2_size, Cond.selects RX2 yX2_size yX2_size, Cond.code yX2_size cX2_size 1 (some .int)]
def wsX3_differentInBook : List Cond := .code yX3_differentInBook cX3_differentInBook 2 (some .int) :: ((wsX3_differentInBook_r1 ++ wsX3_differentInBook_r2) ++ wsX30 ++ wsX20 ++ wsX00)
def wsX3_count_r1 : List Cond := [Cond.classLink RX3 61 "java/lang/IndexOutOfBoundsException", Cond.initialized "java/lang/IndexOutOfBoundsException", Cond.fieldLink RX3 37 "BellRanks" "bells" "I", Cond.fieldLink RX3 41 "BellRanks" "written" "I", Cond.fieldLink RX3 19 "BellRanks" "method" "LBellRanks$Method;", Cond.fieldLink RX3 44 "BellRanks" "rungInAll" "I", Cond.methodLink RX3 57 yX3_changesOf, Cond.static yX3_changesOf, Cond.initialized RX3, Cond.code yX3_changesOf cX3_changesOf 3 (some .int), Cond.methodLink RX3 157 yX3_differentInBook, Cond.instanceMethod yX3_differentInBook, Cond.selects RX3 yX3_differentInBook yX3_differentInBook, Cond.code yX3_differentInBook cX3_differentInBook 2 (some .int), Cond.fieldLink RX3 33 "BellRanks" "ranks" "LBellRanks$RankSet;", Cond.fieldLink RX3 11 "BellRanks" "book" "[LBellRanks$Change;", Cond.methodLink RX3 171 yX2_removeAll, Cond.instanceMethod yX2_removeAll, Cond.selects RX2 yX2_removeAll yX2_removeAll, Cond.initialized RX2, Cond.code yX2_removeAll cX2_removeAll 1 none, Cond.fieldLink RX2 15 "BellRanks$RankSet" "size" "I", Cond.methodLink RX3 84 yX0_rank, Cond.instanceMethod yX0_rank]
def wsX3_count_r2 : List Cond := [Cond.selects RX0 yX0_rank yX0_rank, Cond.initialized RX0, Cond.code yX0_rank cX0_rank 3 (some .int), Cond.fieldLink RX0 15 "BellRanks$Change" "size" "I", Cond.methodLink RX0 23 yX0_lesserBehind, Cond.instanceMethod yX0_lesserBehind, Cond.selects RX0 yX0_lesserBehind yX0_lesserBehind, Cond.code yX0_lesserBehind cX0_lesserBehind 4 (some .int), Cond.methodLink RX0 19 yX0_bellAt, Cond.instanceMethod yX0_bellAt, Cond.selects RX0 yX0_bellAt yX0_bellAt, Cond.code yX0_bellAt cX0_bellAt 2 (some .int), Cond.fieldLink RX0 9 "BellRanks$Change" "row" "[I", Cond.methodLink RX3 172 yX2_add, Cond.instanceMethod yX2_add, Cond.selects RX2 yX2_add yX2_add, Cond.code yX2_add cX2_add 3 none, Cond.fieldLink RX2 9 "BellRanks$RankSet" "row" "[I", Cond.methodLink RX3 173 yX2_size, Cond.instanceMethod yX2_size, Cond.selects RX2 yX2_size yX2_size, Cond.code yX2_size cX2_size 1 (some .int), Cond.methodLink RX3 111 yX1_length, Cond.instanceMethod yX1_length]
def wsX3_count_r3 : List Cond := [Cond.selects RX1 yX1_length yX1_length, Cond.initialized RX1, Cond.code yX1_length cX1_length 1 (some .int), Cond.fieldLink RX1 15 "BellRanks$Method" "length" "I"]
def wsX3_count : List Cond := .code yX3_count cX3_count 2 (some .int) :: ((wsX3_count_r1 ++ (wsX3_count_r2 ++ wsX3_count_r3)) ++ wsX30 ++ wsX20 ++ wsX00 ++ wsX10 ++ (vx_atS RX3 65 "java/lang/IndexOutOfBoundsException" ["java/lang/RuntimeException", "java/lang/Exception"]).filter goodWord)
def wsX3_kept : List Cond := .code yX3_kept cX3_kept 2 (some .int) :: ([.classLink RX3 61 "java/lang/IndexOutOfBoundsException", .initialized "java/lang/IndexOutOfBoundsException", .fieldLink RX3 19 "BellRanks" "method" "LBellRanks$Method;", .methodLink RX3 111 yX1_length, .instanceMethod yX1_length, .selects RX1 yX1_length yX1_length, .initialized RX1, .code yX1_length cX1_length 1 (some .int), .fieldLink RX1 15 "BellRanks$Method" "length" "I", .methodLink RX3 164 yX1_keptAt, .instanceMethod yX1_keptAt, .selects RX1 yX1_keptAt yX1_keptAt, .code yX1_keptAt cX1_keptAt 2 (some .int), .fieldLink RX1 9 "BellRanks$Method" "steps" "[I"] ++ wsX30 ++ wsX10 ++ (vx_atS RX3 65 "java/lang/IndexOutOfBoundsException" ["java/lang/RuntimeException", "java/lang/Exception"]).filter goodWord)
def wsX3_comes_r1 : List Cond := [Cond.fieldLink RX3 19 "BellRanks" "method" "LBellRanks$Method;", Cond.fieldLink RX3 23 "BellRanks" "rung" "LBellRanks$Change;", Cond.methodLink RX3 74 yX3_find, Cond.instanceMethod yX3_find, Cond.selects RX3 yX3_find yX3_find, Cond.initialized RX3, Cond.code yX3_find cX3_find 2 (some (.object "BellRanks$Change")), Cond.classLink RX3 61 "java/lang/IndexOutOfBoundsException", Cond.initialized "java/lang/IndexOutOfBoundsException", Cond.fieldLink RX3 41 "BellRanks" "written" "I", Cond.fieldLink RX3 11 "BellRanks" "book" "[LBellRanks$Change;", Cond.methodLink RX3 111 yX1_length, Cond.instanceMethod yX1_length, Cond.selects RX1 yX1_length yX1_length, Cond.initialized RX1, Cond.code yX1_length cX1_length 1 (some .int), Cond.fieldLink RX1 15 "BellRanks$Method" "length" "I", Cond.methodLink RX3 96 yX0_setCopy, Cond.instanceMethod yX0_setCopy, Cond.selects RX0 yX0_setCopy yX0_setCopy, Cond.initialized RX0, Cond.code yX0_setCopy cX0_setCopy 3 none, Cond.fieldLink RX0 15 "BellRanks$Change" "size" "I", Cond.methodLink RX0 19 yX0_bellAt]
def wsX3_comes_r2 : List Cond := [Cond.instanceMethod yX0_bellAt, Cond.selects RX0 yX0_bellAt yX0_bellAt, Cond.code yX0_bellAt cX0_bellAt 2 (some .int), Cond.fieldLink RX0 9 "BellRanks$Change" "row" "[I", Cond.methodLink RX0 30 yX0_put, Cond.instanceMethod yX0_put, Cond.selects RX0 yX0_put yX0_put, Cond.code yX0_put cX0_put 3 none, Cond.methodLink RX3 125 yX1_ringOn, Cond.instanceMethod yX1_ringOn, Cond.selects RX1 yX1_ringOn yX1_ringOn, Cond.code yX1_ringOn cX1_ringOn 3 none, Cond.methodLink RX1 23 yX1_keptAt, Cond.instanceMethod yX1_keptAt, Cond.selects RX1 yX1_keptAt yX1_keptAt, Cond.code yX1_keptAt cX1_keptAt 2 (some .int), Cond.fieldLink RX1 9 "BellRanks$Method" "steps" "[I", Cond.methodLink RX1 27 yX0_ringStep, Cond.instanceMethod yX0_ringStep, Cond.selects RX0 yX0_ringStep yX0_ringStep, Cond.code yX0_ringStep cX0_ringStep 3 none, Cond.methodLink RX0 40 yX1_keeps, Cond.static yX1_keeps, Cond.code yX1_keeps cX1_keeps 2 (some .boolean)]
def wsX3_comes_r3 : List Cond := [Cond.methodLink RX0 46 yX0_exchange, Cond.instanceMethod yX0_exchange, Cond.selects RX0 yX0_exchange yX0_exchange, Cond.code yX0_exchange cX0_exchange 3 none, Cond.methodLink RX3 167 yX0_isSame, Cond.instanceMethod yX0_isSame, Cond.selects RX0 yX0_isSame yX0_isSame, Cond.code yX0_isSame cX0_isSame 3 (some .boolean)]
def wsX3_comes : List Cond := .code yX3_comes cX3_comes 4 (some .int) :: ((wsX3_comes_r1 ++ (wsX3_comes_r2 ++ wsX3_comes_r3)) ++ wsX30 ++ wsX10 ++ wsX00 ++ (vx_atS RX3 65 "java/lang/IndexOutOfBoundsException" ["java/lang/RuntimeException", "java/lang/Exception"]).filter goodWord)
def wsX3_differ_r1 : List Cond := [Cond.fieldLink RX3 23 "BellRanks" "rung" "LBellRanks$Change;", Cond.fieldLink RX3 37 "BellRanks" "bells" "I", Cond.fieldLink RX3 33 "BellRanks" "ranks" "LBellRanks$RankSet;", Cond.fieldLink RX3 19 "BellRanks" "method" "LBellRanks$Method;", Cond.methodLink RX3 122 yX3_checkSteps, Cond.static yX3_checkSteps, Cond.initialized RX3, Cond.code yX3_checkSteps cX3_checkSteps 1 none, Cond.classLink RX3 47 "java/lang/IllegalArgumentException", Cond.initialized "java/lang/IllegalArgumentException", Cond.methodLink RX3 70 yX0_setRank, Cond.instanceMethod yX0_setRank, Cond.selects RX0 yX0_setRank yX0_setRank, Cond.initialized RX0, Cond.code yX0_setRank cX0_setRank 5 none, Cond.fieldLink RX0 15 "BellRanks$Change" "size" "I", Cond.methodLink RX0 26 yX0_insertAhead, Cond.instanceMethod yX0_insertAhead, Cond.selects RX0 yX0_insertAhead yX0_insertAhead, Cond.code yX0_insertAhead cX0_insertAhead 4 none, Cond.methodLink RX0 30 yX0_put, Cond.instanceMethod yX0_put, Cond.selects RX0 yX0_put yX0_put, Cond.code yX0_put cX0_put 3 none]
def wsX3_differ_r2 : List Cond := [Cond.fieldLink RX0 9 "BellRanks$Change" "row" "[I", Cond.methodLink RX0 19 yX0_bellAt, Cond.instanceMethod yX0_bellAt, Cond.selects RX0 yX0_bellAt yX0_bellAt, Cond.code yX0_bellAt cX0_bellAt 2 (some .int), Cond.methodLink RX3 171 yX2_removeAll, Cond.instanceMethod yX2_removeAll, Cond.selects RX2 yX2_removeAll yX2_removeAll, Cond.initialized RX2, Cond.code yX2_removeAll cX2_removeAll 1 none, Cond.fieldLink RX2 15 "BellRanks$RankSet" "size" "I", Cond.methodLink RX3 84 yX0_rank, Cond.instanceMethod yX0_rank, Cond.selects RX0 yX0_rank yX0_rank, Cond.code yX0_rank cX0_rank 3 (some .int), Cond.methodLink RX0 23 yX0_lesserBehind, Cond.instanceMethod yX0_lesserBehind, Cond.selects RX0 yX0_lesserBehind yX0_lesserBehind, Cond.code yX0_lesserBehind cX0_lesserBehind 4 (some .int), Cond.methodLink RX3 172 yX2_add, Cond.instanceMethod yX2_add, Cond.selects RX2 yX2_add yX2_add, Cond.code yX2_add cX2_add 3 none, Cond.fieldLink RX2 9 "BellRanks$RankSet" "row" "[I"]
def wsX3_differ_r3 : List Cond := [Cond.methodLink RX3 111 yX1_length, Cond.instanceMethod yX1_length, Cond.selects RX1 yX1_length yX1_length, Cond.initialized RX1, Cond.code yX1_length cX1_length 1 (some .int), Cond.fieldLink RX1 15 "BellRanks$Method" "length" "I", Cond.methodLink RX3 125 yX1_ringOn, Cond.instanceMethod yX1_ringOn, Cond.selects RX1 yX1_ringOn yX1_ringOn, Cond.code yX1_ringOn cX1_ringOn 3 none, Cond.methodLink RX1 23 yX1_keptAt, Cond.instanceMethod yX1_keptAt, Cond.selects RX1 yX1_keptAt yX1_keptAt, Cond.code yX1_keptAt cX1_keptAt 2 (some .int), Cond.fieldLink RX1 9 "BellRanks$Method" "steps" "[I", Cond.methodLink RX1 27 yX0_ringStep, Cond.instanceMethod yX0_ringStep, Cond.selects RX0 yX0_ringStep yX0_ringStep, Cond.code yX0_ringStep cX0_ringStep 3 none, Cond.methodLink RX0 40 yX1_keeps, Cond.static yX1_keeps, Cond.code yX1_keeps cX1_keeps 2 (some .boolean), Cond.methodLink RX0 46 yX0_exchange, Cond.instanceMethod yX0_exchange]
def wsX3_differ_r4 : List Cond := [Cond.selects RX0 yX0_exchange yX0_exchange, Cond.code yX0_exchange cX0_exchange 3 none, Cond.methodLink RX3 173 yX2_size, Cond.instanceMethod yX2_size, Cond.selects RX2 yX2_size yX2_size, Cond.code yX2_size cX2_size 1 (some .int)]
def wsX3_differ : List Cond := .code yX3_differ cX3_differ 3 (some .int) :: ((wsX3_differ_r1 ++ (wsX3_differ_r2 ++ (wsX3_differ_r3 ++ wsX3_differ_r4))) ++ wsX30 ++ wsX00 ++ wsX20 ++ wsX10 ++ (vx_atS RX3 51 "java/lang/IllegalArgumentException" ["java/lang/RuntimeException", "java/lang/Exception"]).filter goodWord)
def wsX3_advise_r1 : List Cond := [Cond.fieldLink RX3 41 "BellRanks" "written" "I", Cond.fieldLink RX3 27 "BellRanks" "made" "LBellRanks$Change;", Cond.fieldLink RX3 11 "BellRanks" "book" "[LBellRanks$Change;", Cond.methodLink RX3 74 yX3_find, Cond.instanceMethod yX3_find, Cond.selects RX3 yX3_find yX3_find, Cond.initialized RX3, Cond.code yX3_find cX3_find 2 (some (.object "BellRanks$Change")), Cond.classLink RX3 61 "java/lang/IndexOutOfBoundsException", Cond.initialized "java/lang/IndexOutOfBoundsException", Cond.methodLink RX3 88 yX0_setBehind, Cond.instanceMethod yX0_setBehind, Cond.selects RX0 yX0_setBehind yX0_setBehind, Cond.initialized RX0, Cond.code yX0_setBehind cX0_setBehind 4 none, Cond.fieldLink RX0 15 "BellRanks$Change" "size" "I", Cond.methodLink RX0 19 yX0_bellAt, Cond.instanceMethod yX0_bellAt, Cond.selects RX0 yX0_bellAt yX0_bellAt, Cond.code yX0_bellAt cX0_bellAt 2 (some .int), Cond.fieldLink RX0 9 "BellRanks$Change" "row" "[I", Cond.methodLink RX0 30 yX0_put, Cond.instanceMethod yX0_put, Cond.selects RX0 yX0_put yX0_put]
def wsX3_advise_r2 : List Cond := [Cond.code yX0_put cX0_put 3 none, Cond.methodLink RX3 134 yX0_inversions, Cond.instanceMethod yX0_inversions, Cond.selects RX0 yX0_inversions yX0_inversions, Cond.code yX0_inversions cX0_inversions 3 (some .int), Cond.methodLink RX0 23 yX0_lesserBehind, Cond.instanceMethod yX0_lesserBehind, Cond.selects RX0 yX0_lesserBehind yX0_lesserBehind, Cond.code yX0_lesserBehind cX0_lesserBehind 4 (some .int)]
def wsX3_advise : List Cond := .code yX3_advise cX3_advise 7 (some .int) :: ((wsX3_advise_r1 ++ wsX3_advise_r2) ++ wsX30 ++ wsX00 ++ (vx_atS RX3 65 "java/lang/IndexOutOfBoundsException" ["java/lang/RuntimeException", "java/lang/Exception"]).filter goodWord)
def wsX3_mean : List Cond := .code yX3_mean cX3_mean 3 (some .double) :: ([.fieldLink RX3 41 "BellRanks" "written" "I", .fieldLink RX3 11 "BellRanks" "book" "[LBellRanks$Change;", .methodLink RX3 84 yX0_rank, .instanceMethod yX0_rank, .selects RX0 yX0_rank yX0_rank, .initialized RX0, .code yX0_rank cX0_rank 3 (some .int), .fieldLink RX0 15 "BellRanks$Change" "size" "I", .methodLink RX0 23 yX0_lesserBehind, .instanceMethod yX0_lesserBehind, .selects RX0 yX0_lesserBehind yX0_lesserBehind, .code yX0_lesserBehind cX0_lesserBehind 4 (some .int), .methodLink RX0 19 yX0_bellAt, .instanceMethod yX0_bellAt, .selects RX0 yX0_bellAt yX0_bellAt, .code yX0_bellAt cX0_bellAt 2 (some .int), .fieldLink RX0 9 "BellRanks$Change" "row" "[I"] ++ wsX30 ++ wsX00)
def wsX3_digest_r1 : List Cond := [Cond.constantLong RX3 176 (1579), Cond.constantLong RX3 178 (31), Cond.fieldLink RX3 41 "BellRanks" "written" "I", Cond.fieldLink RX3 37 "BellRanks" "bells" "I", Cond.fieldLink RX3 19 "BellRanks" "method" "LBellRanks$Method;", Cond.methodLink RX3 180 yX3_count, Cond.instanceMethod yX3_count, Cond.selects RX3 yX3_count yX3_count, Cond.initialized RX3, Cond.code yX3_count cX3_count 2 (some .int), Cond.classLink RX3 61 "java/lang/IndexOutOfBoundsException", Cond.initialized "java/lang/IndexOutOfBoundsException", Cond.fieldLink RX3 44 "BellRanks" "rungInAll" "I", Cond.methodLink RX3 57 yX3_changesOf, Cond.static yX3_changesOf, Cond.code yX3_changesOf cX3_changesOf 3 (some .int), Cond.methodLink RX3 157 yX3_differentInBook, Cond.instanceMethod yX3_differentInBook, Cond.selects RX3 yX3_differentInBook yX3_differentInBook, Cond.code yX3_differentInBook cX3_differentInBook 2 (some .int), Cond.fieldLink RX3 33 "BellRanks" "ranks" "LBellRanks$RankSet;", Cond.fieldLink RX3 11 "BellRanks" "book" "[LBellRanks$Change;", Cond.methodLink RX3 171 yX2_removeAll, Cond.instanceMethod yX2_removeAll]
def wsX3_digest_r2 : List Cond := [Cond.selects RX2 yX2_removeAll yX2_removeAll, Cond.initialized RX2, Cond.code yX2_removeAll cX2_removeAll 1 none, Cond.fieldLink RX2 15 "BellRanks$RankSet" "size" "I", Cond.methodLink RX3 84 yX0_rank, Cond.instanceMethod yX0_rank, Cond.selects RX0 yX0_rank yX0_rank, Cond.initialized RX0, Cond.code yX0_rank cX0_rank 3 (some .int), Cond.fieldLink RX0 15 "BellRanks$Change" "size" "I", Cond.methodLink RX0 23 yX0_lesserBehind, Cond.instanceMethod yX0_lesserBehind, Cond.selects RX0 yX0_lesserBehind yX0_lesserBehind, Cond.code yX0_lesserBehind cX0_lesserBehind 4 (some .int), Cond.methodLink RX0 19 yX0_bellAt, Cond.instanceMethod yX0_bellAt, Cond.selects RX0 yX0_bellAt yX0_bellAt, Cond.code yX0_bellAt cX0_bellAt 2 (some .int), Cond.fieldLink RX0 9 "BellRanks$Change" "row" "[I", Cond.methodLink RX3 172 yX2_add, Cond.instanceMethod yX2_add, Cond.selects RX2 yX2_add yX2_add, Cond.code yX2_add cX2_add 3 none, Cond.fieldLink RX2 9 "BellRanks$RankSet" "row" "[I"]
def wsX3_digest_r3 : List Cond := [Cond.methodLink RX3 173 yX2_size, Cond.instanceMethod yX2_size, Cond.selects RX2 yX2_size yX2_size, Cond.code yX2_size cX2_size 1 (some .int), Cond.methodLink RX3 111 yX1_length, Cond.instanceMethod yX1_length, Cond.selects RX1 yX1_length yX1_length, Cond.initialized RX1, Cond.code yX1_length cX1_length 1 (some .int), Cond.fieldLink RX1 15 "BellRanks$Method" "length" "I", Cond.methodLink RX3 183 yX3_told, Cond.instanceMethod yX3_told, Cond.selects RX3 yX3_told yX3_told, Cond.code yX3_told cX3_told 4 (some .int), Cond.methodLink RX3 74 yX3_find, Cond.instanceMethod yX3_find, Cond.selects RX3 yX3_find yX3_find, Cond.code yX3_find cX3_find 2 (some (.object "BellRanks$Change")), Cond.methodLink RX3 134 yX0_inversions, Cond.instanceMethod yX0_inversions, Cond.selects RX0 yX0_inversions yX0_inversions, Cond.code yX0_inversions cX0_inversions 3 (some .int), Cond.methodLink RX3 137 yX0_ringCount, Cond.instanceMethod yX0_ringCount]
def wsX3_digest_r4 : List Cond := [Cond.selects RX0 yX0_ringCount yX0_ringCount, Cond.code yX0_ringCount cX0_ringCount 3 (some .int), Cond.methodLink RX0 50 yX0_isLeastOfRing, Cond.instanceMethod yX0_isLeastOfRing, Cond.selects RX0 yX0_isLeastOfRing yX0_isLeastOfRing, Cond.code yX0_isLeastOfRing cX0_isLeastOfRing 4 (some .boolean), Cond.methodLink RX3 140 yX0_longestRing, Cond.instanceMethod yX0_longestRing, Cond.selects RX0 yX0_longestRing yX0_longestRing, Cond.code yX0_longestRing cX0_longestRing 3 (some .int), Cond.methodLink RX0 54 Lib.Math.max.name, Cond.static Lib.Math.max.name, Cond.initialized "java/lang/Math", Cond.code Lib.Math.max.name Lib.Math.max.code 2 (some .int), Cond.methodLink RX0 33 yX0_ringLength, Cond.instanceMethod yX0_ringLength, Cond.selects RX0 yX0_ringLength yX0_ringLength, Cond.code yX0_ringLength cX0_ringLength 4 (some .int), Cond.methodLink RX3 143 yX0_order, Cond.instanceMethod yX0_order, Cond.selects RX0 yX0_order yX0_order, Cond.code yX0_order cX0_order 3 (some .int), Cond.methodLink RX0 59 yX0_leastMultiple, Cond.static yX0_leastMultiple]
def wsX3_digest_r5 : List Cond := [Cond.code yX0_leastMultiple cX0_leastMultiple 4 (some .int), Cond.methodLink RX3 146 yX0_ownPlaces, Cond.instanceMethod yX0_ownPlaces, Cond.selects RX0 yX0_ownPlaces yX0_ownPlaces, Cond.code yX0_ownPlaces cX0_ownPlaces 3 (some .int), Cond.methodLink RX3 149 yX0_placeOf, Cond.instanceMethod yX0_placeOf, Cond.selects RX0 yX0_placeOf yX0_placeOf, Cond.code yX0_placeOf cX0_placeOf 3 (some .int), Cond.methodLink RX3 187 yX3_bell, Cond.instanceMethod yX3_bell, Cond.selects RX3 yX3_bell yX3_bell, Cond.code yX3_bell cX3_bell 4 (some .int), Cond.methodLink RX3 128 yX3_checkPlace, Cond.instanceMethod yX3_checkPlace, Cond.selects RX3 yX3_checkPlace yX3_checkPlace, Cond.code yX3_checkPlace cX3_checkPlace 2 none, Cond.methodLink RX3 131 yX0_bellAt, Cond.methodLink RX3 190 yX3_kept, Cond.instanceMethod yX3_kept, Cond.selects RX3 yX3_kept yX3_kept, Cond.code yX3_kept cX3_kept 2 (some .int), Cond.methodLink RX3 164 yX1_keptAt, Cond.instanceMethod yX1_keptAt]
def wsX3_digest_r6 : List Cond := [Cond.selects RX1 yX1_keptAt yX1_keptAt, Cond.code yX1_keptAt cX1_keptAt 2 (some .int), Cond.fieldLink RX1 9 "BellRanks$Method" "steps" "[I"]
def wsX3_digest : List Cond := .code yX3_digest cX3_digest 5 (some .long) :: ((wsX3_digest_r1 ++ (wsX3_digest_r2 ++ (wsX3_digest_r3 ++ (wsX3_digest_r4 ++ (wsX3_digest_r5 ++ wsX3_digest_r6))))) ++ wsX30 ++ wsX20 ++ wsX00 ++ wsX10 ++ (vx_atS RX3 65 "java/lang/IndexOutOfBoundsException" ["java/lang/RuntimeException", "java/lang/Exception"]).filter goodWord)
def wsX4_init : List Cond := .code yX4_init cX4_init 1 none :: ([.methodLink RX4 1 objectInit, .instanceMethod objectInit, .code objectInit ⟨#[0xb1]⟩ 1 none, .fieldLink RX4 7 "BellRanksModel" "bells" "I", .arrayClass .int, .fieldLink RX4 13 "BellRanksModel" "book" "[I", .fieldLink RX4 17 "BellRanksModel" "kept" "[I"] ++ wsX40)
def wsX4_thrown : List Cond := .code yX4_thrown cX4_thrown 1 (some .int) :: ([.fieldLink RX4 20 "BellRanksModel" "thrown" "I"] ++ wsX40)
def wsX4_no : List Cond := .code yX4_no cX4_no 2 (some .int) :: ([.fieldLink RX4 20 "BellRanksModel" "thrown" "I"] ++ wsX40)
def wsX4_isIn : List Cond := .code yX4_isIn cX4_isIn 3 (some .boolean) :: ([])
def wsX4_isChange : List Cond := .code yX4_isChange cX4_isChange 2 (some .boolean) :: ([.fieldLink RX4 23 "BellRanksModel" "changes" "I", .methodLink RX4 26 yX4_isIn, .static yX4_isIn, .initialized RX4, .code yX4_isIn cX4_isIn 3 (some .boolean)] ++ wsX40)
def wsX4_isPlace : List Cond := .code yX4_isPlace cX4_isPlace 2 (some .boolean) :: ([.fieldLink RX4 7 "BellRanksModel" "bells" "I", .methodLink RX4 26 yX4_isIn, .static yX4_isIn, .initialized RX4, .code yX4_isIn cX4_isIn 3 (some .boolean)] ++ wsX40)
def wsX4_product : List Cond := .code yX4_product cX4_product 1 (some .int) :: ([.methodLink RX4 30 yX4_product, .static yX4_product, .initialized RX4])
def wsX4_bellAt : List Cond := .code yX4_bellAt cX4_bellAt 4 (some .int) :: ([])
def wsX4_row : List Cond := .code yX4_row cX4_row 8 (some (.array .int)) :: ([.fieldLink RX4 7 "BellRanksModel" "bells" "I", .arrayClass .int, .methodLink RX4 30 yX4_product, .static yX4_product, .initialized RX4, .code yX4_product cX4_product 1 (some .int), .methodLink RX4 34 yX4_bellAt, .static yX4_bellAt, .code yX4_bellAt cX4_bellAt 4 (some .int)] ++ wsX40)
def wsX4_less : List Cond := .code yX4_less cX4_less 5 (some .int) :: ([.fieldLink RX4 7 "BellRanksModel" "bells" "I"] ++ wsX40)
def wsX4_rank : List Cond := .code yX4_rank cX4_rank 4 (some .int) :: ([.fieldLink RX4 7 "BellRanksModel" "bells" "I", .methodLink RX4 38 yX4_less, .instanceMethod yX4_less, .selects RX4 yX4_less yX4_less, .initialized RX4, .code yX4_less cX4_less 5 (some .int), .methodLink RX4 30 yX4_product, .static yX4_product, .code yX4_product cX4_product 1 (some .int)] ++ wsX40)
def wsX4_inversions : List Cond := .code yX4_inversions cX4_inversions 4 (some .int) :: ([.fieldLink RX4 7 "BellRanksModel" "bells" "I", .methodLink RX4 38 yX4_less, .instanceMethod yX4_less, .selects RX4 yX4_less yX4_less, .initialized RX4, .code yX4_less cX4_less 5 (some .int)] ++ wsX40)
def wsX4_behindRow : List Cond := .code yX4_behindRow cX4_behindRow 5 (some (.array .int)) :: ([.fieldLink RX4 7 "BellRanksModel" "bells" "I", .arrayClass .int] ++ wsX40)
def wsX4_backRow : List Cond := .code yX4_backRow cX4_backRow 4 (some (.array .int)) :: ([.fieldLink RX4 7 "BellRanksModel" "bells" "I", .arrayClass .int] ++ wsX40)
def wsX4_ringOf : List Cond := .code yX4_ringOf cX4_ringOf 5 (some .int) :: ([])
def wsX4_isFirst : List Cond := .code yX4_isFirst cX4_isFirst 5 (some .boolean) :: ([])
def wsX4_divisor : List Cond := .code yX4_divisor cX4_divisor 2 (some .int) :: ([.methodLink RX4 42 yX4_divisor, .static yX4_divisor, .initialized RX4])
def wsX4_order : List Cond := .code yX4_order cX4_order 4 (some .int) :: ([.fieldLink RX4 7 "BellRanksModel" "bells" "I", .methodLink RX4 45 yX4_ringOf, .instanceMethod yX4_ringOf, .selects RX4 yX4_ringOf yX4_ringOf, .initialized RX4, .code yX4_ringOf cX4_ringOf 5 (some .int), .methodLink RX4 42 yX4_divisor, .static yX4_divisor, .code yX4_divisor cX4_divisor 2 (some .int)] ++ wsX40)
def wsX4_ringStep : List Cond := .code yX4_ringStep cX4_ringStep 6 none :: ([.fieldLink RX4 17 "BellRanksModel" "kept" "[I", .fieldLink RX4 48 "BellRanksModel" "steps" "I", .fieldLink RX4 7 "BellRanksModel" "bells" "I"] ++ wsX40)
def wsX4_isStep : List Cond := .code yX4_isStep cX4_isStep 5 (some .boolean) :: ([.fieldLink RX4 7 "BellRanksModel" "bells" "I", .methodLink RX4 26 yX4_isIn, .static yX4_isIn, .initialized RX4, .code yX4_isIn cX4_isIn 3 (some .boolean)] ++ wsX40)
def wsX4_setBells : List Cond := .code yX4_setBells cX4_setBells 3 (some .int) :: ([.fieldLink RX4 20 "BellRanksModel" "thrown" "I", .fieldLink RX4 7 "BellRanksModel" "bells" "I", .fieldLink RX4 23 "BellRanksModel" "changes" "I", .fieldLink RX4 48 "BellRanksModel" "steps" "I", .methodLink RX4 26 yX4_isIn, .static yX4_isIn, .initialized RX4, .code yX4_isIn cX4_isIn 3 (some .boolean), .methodLink RX4 51 yX4_no, .instanceMethod yX4_no, .selects RX4 yX4_no yX4_no, .code yX4_no cX4_no 2 (some .int)] ++ wsX40)
def wsX4_add : List Cond := .code yX4_add cX4_add 2 (some .int) :: ([.fieldLink RX4 13 "BellRanksModel" "book" "[I", .fieldLink RX4 23 "BellRanksModel" "changes" "I"] ++ wsX40)
def wsX4_become : List Cond := .code yX4_become cX4_become 3 (some .int) :: ([.fieldLink RX4 13 "BellRanksModel" "book" "[I", .methodLink RX4 54 yX4_rank, .instanceMethod yX4_rank, .selects RX4 yX4_rank yX4_rank, .initialized RX4, .code yX4_rank cX4_rank 4 (some .int), .fieldLink RX4 7 "BellRanksModel" "bells" "I", .methodLink RX4 38 yX4_less, .instanceMethod yX4_less, .selects RX4 yX4_less yX4_less, .code yX4_less cX4_less 5 (some .int), .methodLink RX4 30 yX4_product, .static yX4_product, .code yX4_product cX4_product 1 (some .int)] ++ wsX40)
def wsX4_write : List Cond := .code yX4_write cX4_write 2 (some .int) :: ([.fieldLink RX4 20 "BellRanksModel" "thrown" "I", .fieldLink RX4 7 "BellRanksModel" "bells" "I", .fieldLink RX4 23 "BellRanksModel" "changes" "I", .methodLink RX4 30 yX4_product, .static yX4_product, .initialized RX4, .code yX4_product cX4_product 1 (some .int), .methodLink RX4 26 yX4_isIn, .static yX4_isIn, .code yX4_isIn cX4_isIn 3 (some .boolean), .methodLink RX4 51 yX4_no, .instanceMethod yX4_no, .selects RX4 yX4_no yX4_no, .code yX4_no cX4_no 2 (some .int), .methodLink RX4 58 yX4_add, .instanceMethod yX4_add, .selects RX4 yX4_add yX4_add, .code yX4_add cX4_add 2 (some .int), .fieldLink RX4 13 "BellRanksModel" "book" "[I"] ++ wsX40)
def wsX4_swap_r1 : List Cond := [Cond.fieldLink RX4 20 "BellRanksModel" "thrown" "I", Cond.fieldLink RX4 7 "BellRanksModel" "bells" "I", Cond.fieldLink RX4 13 "BellRanksModel" "book" "[I", Cond.methodLink RX4 61 yX4_isChange, Cond.instanceMethod yX4_isChange, Cond.selects RX4 yX4_isChange yX4_isChange, Cond.initialized RX4, Cond.code yX4_isChange cX4_isChange 2 (some .boolean), Cond.fieldLink RX4 23 "BellRanksModel" "changes" "I", Cond.methodLink RX4 26 yX4_isIn, Cond.static yX4_isIn, Cond.code yX4_isIn cX4_isIn 3 (some .boolean), Cond.methodLink RX4 51 yX4_no, Cond.instanceMethod yX4_no, Cond.selects RX4 yX4_no yX4_no, Cond.code yX4_no cX4_no 2 (some .int), Cond.methodLink RX4 65 yX4_row, Cond.instanceMethod yX4_row, Cond.selects RX4 yX4_row yX4_row, Cond.code yX4_row cX4_row 8 (some (.array .int)), Cond.arrayClass .int, Cond.methodLink RX4 30 yX4_product, Cond.static yX4_product, Cond.code yX4_product cX4_product 1 (some .int)]
def wsX4_swap_r2 : List Cond := [Cond.methodLink RX4 34 yX4_bellAt, Cond.static yX4_bellAt, Cond.code yX4_bellAt cX4_bellAt 4 (some .int), Cond.methodLink RX4 69 yX4_become, Cond.instanceMethod yX4_become, Cond.selects RX4 yX4_become yX4_become, Cond.code yX4_become cX4_become 3 (some .int), Cond.methodLink RX4 54 yX4_rank, Cond.instanceMethod yX4_rank, Cond.selects RX4 yX4_rank yX4_rank, Cond.code yX4_rank cX4_rank 4 (some .int), Cond.methodLink RX4 38 yX4_less, Cond.instanceMethod yX4_less, Cond.selects RX4 yX4_less yX4_less, Cond.code yX4_less cX4_less 5 (some .int)]
def wsX4_swap : List Cond := .code yX4_swap cX4_swap 5 (some .int) :: ((wsX4_swap_r1 ++ wsX4_swap_r2) ++ wsX40)
def wsX4_next : List Cond := .code yX4_next cX4_next 2 (some .int) :: ([.fieldLink RX4 20 "BellRanksModel" "thrown" "I", .fieldLink RX4 13 "BellRanksModel" "book" "[I", .fieldLink RX4 7 "BellRanksModel" "bells" "I", .methodLink RX4 61 yX4_isChange, .instanceMethod yX4_isChange, .selects RX4 yX4_isChange yX4_isChange, .initialized RX4, .code yX4_isChange cX4_isChange 2 (some .boolean), .fieldLink RX4 23 "BellRanksModel" "changes" "I", .methodLink RX4 26 yX4_isIn, .static yX4_isIn, .code yX4_isIn cX4_isIn 3 (some .boolean), .methodLink RX4 51 yX4_no, .instanceMethod yX4_no, .selects RX4 yX4_no yX4_no, .code yX4_no cX4_no 2 (some .int), .methodLink RX4 30 yX4_product, .static yX4_product, .code yX4_product cX4_product 1 (some .int)] ++ wsX40)
def wsX4_behind_r1 : List Cond := [Cond.fieldLink RX4 20 "BellRanksModel" "thrown" "I", Cond.fieldLink RX4 23 "BellRanksModel" "changes" "I", Cond.fieldLink RX4 13 "BellRanksModel" "book" "[I", Cond.methodLink RX4 61 yX4_isChange, Cond.instanceMethod yX4_isChange, Cond.selects RX4 yX4_isChange yX4_isChange, Cond.initialized RX4, Cond.code yX4_isChange cX4_isChange 2 (some .boolean), Cond.methodLink RX4 26 yX4_isIn, Cond.static yX4_isIn, Cond.code yX4_isIn cX4_isIn 3 (some .boolean), Cond.methodLink RX4 51 yX4_no, Cond.instanceMethod yX4_no, Cond.selects RX4 yX4_no yX4_no, Cond.code yX4_no cX4_no 2 (some .int), Cond.methodLink RX4 65 yX4_row, Cond.instanceMethod yX4_row, Cond.selects RX4 yX4_row yX4_row, Cond.code yX4_row cX4_row 8 (some (.array .int)), Cond.fieldLink RX4 7 "BellRanksModel" "bells" "I", Cond.arrayClass .int, Cond.methodLink RX4 30 yX4_product, Cond.static yX4_product, Cond.code yX4_product cX4_product 1 (some .int)]
def wsX4_behind_r2 : List Cond := [Cond.methodLink RX4 34 yX4_bellAt, Cond.static yX4_bellAt, Cond.code yX4_bellAt cX4_bellAt 4 (some .int), Cond.methodLink RX4 73 yX4_behindRow, Cond.instanceMethod yX4_behindRow, Cond.selects RX4 yX4_behindRow yX4_behindRow, Cond.code yX4_behindRow cX4_behindRow 5 (some (.array .int)), Cond.methodLink RX4 54 yX4_rank, Cond.instanceMethod yX4_rank, Cond.selects RX4 yX4_rank yX4_rank, Cond.code yX4_rank cX4_rank 4 (some .int), Cond.methodLink RX4 38 yX4_less, Cond.instanceMethod yX4_less, Cond.selects RX4 yX4_less yX4_less, Cond.code yX4_less cX4_less 5 (some .int), Cond.methodLink RX4 58 yX4_add, Cond.instanceMethod yX4_add, Cond.selects RX4 yX4_add yX4_add, Cond.code yX4_add cX4_add 2 (some .int)]
def wsX4_behind : List Cond := .code yX4_behind cX4_behind 3 (some .int) :: ((wsX4_behind_r1 ++ wsX4_behind_r2) ++ wsX40)
def wsX4_back_r1 : List Cond := [Cond.fieldLink RX4 20 "BellRanksModel" "thrown" "I", Cond.fieldLink RX4 13 "BellRanksModel" "book" "[I", Cond.methodLink RX4 61 yX4_isChange, Cond.instanceMethod yX4_isChange, Cond.selects RX4 yX4_isChange yX4_isChange, Cond.initialized RX4, Cond.code yX4_isChange cX4_isChange 2 (some .boolean), Cond.fieldLink RX4 23 "BellRanksModel" "changes" "I", Cond.methodLink RX4 26 yX4_isIn, Cond.static yX4_isIn, Cond.code yX4_isIn cX4_isIn 3 (some .boolean), Cond.methodLink RX4 65 yX4_row, Cond.instanceMethod yX4_row, Cond.selects RX4 yX4_row yX4_row, Cond.code yX4_row cX4_row 8 (some (.array .int)), Cond.fieldLink RX4 7 "BellRanksModel" "bells" "I", Cond.arrayClass .int, Cond.methodLink RX4 30 yX4_product, Cond.static yX4_product, Cond.code yX4_product cX4_product 1 (some .int), Cond.methodLink RX4 34 yX4_bellAt, Cond.static yX4_bellAt, Cond.code yX4_bellAt cX4_bellAt 4 (some .int), Cond.methodLink RX4 77 yX4_backRow]
def wsX4_back_r2 : List Cond := [Cond.instanceMethod yX4_backRow, Cond.selects RX4 yX4_backRow yX4_backRow, Cond.code yX4_backRow cX4_backRow 4 (some (.array .int)), Cond.methodLink RX4 69 yX4_become, Cond.instanceMethod yX4_become, Cond.selects RX4 yX4_become yX4_become, Cond.code yX4_become cX4_become 3 (some .int), Cond.methodLink RX4 54 yX4_rank, Cond.instanceMethod yX4_rank, Cond.selects RX4 yX4_rank yX4_rank, Cond.code yX4_rank cX4_rank 4 (some .int), Cond.methodLink RX4 38 yX4_less, Cond.instanceMethod yX4_less, Cond.selects RX4 yX4_less yX4_less, Cond.code yX4_less cX4_less 5 (some .int), Cond.methodLink RX4 51 yX4_no, Cond.instanceMethod yX4_no, Cond.selects RX4 yX4_no yX4_no, Cond.code yX4_no cX4_no 2 (some .int)]
def wsX4_back : List Cond := .code yX4_back cX4_back 2 (some .int) :: ((wsX4_back_r1 ++ wsX4_back_r2) ++ wsX40)
def wsX4_repeat_r1 : List Cond := [Cond.fieldLink RX4 20 "BellRanksModel" "thrown" "I", Cond.fieldLink RX4 13 "BellRanksModel" "book" "[I", Cond.methodLink RX4 61 yX4_isChange, Cond.instanceMethod yX4_isChange, Cond.selects RX4 yX4_isChange yX4_isChange, Cond.initialized RX4, Cond.code yX4_isChange cX4_isChange 2 (some .boolean), Cond.fieldLink RX4 23 "BellRanksModel" "changes" "I", Cond.methodLink RX4 26 yX4_isIn, Cond.static yX4_isIn, Cond.code yX4_isIn cX4_isIn 3 (some .boolean), Cond.methodLink RX4 51 yX4_no, Cond.instanceMethod yX4_no, Cond.selects RX4 yX4_no yX4_no, Cond.code yX4_no cX4_no 2 (some .int), Cond.methodLink RX4 65 yX4_row, Cond.instanceMethod yX4_row, Cond.selects RX4 yX4_row yX4_row, Cond.code yX4_row cX4_row 8 (some (.array .int)), Cond.fieldLink RX4 7 "BellRanksModel" "bells" "I", Cond.arrayClass .int, Cond.methodLink RX4 30 yX4_product, Cond.static yX4_product, Cond.code yX4_product cX4_product 1 (some .int)]
def wsX4_repeat_r2 : List Cond := [Cond.methodLink RX4 34 yX4_bellAt, Cond.static yX4_bellAt, Cond.code yX4_bellAt cX4_bellAt 4 (some .int), Cond.methodLink RX4 81 yX4_order, Cond.instanceMethod yX4_order, Cond.selects RX4 yX4_order yX4_order, Cond.code yX4_order cX4_order 4 (some .int), Cond.methodLink RX4 45 yX4_ringOf, Cond.instanceMethod yX4_ringOf, Cond.selects RX4 yX4_ringOf yX4_ringOf, Cond.code yX4_ringOf cX4_ringOf 5 (some .int), Cond.methodLink RX4 42 yX4_divisor, Cond.static yX4_divisor, Cond.code yX4_divisor cX4_divisor 2 (some .int), Cond.methodLink RX4 73 yX4_behindRow, Cond.instanceMethod yX4_behindRow, Cond.selects RX4 yX4_behindRow yX4_behindRow, Cond.code yX4_behindRow cX4_behindRow 5 (some (.array .int)), Cond.methodLink RX4 69 yX4_become, Cond.instanceMethod yX4_become, Cond.selects RX4 yX4_become yX4_become, Cond.code yX4_become cX4_become 3 (some .int), Cond.methodLink RX4 54 yX4_rank, Cond.instanceMethod yX4_rank]
def wsX4_repeat_r3 : List Cond := [Cond.selects RX4 yX4_rank yX4_rank, Cond.code yX4_rank cX4_rank 4 (some .int), Cond.methodLink RX4 38 yX4_less, Cond.instanceMethod yX4_less, Cond.selects RX4 yX4_less yX4_less, Cond.code yX4_less cX4_less 5 (some .int)]
def wsX4_repeat : List Cond := .code yX4_repeat cX4_repeat 6 (some .int) :: ((wsX4_repeat_r1 ++ (wsX4_repeat_r2 ++ wsX4_repeat_r3)) ++ wsX40)
def wsX4_step : List Cond := .code yX4_step cX4_step 2 (some .int) :: ([.fieldLink RX4 20 "BellRanksModel" "thrown" "I", .fieldLink RX4 48 "BellRanksModel" "steps" "I", .fieldLink RX4 17 "BellRanksModel" "kept" "[I", .methodLink RX4 84 yX4_isStep, .instanceMethod yX4_isStep, .selects RX4 yX4_isStep yX4_isStep, .initialized RX4, .code yX4_isStep cX4_isStep 5 (some .boolean), .fieldLink RX4 7 "BellRanksModel" "bells" "I", .methodLink RX4 26 yX4_isIn, .static yX4_isIn, .code yX4_isIn cX4_isIn 3 (some .boolean), .methodLink RX4 51 yX4_no, .instanceMethod yX4_no, .selects RX4 yX4_no yX4_no, .code yX4_no cX4_no 2 (some .int)] ++ wsX40)
def wsX4_clear : List Cond := .code yX4_clear cX4_clear 2 (some .int) :: ([.fieldLink RX4 20 "BellRanksModel" "thrown" "I", .fieldLink RX4 48 "BellRanksModel" "steps" "I"] ++ wsX40)
def wsX4_ring_r1 : List Cond := [Cond.fieldLink RX4 20 "BellRanksModel" "thrown" "I", Cond.fieldLink RX4 48 "BellRanksModel" "steps" "I", Cond.fieldLink RX4 13 "BellRanksModel" "book" "[I", Cond.fieldLink RX4 91 "BellRanksModel" "rung" "I", Cond.methodLink RX4 61 yX4_isChange, Cond.instanceMethod yX4_isChange, Cond.selects RX4 yX4_isChange yX4_isChange, Cond.initialized RX4, Cond.code yX4_isChange cX4_isChange 2 (some .boolean), Cond.fieldLink RX4 23 "BellRanksModel" "changes" "I", Cond.methodLink RX4 26 yX4_isIn, Cond.static yX4_isIn, Cond.code yX4_isIn cX4_isIn 3 (some .boolean), Cond.methodLink RX4 51 yX4_no, Cond.instanceMethod yX4_no, Cond.selects RX4 yX4_no yX4_no, Cond.code yX4_no cX4_no 2 (some .int), Cond.methodLink RX4 65 yX4_row, Cond.instanceMethod yX4_row, Cond.selects RX4 yX4_row yX4_row, Cond.code yX4_row cX4_row 8 (some (.array .int)), Cond.fieldLink RX4 7 "BellRanksModel" "bells" "I", Cond.arrayClass .int, Cond.methodLink RX4 30 yX4_product]
def wsX4_ring_r2 : List Cond := [Cond.static yX4_product, Cond.code yX4_product cX4_product 1 (some .int), Cond.methodLink RX4 34 yX4_bellAt, Cond.static yX4_bellAt, Cond.code yX4_bellAt cX4_bellAt 4 (some .int), Cond.methodLink RX4 87 yX4_ringStep, Cond.instanceMethod yX4_ringStep, Cond.selects RX4 yX4_ringStep yX4_ringStep, Cond.code yX4_ringStep cX4_ringStep 6 none, Cond.fieldLink RX4 17 "BellRanksModel" "kept" "[I", Cond.methodLink RX4 69 yX4_become, Cond.instanceMethod yX4_become, Cond.selects RX4 yX4_become yX4_become, Cond.code yX4_become cX4_become 3 (some .int), Cond.methodLink RX4 54 yX4_rank, Cond.instanceMethod yX4_rank, Cond.selects RX4 yX4_rank yX4_rank, Cond.code yX4_rank cX4_rank 4 (some .int), Cond.methodLink RX4 38 yX4_less, Cond.instanceMethod yX4_less, Cond.selects RX4 yX4_less yX4_less, Cond.code yX4_less cX4_less 5 (some .int)]
def wsX4_ring : List Cond := .code yX4_ring cX4_ring 5 (some .int) :: ((wsX4_ring_r1 ++ wsX4_ring_r2) ++ wsX40)
def wsX4_bell_r1 : List Cond := [Cond.fieldLink RX4 20 "BellRanksModel" "thrown" "I", Cond.fieldLink RX4 13 "BellRanksModel" "book" "[I", Cond.methodLink RX4 61 yX4_isChange, Cond.instanceMethod yX4_isChange, Cond.selects RX4 yX4_isChange yX4_isChange, Cond.initialized RX4, Cond.code yX4_isChange cX4_isChange 2 (some .boolean), Cond.fieldLink RX4 23 "BellRanksModel" "changes" "I", Cond.methodLink RX4 26 yX4_isIn, Cond.static yX4_isIn, Cond.code yX4_isIn cX4_isIn 3 (some .boolean), Cond.methodLink RX4 94 yX4_isPlace, Cond.instanceMethod yX4_isPlace, Cond.selects RX4 yX4_isPlace yX4_isPlace, Cond.code yX4_isPlace cX4_isPlace 2 (some .boolean), Cond.fieldLink RX4 7 "BellRanksModel" "bells" "I", Cond.methodLink RX4 65 yX4_row, Cond.instanceMethod yX4_row, Cond.selects RX4 yX4_row yX4_row, Cond.code yX4_row cX4_row 8 (some (.array .int)), Cond.arrayClass .int, Cond.methodLink RX4 30 yX4_product, Cond.static yX4_product, Cond.code yX4_product cX4_product 1 (some .int)]
def wsX4_bell_r2 : List Cond := [Cond.methodLink RX4 34 yX4_bellAt, Cond.static yX4_bellAt, Cond.code yX4_bellAt cX4_bellAt 4 (some .int), Cond.methodLink RX4 51 yX4_no, Cond.instanceMethod yX4_no, Cond.selects RX4 yX4_no yX4_no, Cond.code yX4_no cX4_no 2 (some .int)]
def wsX4_bell : List Cond := .code yX4_bell cX4_bell 3 (some .int) :: ((wsX4_bell_r1 ++ wsX4_bell_r2) ++ wsX40)
def wsX4_toldOf_r1 : List Cond := [Cond.fieldLink RX4 7 "BellRanksModel" "bells" "I", Cond.methodLink RX4 104 Lib.Math.max.name, Cond.static Lib.Math.max.name, Cond.initialized "java/lang/Math", Cond.code Lib.Math.max.name Lib.Math.max.code 2 (some .int), Cond.methodLink RX4 54 yX4_rank, Cond.instanceMethod yX4_rank, Cond.selects RX4 yX4_rank yX4_rank, Cond.initialized RX4, Cond.code yX4_rank cX4_rank 4 (some .int), Cond.methodLink RX4 38 yX4_less, Cond.instanceMethod yX4_less, Cond.selects RX4 yX4_less yX4_less, Cond.code yX4_less cX4_less 5 (some .int), Cond.methodLink RX4 30 yX4_product, Cond.static yX4_product, Cond.code yX4_product cX4_product 1 (some .int), Cond.methodLink RX4 97 yX4_inversions, Cond.instanceMethod yX4_inversions, Cond.selects RX4 yX4_inversions yX4_inversions, Cond.code yX4_inversions cX4_inversions 4 (some .int), Cond.methodLink RX4 100 yX4_isFirst, Cond.instanceMethod yX4_isFirst, Cond.selects RX4 yX4_isFirst yX4_isFirst]
def wsX4_toldOf_r2 : List Cond := [Cond.code yX4_isFirst cX4_isFirst 5 (some .boolean), Cond.methodLink RX4 45 yX4_ringOf, Cond.instanceMethod yX4_ringOf, Cond.selects RX4 yX4_ringOf yX4_ringOf, Cond.code yX4_ringOf cX4_ringOf 5 (some .int), Cond.methodLink RX4 81 yX4_order, Cond.instanceMethod yX4_order, Cond.selects RX4 yX4_order yX4_order, Cond.code yX4_order cX4_order 4 (some .int), Cond.methodLink RX4 42 yX4_divisor, Cond.static yX4_divisor, Cond.code yX4_divisor cX4_divisor 2 (some .int), Cond.methodLink RX4 77 yX4_backRow, Cond.instanceMethod yX4_backRow, Cond.selects RX4 yX4_backRow yX4_backRow, Cond.code yX4_backRow cX4_backRow 4 (some (.array .int)), Cond.arrayClass .int]
def wsX4_toldOf : List Cond := .code yX4_toldOf cX4_toldOf 5 (some .int) :: ((wsX4_toldOf_r1 ++ wsX4_toldOf_r2) ++ wsX40)
def wsX4_told_r1 : List Cond := [Cond.fieldLink RX4 20 "BellRanksModel" "thrown" "I", Cond.fieldLink RX4 13 "BellRanksModel" "book" "[I", Cond.methodLink RX4 61 yX4_isChange, Cond.instanceMethod yX4_isChange, Cond.selects RX4 yX4_isChange yX4_isChange, Cond.initialized RX4, Cond.code yX4_isChange cX4_isChange 2 (some .boolean), Cond.fieldLink RX4 23 "BellRanksModel" "changes" "I", Cond.methodLink RX4 26 yX4_isIn, Cond.static yX4_isIn, Cond.code yX4_isIn cX4_isIn 3 (some .boolean), Cond.methodLink RX4 65 yX4_row, Cond.instanceMethod yX4_row, Cond.selects RX4 yX4_row yX4_row, Cond.code yX4_row cX4_row 8 (some (.array .int)), Cond.fieldLink RX4 7 "BellRanksModel" "bells" "I", Cond.arrayClass .int, Cond.methodLink RX4 30 yX4_product, Cond.static yX4_product, Cond.code yX4_product cX4_product 1 (some .int), Cond.methodLink RX4 34 yX4_bellAt, Cond.static yX4_bellAt, Cond.code yX4_bellAt cX4_bellAt 4 (some .int), Cond.methodLink RX4 109 yX4_toldOf]
def wsX4_told_r2 : List Cond := [Cond.instanceMethod yX4_toldOf, Cond.selects RX4 yX4_toldOf yX4_toldOf, Cond.code yX4_toldOf cX4_toldOf 5 (some .int), Cond.methodLink RX4 104 Lib.Math.max.name, Cond.static Lib.Math.max.name, Cond.initialized "java/lang/Math", Cond.code Lib.Math.max.name Lib.Math.max.code 2 (some .int), Cond.methodLink RX4 54 yX4_rank, Cond.instanceMethod yX4_rank, Cond.selects RX4 yX4_rank yX4_rank, Cond.code yX4_rank cX4_rank 4 (some .int), Cond.methodLink RX4 38 yX4_less, Cond.instanceMethod yX4_less, Cond.selects RX4 yX4_less yX4_less, Cond.code yX4_less cX4_less 5 (some .int), Cond.methodLink RX4 97 yX4_inversions, Cond.instanceMethod yX4_inversions, Cond.selects RX4 yX4_inversions yX4_inversions, Cond.code yX4_inversions cX4_inversions 4 (some .int), Cond.methodLink RX4 100 yX4_isFirst, Cond.instanceMethod yX4_isFirst, Cond.selects RX4 yX4_isFirst yX4_isFirst, Cond.code yX4_isFirst cX4_isFirst 5 (some .boolean), Cond.methodLink RX4 45 yX4_ringOf]
def wsX4_told_r3 : List Cond := [Cond.instanceMethod yX4_ringOf, Cond.selects RX4 yX4_ringOf yX4_ringOf, Cond.code yX4_ringOf cX4_ringOf 5 (some .int), Cond.methodLink RX4 81 yX4_order, Cond.instanceMethod yX4_order, Cond.selects RX4 yX4_order yX4_order, Cond.code yX4_order cX4_order 4 (some .int), Cond.methodLink RX4 42 yX4_divisor, Cond.static yX4_divisor, Cond.code yX4_divisor cX4_divisor 2 (some .int), Cond.methodLink RX4 77 yX4_backRow, Cond.instanceMethod yX4_backRow, Cond.selects RX4 yX4_backRow yX4_backRow, Cond.code yX4_backRow cX4_backRow 4 (some (.array .int)), Cond.methodLink RX4 51 yX4_no, Cond.instanceMethod yX4_no, Cond.selects RX4 yX4_no yX4_no, Cond.code yX4_no cX4_no 2 (some .int)]
def wsX4_told : List Cond := .code yX4_told cX4_told 3 (some .int) :: ((wsX4_told_r1 ++ (wsX4_told_r2 ++ wsX4_told_r3)) ++ wsX40)
def wsX4_round_r1 : List Cond := [Cond.fieldLink RX4 20 "BellRanksModel" "thrown" "I", Cond.fieldLink RX4 13 "BellRanksModel" "book" "[I", Cond.methodLink RX4 61 yX4_isChange, Cond.instanceMethod yX4_isChange, Cond.selects RX4 yX4_isChange yX4_isChange, Cond.initialized RX4, Cond.code yX4_isChange cX4_isChange 2 (some .boolean), Cond.fieldLink RX4 23 "BellRanksModel" "changes" "I", Cond.methodLink RX4 26 yX4_isIn, Cond.static yX4_isIn, Cond.code yX4_isIn cX4_isIn 3 (some .boolean), Cond.methodLink RX4 94 yX4_isPlace, Cond.instanceMethod yX4_isPlace, Cond.selects RX4 yX4_isPlace yX4_isPlace, Cond.code yX4_isPlace cX4_isPlace 2 (some .boolean), Cond.fieldLink RX4 7 "BellRanksModel" "bells" "I", Cond.methodLink RX4 65 yX4_row, Cond.instanceMethod yX4_row, Cond.selects RX4 yX4_row yX4_row, Cond.code yX4_row cX4_row 8 (some (.array .int)), Cond.arrayClass .int, Cond.methodLink RX4 30 yX4_product, Cond.static yX4_product, Cond.code yX4_product cX4_product 1 (some .int)]
def wsX4_round_r2 : List Cond := [Cond.methodLink RX4 34 yX4_bellAt, Cond.static yX4_bellAt, Cond.code yX4_bellAt cX4_bellAt 4 (some .int), Cond.methodLink RX4 45 yX4_ringOf, Cond.instanceMethod yX4_ringOf, Cond.selects RX4 yX4_ringOf yX4_ringOf, Cond.code yX4_ringOf cX4_ringOf 5 (some .int), Cond.methodLink RX4 51 yX4_no, Cond.instanceMethod yX4_no, Cond.selects RX4 yX4_no yX4_no, Cond.code yX4_no cX4_no 2 (some .int)]
def wsX4_round : List Cond := .code yX4_round cX4_round 3 (some .int) :: ((wsX4_round_r1 ++ wsX4_round_r2) ++ wsX40)
def wsX4_apart_r1 : List Cond := [Cond.fieldLink RX4 20 "BellRanksModel" "thrown" "I", Cond.fieldLink RX4 13 "BellRanksModel" "book" "[I", Cond.methodLink RX4 61 yX4_isChange, Cond.instanceMethod yX4_isChange, Cond.selects RX4 yX4_isChange yX4_isChange, Cond.initialized RX4, Cond.code yX4_isChange cX4_isChange 2 (some .boolean), Cond.fieldLink RX4 23 "BellRanksModel" "changes" "I", Cond.methodLink RX4 26 yX4_isIn, Cond.static yX4_isIn, Cond.code yX4_isIn cX4_isIn 3 (some .boolean), Cond.methodLink RX4 51 yX4_no, Cond.instanceMethod yX4_no, Cond.selects RX4 yX4_no yX4_no, Cond.code yX4_no cX4_no 2 (some .int), Cond.methodLink RX4 65 yX4_row, Cond.instanceMethod yX4_row, Cond.selects RX4 yX4_row yX4_row, Cond.code yX4_row cX4_row 8 (some (.array .int)), Cond.fieldLink RX4 7 "BellRanksModel" "bells" "I", Cond.arrayClass .int, Cond.methodLink RX4 30 yX4_product, Cond.static yX4_product, Cond.code yX4_product cX4_product 1 (some .int)]
def wsX4_apart_r2 : List Cond := [Cond.methodLink RX4 34 yX4_bellAt, Cond.static yX4_bellAt, Cond.code yX4_bellAt cX4_bellAt 4 (some .int), Cond.methodLink RX4 77 yX4_backRow, Cond.instanceMethod yX4_backRow, Cond.selects RX4 yX4_backRow yX4_backRow, Cond.code yX4_backRow cX4_backRow 4 (some (.array .int)), Cond.methodLink RX4 73 yX4_behindRow, Cond.instanceMethod yX4_behindRow, Cond.selects RX4 yX4_behindRow yX4_behindRow, Cond.code yX4_behindRow cX4_behindRow 5 (some (.array .int)), Cond.methodLink RX4 97 yX4_inversions, Cond.instanceMethod yX4_inversions, Cond.selects RX4 yX4_inversions yX4_inversions, Cond.code yX4_inversions cX4_inversions 4 (some .int), Cond.methodLink RX4 38 yX4_less, Cond.instanceMethod yX4_less, Cond.selects RX4 yX4_less yX4_less, Cond.code yX4_less cX4_less 5 (some .int)]
def wsX4_apart : List Cond := .code yX4_apart cX4_apart 3 (some .int) :: ((wsX4_apart_r1 ++ wsX4_apart_r2) ++ wsX40)
def wsX4_different : List Cond := .code yX4_different cX4_different 5 (some .int) :: ([.fieldLink RX4 23 "BellRanksModel" "changes" "I", .fieldLink RX4 13 "BellRanksModel" "book" "[I"] ++ wsX40)
def wsX4_counted : List Cond := .code yX4_counted cX4_counted 2 (some .int) :: ([.fieldLink RX4 7 "BellRanksModel" "bells" "I", .fieldLink RX4 23 "BellRanksModel" "changes" "I", .fieldLink RX4 48 "BellRanksModel" "steps" "I", .fieldLink RX4 91 "BellRanksModel" "rung" "I", .methodLink RX4 30 yX4_product, .static yX4_product, .initialized RX4, .code yX4_product cX4_product 1 (some .int), .methodLink RX4 112 yX4_different, .instanceMethod yX4_different, .selects RX4 yX4_different yX4_different, .code yX4_different cX4_different 5 (some .int), .fieldLink RX4 13 "BellRanksModel" "book" "[I"] ++ wsX40)
def wsX4_count_r1 : List Cond := [Cond.fieldLink RX4 20 "BellRanksModel" "thrown" "I", Cond.methodLink RX4 26 yX4_isIn, Cond.static yX4_isIn, Cond.initialized RX4, Cond.code yX4_isIn cX4_isIn 3 (some .boolean), Cond.methodLink RX4 116 yX4_counted, Cond.instanceMethod yX4_counted, Cond.selects RX4 yX4_counted yX4_counted, Cond.code yX4_counted cX4_counted 2 (some .int), Cond.fieldLink RX4 7 "BellRanksModel" "bells" "I", Cond.fieldLink RX4 23 "BellRanksModel" "changes" "I", Cond.fieldLink RX4 48 "BellRanksModel" "steps" "I", Cond.fieldLink RX4 91 "BellRanksModel" "rung" "I", Cond.methodLink RX4 30 yX4_product, Cond.static yX4_product, Cond.code yX4_product cX4_product 1 (some .int), Cond.methodLink RX4 112 yX4_different, Cond.instanceMethod yX4_different, Cond.selects RX4 yX4_different yX4_different, Cond.code yX4_different cX4_different 5 (some .int), Cond.fieldLink RX4 13 "BellRanksModel" "book" "[I", Cond.methodLink RX4 51 yX4_no, Cond.instanceMethod yX4_no, Cond.selects RX4 yX4_no yX4_no]
def wsX4_count_r2 : List Cond := [Cond.code yX4_no cX4_no 2 (some .int)]
def wsX4_count : List Cond := .code yX4_count cX4_count 2 (some .int) :: ((wsX4_count_r1 ++ wsX4_count_r2) ++ wsX40)
def wsX4_kept : List Cond := .code yX4_kept cX4_kept 2 (some .int) :: ([.fieldLink RX4 20 "BellRanksModel" "thrown" "I", .fieldLink RX4 48 "BellRanksModel" "steps" "I", .fieldLink RX4 17 "BellRanksModel" "kept" "[I", .methodLink RX4 26 yX4_isIn, .static yX4_isIn, .initialized RX4, .code yX4_isIn cX4_isIn 3 (some .boolean), .methodLink RX4 51 yX4_no, .instanceMethod yX4_no, .selects RX4 yX4_no yX4_no, .code yX4_no cX4_no 2 (some .int)] ++ wsX40)
def wsX4_comes_r1 : List Cond := [Cond.fieldLink RX4 20 "BellRanksModel" "thrown" "I", Cond.fieldLink RX4 48 "BellRanksModel" "steps" "I", Cond.fieldLink RX4 13 "BellRanksModel" "book" "[I", Cond.methodLink RX4 61 yX4_isChange, Cond.instanceMethod yX4_isChange, Cond.selects RX4 yX4_isChange yX4_isChange, Cond.initialized RX4, Cond.code yX4_isChange cX4_isChange 2 (some .boolean), Cond.fieldLink RX4 23 "BellRanksModel" "changes" "I", Cond.methodLink RX4 26 yX4_isIn, Cond.static yX4_isIn, Cond.code yX4_isIn cX4_isIn 3 (some .boolean), Cond.methodLink RX4 51 yX4_no, Cond.instanceMethod yX4_no, Cond.selects RX4 yX4_no yX4_no, Cond.code yX4_no cX4_no 2 (some .int), Cond.methodLink RX4 65 yX4_row, Cond.instanceMethod yX4_row, Cond.selects RX4 yX4_row yX4_row, Cond.code yX4_row cX4_row 8 (some (.array .int)), Cond.fieldLink RX4 7 "BellRanksModel" "bells" "I", Cond.arrayClass .int, Cond.methodLink RX4 30 yX4_product, Cond.static yX4_product]
def wsX4_comes_r2 : List Cond := [Cond.code yX4_product cX4_product 1 (some .int), Cond.methodLink RX4 34 yX4_bellAt, Cond.static yX4_bellAt, Cond.code yX4_bellAt cX4_bellAt 4 (some .int), Cond.methodLink RX4 87 yX4_ringStep, Cond.instanceMethod yX4_ringStep, Cond.selects RX4 yX4_ringStep yX4_ringStep, Cond.code yX4_ringStep cX4_ringStep 6 none, Cond.fieldLink RX4 17 "BellRanksModel" "kept" "[I", Cond.methodLink RX4 54 yX4_rank, Cond.instanceMethod yX4_rank, Cond.selects RX4 yX4_rank yX4_rank, Cond.code yX4_rank cX4_rank 4 (some .int), Cond.methodLink RX4 38 yX4_less, Cond.instanceMethod yX4_less, Cond.selects RX4 yX4_less yX4_less, Cond.code yX4_less cX4_less 5 (some .int)]
def wsX4_comes : List Cond := .code yX4_comes cX4_comes 4 (some .int) :: ((wsX4_comes_r1 ++ wsX4_comes_r2) ++ wsX40)
def wsX4_differ_r1 : List Cond := [Cond.fieldLink RX4 20 "BellRanksModel" "thrown" "I", Cond.fieldLink RX4 48 "BellRanksModel" "steps" "I", Cond.arrayClass .int, Cond.methodLink RX4 26 yX4_isIn, Cond.static yX4_isIn, Cond.initialized RX4, Cond.code yX4_isIn cX4_isIn 3 (some .boolean), Cond.methodLink RX4 51 yX4_no, Cond.instanceMethod yX4_no, Cond.selects RX4 yX4_no yX4_no, Cond.code yX4_no cX4_no 2 (some .int), Cond.methodLink RX4 65 yX4_row, Cond.instanceMethod yX4_row, Cond.selects RX4 yX4_row yX4_row, Cond.code yX4_row cX4_row 8 (some (.array .int)), Cond.fieldLink RX4 7 "BellRanksModel" "bells" "I", Cond.methodLink RX4 30 yX4_product, Cond.static yX4_product, Cond.code yX4_product cX4_product 1 (some .int), Cond.methodLink RX4 34 yX4_bellAt, Cond.static yX4_bellAt, Cond.code yX4_bellAt cX4_bellAt 4 (some .int), Cond.methodLink RX4 87 yX4_ringStep, Cond.instanceMethod yX4_ringStep]
def wsX4_differ_r2 : List Cond := [Cond.selects RX4 yX4_ringStep yX4_ringStep, Cond.code yX4_ringStep cX4_ringStep 6 none, Cond.fieldLink RX4 17 "BellRanksModel" "kept" "[I", Cond.methodLink RX4 54 yX4_rank, Cond.instanceMethod yX4_rank, Cond.selects RX4 yX4_rank yX4_rank, Cond.code yX4_rank cX4_rank 4 (some .int), Cond.methodLink RX4 38 yX4_less, Cond.instanceMethod yX4_less, Cond.selects RX4 yX4_less yX4_less, Cond.code yX4_less cX4_less 5 (some .int)]
def wsX4_differ : List Cond := .code yX4_differ cX4_differ 9 (some .int) :: ((wsX4_differ_r1 ++ wsX4_differ_r2) ++ wsX40)
def wsX4_advise_r1 : List Cond := [Cond.fieldLink RX4 20 "BellRanksModel" "thrown" "I", Cond.fieldLink RX4 13 "BellRanksModel" "book" "[I", Cond.fieldLink RX4 23 "BellRanksModel" "changes" "I", Cond.methodLink RX4 61 yX4_isChange, Cond.instanceMethod yX4_isChange, Cond.selects RX4 yX4_isChange yX4_isChange, Cond.initialized RX4, Cond.code yX4_isChange cX4_isChange 2 (some .boolean), Cond.methodLink RX4 26 yX4_isIn, Cond.static yX4_isIn, Cond.code yX4_isIn cX4_isIn 3 (some .boolean), Cond.methodLink RX4 51 yX4_no, Cond.instanceMethod yX4_no, Cond.selects RX4 yX4_no yX4_no, Cond.code yX4_no cX4_no 2 (some .int), Cond.methodLink RX4 65 yX4_row, Cond.instanceMethod yX4_row, Cond.selects RX4 yX4_row yX4_row, Cond.code yX4_row cX4_row 8 (some (.array .int)), Cond.fieldLink RX4 7 "BellRanksModel" "bells" "I", Cond.arrayClass .int, Cond.methodLink RX4 30 yX4_product, Cond.static yX4_product, Cond.code yX4_product cX4_product 1 (some .int)]
def wsX4_advise_r2 : List Cond := [Cond.methodLink RX4 34 yX4_bellAt, Cond.static yX4_bellAt, Cond.code yX4_bellAt cX4_bellAt 4 (some .int), Cond.methodLink RX4 73 yX4_behindRow, Cond.instanceMethod yX4_behindRow, Cond.selects RX4 yX4_behindRow yX4_behindRow, Cond.code yX4_behindRow cX4_behindRow 5 (some (.array .int)), Cond.methodLink RX4 97 yX4_inversions, Cond.instanceMethod yX4_inversions, Cond.selects RX4 yX4_inversions yX4_inversions, Cond.code yX4_inversions cX4_inversions 4 (some .int), Cond.methodLink RX4 38 yX4_less, Cond.instanceMethod yX4_less, Cond.selects RX4 yX4_less yX4_less, Cond.code yX4_less cX4_less 5 (some .int)]
def wsX4_advise : List Cond := .code yX4_advise cX4_advise 7 (some .int) :: ((wsX4_advise_r1 ++ wsX4_advise_r2) ++ wsX40)
def wsX4_mean : List Cond := .code yX4_mean cX4_mean 3 (some .double) :: ([.fieldLink RX4 20 "BellRanksModel" "thrown" "I", .fieldLink RX4 23 "BellRanksModel" "changes" "I", .fieldLink RX4 13 "BellRanksModel" "book" "[I"] ++ wsX40)
def wsX4_digest_r1 : List Cond := [Cond.fieldLink RX4 20 "BellRanksModel" "thrown" "I", Cond.constantLong RX4 119 (1579), Cond.constantLong RX4 121 (31), Cond.fieldLink RX4 23 "BellRanksModel" "changes" "I", Cond.fieldLink RX4 13 "BellRanksModel" "book" "[I", Cond.fieldLink RX4 48 "BellRanksModel" "steps" "I", Cond.fieldLink RX4 17 "BellRanksModel" "kept" "[I", Cond.methodLink RX4 116 yX4_counted, Cond.instanceMethod yX4_counted, Cond.selects RX4 yX4_counted yX4_counted, Cond.initialized RX4, Cond.code yX4_counted cX4_counted 2 (some .int), Cond.fieldLink RX4 7 "BellRanksModel" "bells" "I", Cond.fieldLink RX4 91 "BellRanksModel" "rung" "I", Cond.methodLink RX4 30 yX4_product, Cond.static yX4_product, Cond.code yX4_product cX4_product 1 (some .int), Cond.methodLink RX4 112 yX4_different, Cond.instanceMethod yX4_different, Cond.selects RX4 yX4_different yX4_different, Cond.code yX4_different cX4_different 5 (some .int), Cond.methodLink RX4 65 yX4_row, Cond.instanceMethod yX4_row, Cond.selects RX4 yX4_row yX4_row]
def wsX4_digest_r2 : List Cond := [Cond.code yX4_row cX4_row 8 (some (.array .int)), Cond.arrayClass .int, Cond.methodLink RX4 34 yX4_bellAt, Cond.static yX4_bellAt, Cond.code yX4_bellAt cX4_bellAt 4 (some .int), Cond.methodLink RX4 109 yX4_toldOf, Cond.instanceMethod yX4_toldOf, Cond.selects RX4 yX4_toldOf yX4_toldOf, Cond.code yX4_toldOf cX4_toldOf 5 (some .int), Cond.methodLink RX4 104 Lib.Math.max.name, Cond.static Lib.Math.max.name, Cond.initialized "java/lang/Math", Cond.code Lib.Math.max.name Lib.Math.max.code 2 (some .int), Cond.methodLink RX4 54 yX4_rank, Cond.instanceMethod yX4_rank, Cond.selects RX4 yX4_rank yX4_rank, Cond.code yX4_rank cX4_rank 4 (some .int), Cond.methodLink RX4 38 yX4_less, Cond.instanceMethod yX4_less, Cond.selects RX4 yX4_less yX4_less, Cond.code yX4_less cX4_less 5 (some .int), Cond.methodLink RX4 97 yX4_inversions, Cond.instanceMethod yX4_inversions, Cond.selects RX4 yX4_inversions yX4_inversions]
def wsX4_digest_r3 : List Cond := [Cond.code yX4_inversions cX4_inversions 4 (some .int), Cond.methodLink RX4 100 yX4_isFirst, Cond.instanceMethod yX4_isFirst, Cond.selects RX4 yX4_isFirst yX4_isFirst, Cond.code yX4_isFirst cX4_isFirst 5 (some .boolean), Cond.methodLink RX4 45 yX4_ringOf, Cond.instanceMethod yX4_ringOf, Cond.selects RX4 yX4_ringOf yX4_ringOf, Cond.code yX4_ringOf cX4_ringOf 5 (some .int), Cond.methodLink RX4 81 yX4_order, Cond.instanceMethod yX4_order, Cond.selects RX4 yX4_order yX4_order, Cond.code yX4_order cX4_order 4 (some .int), Cond.methodLink RX4 42 yX4_divisor, Cond.static yX4_divisor, Cond.code yX4_divisor cX4_divisor 2 (some .int), Cond.methodLink RX4 77 yX4_backRow, Cond.instanceMethod yX4_backRow, Cond.selects RX4 yX4_backRow yX4_backRow, Cond.code yX4_backRow cX4_backRow 4 (some (.array .int))]
def wsX4_digest : List Cond := .code yX4_digest cX4_digest 9 (some .long) :: ((wsX4_digest_r1 ++ (wsX4_digest_r2 ++ wsX4_digest_r3)) ++ wsX40)
def wsJ9_max_7cf53 : List Cond := .code yJ9_max_7cf53 cJ9_max_7cf53 2 (some .int) :: ([])
def wsL_setBells : List Cond := .codeWith yL_setBells cL_setBells 4 (some .int) [(0, 9, 12, 13)] :: ([.classLink RL 13 "java/lang/IllegalArgumentException", .methodLink RL 7 yX3_setBells, .instanceMethod yX3_setBells, .selects RX3 yX3_setBells yX3_setBells, .initialized RX3, .code yX3_setBells cX3_setBells 3 (some .int), .classLink RX3 47 "java/lang/IllegalArgumentException", .initialized "java/lang/IllegalArgumentException", .fieldLink RX3 37 "BellRanks" "bells" "I", .fieldLink RX3 41 "BellRanks" "written" "I", .fieldLink RX3 19 "BellRanks" "method" "LBellRanks$Method;", .methodLink RX3 54 yX1_removeAll, .instanceMethod yX1_removeAll, .selects RX1 yX1_removeAll yX1_removeAll, .initialized RX1, .code yX1_removeAll cX1_removeAll 1 none, .fieldLink RX1 15 "BellRanks$Method" "length" "I"] ++ wsX30 ++ wsX10 ++ (vx_atS RX3 51 "java/lang/IllegalArgumentException" ["java/lang/RuntimeException", "java/lang/Exception"]).filter goodWord)
def wsL_write_r1 : List Cond := [Cond.classLink RL 18 "java/lang/IndexOutOfBoundsException", Cond.classLink RL 20 "java/lang/IllegalStateException", Cond.methodLink RL 15 yX3_write, Cond.instanceMethod yX3_write, Cond.selects RX3 yX3_write yX3_write, Cond.initialized RX3, Cond.code yX3_write cX3_write 3 (some .int), Cond.classLink RX3 61 "java/lang/IndexOutOfBoundsException", Cond.initialized "java/lang/IndexOutOfBoundsException", Cond.fieldLink RX3 37 "BellRanks" "bells" "I", Cond.fieldLink RX3 41 "BellRanks" "written" "I", Cond.methodLink RX3 57 yX3_changesOf, Cond.static yX3_changesOf, Cond.code yX3_changesOf cX3_changesOf 3 (some .int), Cond.methodLink RX3 66 yX3_openPage, Cond.instanceMethod yX3_openPage, Cond.selects RX3 yX3_openPage yX3_openPage, Cond.code yX3_openPage cX3_openPage 2 (some (.object "BellRanks$Change")), Cond.classLink RX3 114 "java/lang/IllegalStateException", Cond.initialized "java/lang/IllegalStateException", Cond.fieldLink RX3 11 "BellRanks" "book" "[LBellRanks$Change;", Cond.methodLink RX3 70 yX0_setRank, Cond.instanceMethod yX0_setRank, Cond.selects RX0 yX0_setRank yX0_setRank]
def wsL_write_r2 : List Cond := [Cond.initialized RX0, Cond.code yX0_setRank cX0_setRank 5 none, Cond.fieldLink RX0 15 "BellRanks$Change" "size" "I", Cond.methodLink RX0 26 yX0_insertAhead, Cond.instanceMethod yX0_insertAhead, Cond.selects RX0 yX0_insertAhead yX0_insertAhead, Cond.code yX0_insertAhead cX0_insertAhead 4 none, Cond.methodLink RX0 30 yX0_put, Cond.instanceMethod yX0_put, Cond.selects RX0 yX0_put yX0_put, Cond.code yX0_put cX0_put 3 none, Cond.fieldLink RX0 9 "BellRanks$Change" "row" "[I", Cond.methodLink RX0 19 yX0_bellAt, Cond.instanceMethod yX0_bellAt, Cond.selects RX0 yX0_bellAt yX0_bellAt, Cond.code yX0_bellAt cX0_bellAt 2 (some .int)]
def wsL_write : List Cond := .codeWith yL_write cL_write 4 (some .int) [(0, 9, 12, 18), (0, 9, 15, 20)] :: ((wsL_write_r1 ++ wsL_write_r2) ++ wsX30 ++ wsX00 ++ (vx_atS RX3 65 "java/lang/IndexOutOfBoundsException" ["java/lang/RuntimeException", "java/lang/Exception"]).filter goodWord ++ (vx_atS RX3 118 "java/lang/IllegalStateException" ["java/lang/RuntimeException", "java/lang/Exception"]).filter goodWord)
def wsL_swap_r1 : List Cond := [Cond.classLink RL 18 "java/lang/IndexOutOfBoundsException", Cond.methodLink RL 22 yX3_swap, Cond.instanceMethod yX3_swap, Cond.selects RX3 yX3_swap yX3_swap, Cond.initialized RX3, Cond.code yX3_swap cX3_swap 4 (some .int), Cond.classLink RX3 61 "java/lang/IndexOutOfBoundsException", Cond.initialized "java/lang/IndexOutOfBoundsException", Cond.fieldLink RX3 37 "BellRanks" "bells" "I", Cond.methodLink RX3 74 yX3_find, Cond.instanceMethod yX3_find, Cond.selects RX3 yX3_find yX3_find, Cond.code yX3_find cX3_find 2 (some (.object "BellRanks$Change")), Cond.fieldLink RX3 41 "BellRanks" "written" "I", Cond.fieldLink RX3 11 "BellRanks" "book" "[LBellRanks$Change;", Cond.methodLink RX3 80 yX0_exchange, Cond.instanceMethod yX0_exchange, Cond.selects RX0 yX0_exchange yX0_exchange, Cond.initialized RX0, Cond.code yX0_exchange cX0_exchange 3 none, Cond.methodLink RX0 19 yX0_bellAt, Cond.instanceMethod yX0_bellAt, Cond.selects RX0 yX0_bellAt yX0_bellAt, Cond.code yX0_bellAt cX0_bellAt 2 (some .int)]
def wsL_swap_r2 : List Cond := [Cond.fieldLink RX0 9 "BellRanks$Change" "row" "[I", Cond.methodLink RX0 30 yX0_put, Cond.instanceMethod yX0_put, Cond.selects RX0 yX0_put yX0_put, Cond.code yX0_put cX0_put 3 none, Cond.methodLink RX3 84 yX0_rank, Cond.instanceMethod yX0_rank, Cond.selects RX0 yX0_rank yX0_rank, Cond.code yX0_rank cX0_rank 3 (some .int), Cond.fieldLink RX0 15 "BellRanks$Change" "size" "I", Cond.methodLink RX0 23 yX0_lesserBehind, Cond.instanceMethod yX0_lesserBehind, Cond.selects RX0 yX0_lesserBehind yX0_lesserBehind, Cond.code yX0_lesserBehind cX0_lesserBehind 4 (some .int)]
def wsL_swap : List Cond := .codeWith yL_swap cL_swap 5 (some .int) [(0, 10, 13, 18)] :: ((wsL_swap_r1 ++ wsL_swap_r2) ++ wsX30 ++ wsX00 ++ (vx_atS RX3 65 "java/lang/IndexOutOfBoundsException" ["java/lang/RuntimeException", "java/lang/Exception"]).filter goodWord)
def wsL_next_r1 : List Cond := [Cond.classLink RL 18 "java/lang/IndexOutOfBoundsException", Cond.methodLink RL 26 yX3_next, Cond.instanceMethod yX3_next, Cond.selects RX3 yX3_next yX3_next, Cond.initialized RX3, Cond.code yX3_next cX3_next 4 (some .int), Cond.fieldLink RX3 37 "BellRanks" "bells" "I", Cond.methodLink RX3 74 yX3_find, Cond.instanceMethod yX3_find, Cond.selects RX3 yX3_find yX3_find, Cond.code yX3_find cX3_find 2 (some (.object "BellRanks$Change")), Cond.classLink RX3 61 "java/lang/IndexOutOfBoundsException", Cond.initialized "java/lang/IndexOutOfBoundsException", Cond.fieldLink RX3 41 "BellRanks" "written" "I", Cond.fieldLink RX3 11 "BellRanks" "book" "[LBellRanks$Change;", Cond.methodLink RX3 84 yX0_rank, Cond.instanceMethod yX0_rank, Cond.selects RX0 yX0_rank yX0_rank, Cond.initialized RX0, Cond.code yX0_rank cX0_rank 3 (some .int), Cond.fieldLink RX0 15 "BellRanks$Change" "size" "I", Cond.methodLink RX0 23 yX0_lesserBehind, Cond.instanceMethod yX0_lesserBehind, Cond.selects RX0 yX0_lesserBehind yX0_lesserBehind]
def wsL_next_r2 : List Cond := [Cond.code yX0_lesserBehind cX0_lesserBehind 4 (some .int), Cond.methodLink RX0 19 yX0_bellAt, Cond.instanceMethod yX0_bellAt, Cond.selects RX0 yX0_bellAt yX0_bellAt, Cond.code yX0_bellAt cX0_bellAt 2 (some .int), Cond.fieldLink RX0 9 "BellRanks$Change" "row" "[I", Cond.methodLink RX3 57 yX3_changesOf, Cond.static yX3_changesOf, Cond.code yX3_changesOf cX3_changesOf 3 (some .int), Cond.methodLink RX3 70 yX0_setRank, Cond.instanceMethod yX0_setRank, Cond.selects RX0 yX0_setRank yX0_setRank, Cond.code yX0_setRank cX0_setRank 5 none, Cond.methodLink RX0 26 yX0_insertAhead, Cond.instanceMethod yX0_insertAhead, Cond.selects RX0 yX0_insertAhead yX0_insertAhead, Cond.code yX0_insertAhead cX0_insertAhead 4 none, Cond.methodLink RX0 30 yX0_put, Cond.instanceMethod yX0_put, Cond.selects RX0 yX0_put yX0_put, Cond.code yX0_put cX0_put 3 none]
def wsL_next : List Cond := .codeWith yL_next cL_next 4 (some .int) [(0, 9, 12, 18)] :: ((wsL_next_r1 ++ wsL_next_r2) ++ wsX30 ++ wsX00 ++ (vx_atS RX3 65 "java/lang/IndexOutOfBoundsException" ["java/lang/RuntimeException", "java/lang/Exception"]).filter goodWord)
def wsL_behind_r1 : List Cond := [Cond.classLink RL 18 "java/lang/IndexOutOfBoundsException", Cond.classLink RL 20 "java/lang/IllegalStateException", Cond.methodLink RL 29 yX3_behind, Cond.instanceMethod yX3_behind, Cond.selects RX3 yX3_behind yX3_behind, Cond.initialized RX3, Cond.code yX3_behind cX3_behind 6 (some .int), Cond.fieldLink RX3 41 "BellRanks" "written" "I", Cond.methodLink RX3 74 yX3_find, Cond.instanceMethod yX3_find, Cond.selects RX3 yX3_find yX3_find, Cond.code yX3_find cX3_find 2 (some (.object "BellRanks$Change")), Cond.classLink RX3 61 "java/lang/IndexOutOfBoundsException", Cond.initialized "java/lang/IndexOutOfBoundsException", Cond.fieldLink RX3 11 "BellRanks" "book" "[LBellRanks$Change;", Cond.methodLink RX3 66 yX3_openPage, Cond.instanceMethod yX3_openPage, Cond.selects RX3 yX3_openPage yX3_openPage, Cond.code yX3_openPage cX3_openPage 2 (some (.object "BellRanks$Change")), Cond.classLink RX3 114 "java/lang/IllegalStateException", Cond.initialized "java/lang/IllegalStateException", Cond.methodLink RX3 88 yX0_setBehind, Cond.instanceMethod yX0_setBehind, Cond.selects RX0 yX0_setBehind yX0_setBehind]
def wsL_behind_r2 : List Cond := [Cond.initialized RX0, Cond.code yX0_setBehind cX0_setBehind 4 none, Cond.fieldLink RX0 15 "BellRanks$Change" "size" "I", Cond.methodLink RX0 19 yX0_bellAt, Cond.instanceMethod yX0_bellAt, Cond.selects RX0 yX0_bellAt yX0_bellAt, Cond.code yX0_bellAt cX0_bellAt 2 (some .int), Cond.fieldLink RX0 9 "BellRanks$Change" "row" "[I", Cond.methodLink RX0 30 yX0_put, Cond.instanceMethod yX0_put, Cond.selects RX0 yX0_put yX0_put, Cond.code yX0_put cX0_put 3 none]
def wsL_behind : List Cond := .codeWith yL_behind cL_behind 5 (some .int) [(0, 10, 13, 18), (0, 10, 17, 20)] :: ((wsL_behind_r1 ++ wsL_behind_r2) ++ wsX30 ++ wsX00 ++ (vx_atS RX3 65 "java/lang/IndexOutOfBoundsException" ["java/lang/RuntimeException", "java/lang/Exception"]).filter goodWord ++ (vx_atS RX3 118 "java/lang/IllegalStateException" ["java/lang/RuntimeException", "java/lang/Exception"]).filter goodWord)
def wsL_back_r1 : List Cond := [Cond.classLink RL 18 "java/lang/IndexOutOfBoundsException", Cond.methodLink RL 32 yX3_back, Cond.instanceMethod yX3_back, Cond.selects RX3 yX3_back yX3_back, Cond.initialized RX3, Cond.code yX3_back cX3_back 3 (some .int), Cond.fieldLink RX3 27 "BellRanks" "made" "LBellRanks$Change;", Cond.methodLink RX3 74 yX3_find, Cond.instanceMethod yX3_find, Cond.selects RX3 yX3_find yX3_find, Cond.code yX3_find cX3_find 2 (some (.object "BellRanks$Change")), Cond.classLink RX3 61 "java/lang/IndexOutOfBoundsException", Cond.initialized "java/lang/IndexOutOfBoundsException", Cond.fieldLink RX3 41 "BellRanks" "written" "I", Cond.fieldLink RX3 11 "BellRanks" "book" "[LBellRanks$Change;", Cond.methodLink RX3 92 yX0_setBack, Cond.instanceMethod yX0_setBack, Cond.selects RX0 yX0_setBack yX0_setBack, Cond.initialized RX0, Cond.code yX0_setBack cX0_setBack 3 none, Cond.fieldLink RX0 15 "BellRanks$Change" "size" "I", Cond.methodLink RX0 19 yX0_bellAt, Cond.instanceMethod yX0_bellAt, Cond.selects RX0 yX0_bellAt yX0_bellAt]
def wsL_back_r2 : List Cond := [Cond.code yX0_bellAt cX0_bellAt 2 (some .int), Cond.fieldLink RX0 9 "BellRanks$Change" "row" "[I", Cond.methodLink RX0 30 yX0_put, Cond.instanceMethod yX0_put, Cond.selects RX0 yX0_put yX0_put, Cond.code yX0_put cX0_put 3 none, Cond.methodLink RX3 96 yX0_setCopy, Cond.instanceMethod yX0_setCopy, Cond.selects RX0 yX0_setCopy yX0_setCopy, Cond.code yX0_setCopy cX0_setCopy 3 none, Cond.methodLink RX3 84 yX0_rank, Cond.instanceMethod yX0_rank, Cond.selects RX0 yX0_rank yX0_rank, Cond.code yX0_rank cX0_rank 3 (some .int), Cond.methodLink RX0 23 yX0_lesserBehind, Cond.instanceMethod yX0_lesserBehind, Cond.selects RX0 yX0_lesserBehind yX0_lesserBehind, Cond.code yX0_lesserBehind cX0_lesserBehind 4 (some .int)]
def wsL_back : List Cond := .codeWith yL_back cL_back 4 (some .int) [(0, 9, 12, 18)] :: ((wsL_back_r1 ++ wsL_back_r2) ++ wsX30 ++ wsX00 ++ (vx_atS RX3 65 "java/lang/IndexOutOfBoundsException" ["java/lang/RuntimeException", "java/lang/Exception"]).filter goodWord)
def wsL_repeat_r1 : List Cond := [Cond.classLink RL 18 "java/lang/IndexOutOfBoundsException", Cond.classLink RL 13 "java/lang/IllegalArgumentException", Cond.methodLink RL 35 yX3_repeat, Cond.instanceMethod yX3_repeat, Cond.selects RX3 yX3_repeat yX3_repeat, Cond.initialized RX3, Cond.code yX3_repeat cX3_repeat 4 (some .int), Cond.classLink RX3 47 "java/lang/IllegalArgumentException", Cond.initialized "java/lang/IllegalArgumentException", Cond.fieldLink RX3 27 "BellRanks" "made" "LBellRanks$Change;", Cond.methodLink RX3 74 yX3_find, Cond.instanceMethod yX3_find, Cond.selects RX3 yX3_find yX3_find, Cond.code yX3_find cX3_find 2 (some (.object "BellRanks$Change")), Cond.classLink RX3 61 "java/lang/IndexOutOfBoundsException", Cond.initialized "java/lang/IndexOutOfBoundsException", Cond.fieldLink RX3 41 "BellRanks" "written" "I", Cond.fieldLink RX3 11 "BellRanks" "book" "[LBellRanks$Change;", Cond.methodLink RX3 101 yX0_setRepeated, Cond.instanceMethod yX0_setRepeated, Cond.selects RX0 yX0_setRepeated yX0_setRepeated, Cond.initialized RX0, Cond.code yX0_setRepeated cX0_setRepeated 6 none, Cond.fieldLink RX0 15 "BellRanks$Change" "size" "I"]
def wsL_repeat_r2 : List Cond := [Cond.methodLink RX0 33 yX0_ringLength, Cond.instanceMethod yX0_ringLength, Cond.selects RX0 yX0_ringLength yX0_ringLength, Cond.code yX0_ringLength cX0_ringLength 4 (some .int), Cond.methodLink RX0 19 yX0_bellAt, Cond.instanceMethod yX0_bellAt, Cond.selects RX0 yX0_bellAt yX0_bellAt, Cond.code yX0_bellAt cX0_bellAt 2 (some .int), Cond.fieldLink RX0 9 "BellRanks$Change" "row" "[I", Cond.methodLink RX0 36 yX0_goneFrom, Cond.instanceMethod yX0_goneFrom, Cond.selects RX0 yX0_goneFrom yX0_goneFrom, Cond.code yX0_goneFrom cX0_goneFrom 5 (some .int), Cond.methodLink RX0 30 yX0_put, Cond.instanceMethod yX0_put, Cond.selects RX0 yX0_put yX0_put, Cond.code yX0_put cX0_put 3 none, Cond.methodLink RX3 96 yX0_setCopy, Cond.instanceMethod yX0_setCopy, Cond.selects RX0 yX0_setCopy yX0_setCopy, Cond.code yX0_setCopy cX0_setCopy 3 none, Cond.methodLink RX3 84 yX0_rank, Cond.instanceMethod yX0_rank, Cond.selects RX0 yX0_rank yX0_rank]
def wsL_repeat_r3 : List Cond := [Cond.code yX0_rank cX0_rank 3 (some .int), Cond.methodLink RX0 23 yX0_lesserBehind, Cond.instanceMethod yX0_lesserBehind, Cond.selects RX0 yX0_lesserBehind yX0_lesserBehind, Cond.code yX0_lesserBehind cX0_lesserBehind 4 (some .int)]
def wsL_repeat : List Cond := .codeWith yL_repeat cL_repeat 5 (some .int) [(0, 10, 13, 18), (0, 10, 17, 13)] :: ((wsL_repeat_r1 ++ (wsL_repeat_r2 ++ wsL_repeat_r3)) ++ wsX30 ++ wsX00 ++ (vx_atS RX3 51 "java/lang/IllegalArgumentException" ["java/lang/RuntimeException", "java/lang/Exception"]).filter goodWord ++ (vx_atS RX3 65 "java/lang/IndexOutOfBoundsException" ["java/lang/RuntimeException", "java/lang/Exception"]).filter goodWord)
def wsL_step_r1 : List Cond := [Cond.classLink RL 13 "java/lang/IllegalArgumentException", Cond.classLink RL 20 "java/lang/IllegalStateException", Cond.methodLink RL 38 yX3_step, Cond.instanceMethod yX3_step, Cond.selects RX3 yX3_step yX3_step, Cond.initialized RX3, Cond.code yX3_step cX3_step 2 (some .int), Cond.classLink RX3 47 "java/lang/IllegalArgumentException", Cond.initialized "java/lang/IllegalArgumentException", Cond.classLink RX3 114 "java/lang/IllegalStateException", Cond.initialized "java/lang/IllegalStateException", Cond.fieldLink RX3 37 "BellRanks" "bells" "I", Cond.fieldLink RX3 19 "BellRanks" "method" "LBellRanks$Method;", Cond.methodLink RX3 105 yX1_isStep, Cond.static yX1_isStep, Cond.initialized RX1, Cond.code yX1_isStep cX1_isStep 3 (some .boolean), Cond.methodLink RX1 19 yX1_keeps, Cond.static yX1_keeps, Cond.code yX1_keeps cX1_keeps 2 (some .boolean), Cond.methodLink RX3 111 yX1_length, Cond.instanceMethod yX1_length, Cond.selects RX1 yX1_length yX1_length, Cond.code yX1_length cX1_length 1 (some .int)]
def wsL_step_r2 : List Cond := [Cond.fieldLink RX1 15 "BellRanks$Method" "length" "I", Cond.methodLink RX3 119 yX1_add, Cond.instanceMethod yX1_add, Cond.selects RX1 yX1_add yX1_add, Cond.code yX1_add cX1_add 2 none, Cond.fieldLink RX1 9 "BellRanks$Method" "steps" "[I"]
def wsL_step : List Cond := .codeWith yL_step cL_step 4 (some .int) [(0, 9, 12, 13), (0, 9, 15, 20)] :: ((wsL_step_r1 ++ wsL_step_r2) ++ wsX30 ++ wsX10 ++ (vx_atS RX3 51 "java/lang/IllegalArgumentException" ["java/lang/RuntimeException", "java/lang/Exception"]).filter goodWord ++ (vx_atS RX3 118 "java/lang/IllegalStateException" ["java/lang/RuntimeException", "java/lang/Exception"]).filter goodWord)
def wsL_ring_r1 : List Cond := [Cond.classLink RL 18 "java/lang/IndexOutOfBoundsException", Cond.classLink RL 13 "java/lang/IllegalArgumentException", Cond.methodLink RL 41 yX3_ring, Cond.instanceMethod yX3_ring, Cond.selects RX3 yX3_ring yX3_ring, Cond.initialized RX3, Cond.code yX3_ring cX3_ring 5 (some .int), Cond.fieldLink RX3 19 "BellRanks" "method" "LBellRanks$Method;", Cond.fieldLink RX3 44 "BellRanks" "rungInAll" "I", Cond.methodLink RX3 74 yX3_find, Cond.instanceMethod yX3_find, Cond.selects RX3 yX3_find yX3_find, Cond.code yX3_find cX3_find 2 (some (.object "BellRanks$Change")), Cond.classLink RX3 61 "java/lang/IndexOutOfBoundsException", Cond.initialized "java/lang/IndexOutOfBoundsException", Cond.fieldLink RX3 41 "BellRanks" "written" "I", Cond.fieldLink RX3 11 "BellRanks" "book" "[LBellRanks$Change;", Cond.methodLink RX3 122 yX3_checkSteps, Cond.static yX3_checkSteps, Cond.code yX3_checkSteps cX3_checkSteps 1 none, Cond.classLink RX3 47 "java/lang/IllegalArgumentException", Cond.initialized "java/lang/IllegalArgumentException", Cond.methodLink RX3 111 yX1_length, Cond.instanceMethod yX1_length]
def wsL_ring_r2 : List Cond := [Cond.selects RX1 yX1_length yX1_length, Cond.initialized RX1, Cond.code yX1_length cX1_length 1 (some .int), Cond.fieldLink RX1 15 "BellRanks$Method" "length" "I", Cond.methodLink RX3 125 yX1_ringOn, Cond.instanceMethod yX1_ringOn, Cond.selects RX1 yX1_ringOn yX1_ringOn, Cond.code yX1_ringOn cX1_ringOn 3 none, Cond.methodLink RX1 23 yX1_keptAt, Cond.instanceMethod yX1_keptAt, Cond.selects RX1 yX1_keptAt yX1_keptAt, Cond.code yX1_keptAt cX1_keptAt 2 (some .int), Cond.fieldLink RX1 9 "BellRanks$Method" "steps" "[I", Cond.methodLink RX1 27 yX0_ringStep, Cond.instanceMethod yX0_ringStep, Cond.selects RX0 yX0_ringStep yX0_ringStep, Cond.initialized RX0, Cond.code yX0_ringStep cX0_ringStep 3 none, Cond.fieldLink RX0 15 "BellRanks$Change" "size" "I", Cond.methodLink RX0 40 yX1_keeps, Cond.static yX1_keeps, Cond.code yX1_keeps cX1_keeps 2 (some .boolean), Cond.methodLink RX0 46 yX0_exchange, Cond.instanceMethod yX0_exchange]
def wsL_ring_r3 : List Cond := [Cond.selects RX0 yX0_exchange yX0_exchange, Cond.code yX0_exchange cX0_exchange 3 none, Cond.methodLink RX0 19 yX0_bellAt, Cond.instanceMethod yX0_bellAt, Cond.selects RX0 yX0_bellAt yX0_bellAt, Cond.code yX0_bellAt cX0_bellAt 2 (some .int), Cond.fieldLink RX0 9 "BellRanks$Change" "row" "[I", Cond.methodLink RX0 30 yX0_put, Cond.instanceMethod yX0_put, Cond.selects RX0 yX0_put yX0_put, Cond.code yX0_put cX0_put 3 none, Cond.methodLink RX3 84 yX0_rank, Cond.instanceMethod yX0_rank, Cond.selects RX0 yX0_rank yX0_rank, Cond.code yX0_rank cX0_rank 3 (some .int), Cond.methodLink RX0 23 yX0_lesserBehind, Cond.instanceMethod yX0_lesserBehind, Cond.selects RX0 yX0_lesserBehind yX0_lesserBehind, Cond.code yX0_lesserBehind cX0_lesserBehind 4 (some .int)]
def wsL_ring : List Cond := .codeWith yL_ring cL_ring 5 (some .int) [(0, 10, 13, 18), (0, 10, 17, 13)] :: ((wsL_ring_r1 ++ (wsL_ring_r2 ++ wsL_ring_r3)) ++ wsX30 ++ wsX10 ++ wsX00 ++ (vx_atS RX3 65 "java/lang/IndexOutOfBoundsException" ["java/lang/RuntimeException", "java/lang/Exception"]).filter goodWord ++ (vx_atS RX3 51 "java/lang/IllegalArgumentException" ["java/lang/RuntimeException", "java/lang/Exception"]).filter goodWord)
def wsL_bell_r1 : List Cond := [Cond.classLink RL 18 "java/lang/IndexOutOfBoundsException", Cond.methodLink RL 44 yX3_bell, Cond.instanceMethod yX3_bell, Cond.selects RX3 yX3_bell yX3_bell, Cond.initialized RX3, Cond.code yX3_bell cX3_bell 4 (some .int), Cond.methodLink RX3 74 yX3_find, Cond.instanceMethod yX3_find, Cond.selects RX3 yX3_find yX3_find, Cond.code yX3_find cX3_find 2 (some (.object "BellRanks$Change")), Cond.classLink RX3 61 "java/lang/IndexOutOfBoundsException", Cond.initialized "java/lang/IndexOutOfBoundsException", Cond.fieldLink RX3 41 "BellRanks" "written" "I", Cond.fieldLink RX3 11 "BellRanks" "book" "[LBellRanks$Change;", Cond.methodLink RX3 128 yX3_checkPlace, Cond.instanceMethod yX3_checkPlace, Cond.selects RX3 yX3_checkPlace yX3_checkPlace, Cond.code yX3_checkPlace cX3_checkPlace 2 none, Cond.fieldLink RX3 37 "BellRanks" "bells" "I", Cond.methodLink RX3 131 yX0_bellAt, Cond.instanceMethod yX0_bellAt, Cond.selects RX0 yX0_bellAt yX0_bellAt, Cond.initialized RX0, Cond.code yX0_bellAt cX0_bellAt 2 (some .int)]
def wsL_bell_r2 : List Cond := [Cond.fieldLink RX0 9 "BellRanks$Change" "row" "[I"]
def wsL_bell : List Cond := .codeWith yL_bell cL_bell 5 (some .int) [(0, 10, 13, 18)] :: ((wsL_bell_r1 ++ wsL_bell_r2) ++ wsX30 ++ wsX00 ++ (vx_atS RX3 65 "java/lang/IndexOutOfBoundsException" ["java/lang/RuntimeException", "java/lang/Exception"]).filter goodWord)
def wsL_told_r1 : List Cond := [Cond.classLink RL 18 "java/lang/IndexOutOfBoundsException", Cond.methodLink RL 47 yX3_told, Cond.instanceMethod yX3_told, Cond.selects RX3 yX3_told yX3_told, Cond.initialized RX3, Cond.code yX3_told cX3_told 4 (some .int), Cond.classLink RX3 61 "java/lang/IndexOutOfBoundsException", Cond.initialized "java/lang/IndexOutOfBoundsException", Cond.methodLink RX3 74 yX3_find, Cond.instanceMethod yX3_find, Cond.selects RX3 yX3_find yX3_find, Cond.code yX3_find cX3_find 2 (some (.object "BellRanks$Change")), Cond.fieldLink RX3 41 "BellRanks" "written" "I", Cond.fieldLink RX3 11 "BellRanks" "book" "[LBellRanks$Change;", Cond.methodLink RX3 84 yX0_rank, Cond.instanceMethod yX0_rank, Cond.selects RX0 yX0_rank yX0_rank, Cond.initialized RX0, Cond.code yX0_rank cX0_rank 3 (some .int), Cond.fieldLink RX0 15 "BellRanks$Change" "size" "I", Cond.methodLink RX0 23 yX0_lesserBehind, Cond.instanceMethod yX0_lesserBehind, Cond.selects RX0 yX0_lesserBehind yX0_lesserBehind, Cond.code yX0_lesserBehind cX0_lesserBehind 4 (some .int)]
def wsL_told_r2 : List Cond := [Cond.methodLink RX0 19 yX0_bellAt, Cond.instanceMethod yX0_bellAt, Cond.selects RX0 yX0_bellAt yX0_bellAt, Cond.code yX0_bellAt cX0_bellAt 2 (some .int), Cond.fieldLink RX0 9 "BellRanks$Change" "row" "[I", Cond.methodLink RX3 134 yX0_inversions, Cond.instanceMethod yX0_inversions, Cond.selects RX0 yX0_inversions yX0_inversions, Cond.code yX0_inversions cX0_inversions 3 (some .int), Cond.methodLink RX3 137 yX0_ringCount, Cond.instanceMethod yX0_ringCount, Cond.selects RX0 yX0_ringCount yX0_ringCount, Cond.code yX0_ringCount cX0_ringCount 3 (some .int), Cond.methodLink RX0 50 yX0_isLeastOfRing, Cond.instanceMethod yX0_isLeastOfRing, Cond.selects RX0 yX0_isLeastOfRing yX0_isLeastOfRing, Cond.code yX0_isLeastOfRing cX0_isLeastOfRing 4 (some .boolean), Cond.methodLink RX3 140 yX0_longestRing, Cond.instanceMethod yX0_longestRing, Cond.selects RX0 yX0_longestRing yX0_longestRing, Cond.code yX0_longestRing cX0_longestRing 3 (some .int), Cond.methodLink RX0 54 Lib.Math.max.name, Cond.static Lib.Math.max.name, Cond.initialized "java/lang/Math"]
def wsL_told_r3 : List Cond := [Cond.code Lib.Math.max.name Lib.Math.max.code 2 (some .int), Cond.methodLink RX0 33 yX0_ringLength, Cond.instanceMethod yX0_ringLength, Cond.selects RX0 yX0_ringLength yX0_ringLength, Cond.code yX0_ringLength cX0_ringLength 4 (some .int), Cond.methodLink RX3 143 yX0_order, Cond.instanceMethod yX0_order, Cond.selects RX0 yX0_order yX0_order, Cond.code yX0_order cX0_order 3 (some .int), Cond.methodLink RX0 59 yX0_leastMultiple, Cond.static yX0_leastMultiple, Cond.code yX0_leastMultiple cX0_leastMultiple 4 (some .int), Cond.methodLink RX3 146 yX0_ownPlaces, Cond.instanceMethod yX0_ownPlaces, Cond.selects RX0 yX0_ownPlaces yX0_ownPlaces, Cond.code yX0_ownPlaces cX0_ownPlaces 3 (some .int), Cond.methodLink RX3 149 yX0_placeOf, Cond.instanceMethod yX0_placeOf, Cond.selects RX0 yX0_placeOf yX0_placeOf, Cond.code yX0_placeOf cX0_placeOf 3 (some .int)]
def wsL_told : List Cond := .codeWith yL_told cL_told 5 (some .int) [(0, 10, 13, 18)] :: ((wsL_told_r1 ++ (wsL_told_r2 ++ wsL_told_r3)) ++ wsX30 ++ wsX00 ++ (vx_atS RX3 65 "java/lang/IndexOutOfBoundsException" ["java/lang/RuntimeException", "java/lang/Exception"]).filter goodWord)
def wsL_round_r1 : List Cond := [Cond.classLink RL 18 "java/lang/IndexOutOfBoundsException", Cond.methodLink RL 50 yX3_round, Cond.instanceMethod yX3_round, Cond.selects RX3 yX3_round yX3_round, Cond.initialized RX3, Cond.code yX3_round cX3_round 4 (some .int), Cond.methodLink RX3 74 yX3_find, Cond.instanceMethod yX3_find, Cond.selects RX3 yX3_find yX3_find, Cond.code yX3_find cX3_find 2 (some (.object "BellRanks$Change")), Cond.classLink RX3 61 "java/lang/IndexOutOfBoundsException", Cond.initialized "java/lang/IndexOutOfBoundsException", Cond.fieldLink RX3 41 "BellRanks" "written" "I", Cond.fieldLink RX3 11 "BellRanks" "book" "[LBellRanks$Change;", Cond.methodLink RX3 128 yX3_checkPlace, Cond.instanceMethod yX3_checkPlace, Cond.selects RX3 yX3_checkPlace yX3_checkPlace, Cond.code yX3_checkPlace cX3_checkPlace 2 none, Cond.fieldLink RX3 37 "BellRanks" "bells" "I", Cond.methodLink RX3 154 yX0_ringLength, Cond.instanceMethod yX0_ringLength, Cond.selects RX0 yX0_ringLength yX0_ringLength, Cond.initialized RX0, Cond.code yX0_ringLength cX0_ringLength 4 (some .int)]
def wsL_round_r2 : List Cond := [Cond.fieldLink RX0 15 "BellRanks$Change" "size" "I", Cond.methodLink RX0 19 yX0_bellAt, Cond.instanceMethod yX0_bellAt, Cond.selects RX0 yX0_bellAt yX0_bellAt, Cond.code yX0_bellAt cX0_bellAt 2 (some .int), Cond.fieldLink RX0 9 "BellRanks$Change" "row" "[I"]
def wsL_round : List Cond := .codeWith yL_round cL_round 5 (some .int) [(0, 10, 13, 18)] :: ((wsL_round_r1 ++ wsL_round_r2) ++ wsX30 ++ wsX00 ++ (vx_atS RX3 65 "java/lang/IndexOutOfBoundsException" ["java/lang/RuntimeException", "java/lang/Exception"]).filter goodWord)
def wsL_apart_r1 : List Cond := [Cond.classLink RL 18 "java/lang/IndexOutOfBoundsException", Cond.methodLink RL 53 yX3_apart, Cond.instanceMethod yX3_apart, Cond.selects RX3 yX3_apart yX3_apart, Cond.initialized RX3, Cond.code yX3_apart cX3_apart 8 (some .int), Cond.fieldLink RX3 37 "BellRanks" "bells" "I", Cond.methodLink RX3 74 yX3_find, Cond.instanceMethod yX3_find, Cond.selects RX3 yX3_find yX3_find, Cond.code yX3_find cX3_find 2 (some (.object "BellRanks$Change")), Cond.classLink RX3 61 "java/lang/IndexOutOfBoundsException", Cond.initialized "java/lang/IndexOutOfBoundsException", Cond.fieldLink RX3 41 "BellRanks" "written" "I", Cond.fieldLink RX3 11 "BellRanks" "book" "[LBellRanks$Change;", Cond.methodLink RX3 131 yX0_bellAt, Cond.instanceMethod yX0_bellAt, Cond.selects RX0 yX0_bellAt yX0_bellAt, Cond.initialized RX0, Cond.code yX0_bellAt cX0_bellAt 2 (some .int), Cond.fieldLink RX0 9 "BellRanks$Change" "row" "[I", Cond.methodLink RX3 149 yX0_placeOf, Cond.instanceMethod yX0_placeOf, Cond.selects RX0 yX0_placeOf yX0_placeOf]
def wsL_apart_r2 : List Cond := [Cond.code yX0_placeOf cX0_placeOf 3 (some .int), Cond.fieldLink RX0 15 "BellRanks$Change" "size" "I", Cond.methodLink RX0 19 yX0_bellAt]
def wsL_apart : List Cond := .codeWith yL_apart cL_apart 5 (some .int) [(0, 10, 13, 18)] :: ((wsL_apart_r1 ++ wsL_apart_r2) ++ wsX30 ++ wsX00 ++ (vx_atS RX3 65 "java/lang/IndexOutOfBoundsException" ["java/lang/RuntimeException", "java/lang/Exception"]).filter goodWord)
def wsL_count_r1 : List Cond := [Cond.classLink RL 18 "java/lang/IndexOutOfBoundsException", Cond.methodLink RL 56 yX3_count, Cond.instanceMethod yX3_count, Cond.selects RX3 yX3_count yX3_count, Cond.initialized RX3, Cond.code yX3_count cX3_count 2 (some .int), Cond.classLink RX3 61 "java/lang/IndexOutOfBoundsException", Cond.initialized "java/lang/IndexOutOfBoundsException", Cond.fieldLink RX3 37 "BellRanks" "bells" "I", Cond.fieldLink RX3 41 "BellRanks" "written" "I", Cond.fieldLink RX3 19 "BellRanks" "method" "LBellRanks$Method;", Cond.fieldLink RX3 44 "BellRanks" "rungInAll" "I", Cond.methodLink RX3 57 yX3_changesOf, Cond.static yX3_changesOf, Cond.code yX3_changesOf cX3_changesOf 3 (some .int), Cond.methodLink RX3 157 yX3_differentInBook, Cond.instanceMethod yX3_differentInBook, Cond.selects RX3 yX3_differentInBook yX3_differentInBook, Cond.code yX3_differentInBook cX3_differentInBook 2 (some .int), Cond.fieldLink RX3 33 "BellRanks" "ranks" "LBellRanks$RankSet;", Cond.fieldLink RX3 11 "BellRanks" "book" "[LBellRanks$Change;", Cond.methodLink RX3 171 yX2_removeAll, Cond.instanceMethod yX2_removeAll, Cond.selects RX2 yX2_removeAll yX2_removeAll]
def wsL_count_r2 : List Cond := [Cond.initialized RX2, Cond.code yX2_removeAll cX2_removeAll 1 none, Cond.fieldLink RX2 15 "BellRanks$RankSet" "size" "I", Cond.methodLink RX3 84 yX0_rank, Cond.instanceMethod yX0_rank, Cond.selects RX0 yX0_rank yX0_rank, Cond.initialized RX0, Cond.code yX0_rank cX0_rank 3 (some .int), Cond.fieldLink RX0 15 "BellRanks$Change" "size" "I", Cond.methodLink RX0 23 yX0_lesserBehind, Cond.instanceMethod yX0_lesserBehind, Cond.selects RX0 yX0_lesserBehind yX0_lesserBehind, Cond.code yX0_lesserBehind cX0_lesserBehind 4 (some .int), Cond.methodLink RX0 19 yX0_bellAt, Cond.instanceMethod yX0_bellAt, Cond.selects RX0 yX0_bellAt yX0_bellAt, Cond.code yX0_bellAt cX0_bellAt 2 (some .int), Cond.fieldLink RX0 9 "BellRanks$Change" "row" "[I", Cond.methodLink RX3 172 yX2_add, Cond.instanceMethod yX2_add, Cond.selects RX2 yX2_add yX2_add, Cond.code yX2_add cX2_add 3 none, Cond.fieldLink RX2 9 "BellRanks$RankSet" "row" "[I", Cond.methodLink RX3 173 yX2_size]
def wsL_count_r3 : List Cond := [Cond.instanceMethod yX2_size, Cond.selects RX2 yX2_size yX2_size, Cond.code yX2_size cX2_size 1 (some .int), Cond.methodLink RX3 111 yX1_length, Cond.instanceMethod yX1_length, Cond.selects RX1 yX1_length yX1_length, Cond.initialized RX1, Cond.code yX1_length cX1_length 1 (some .int), Cond.fieldLink RX1 15 "BellRanks$Method" "length" "I"]
def wsL_count : List Cond := .codeWith yL_count cL_count 4 (some .int) [(0, 9, 12, 18)] :: ((wsL_count_r1 ++ (wsL_count_r2 ++ wsL_count_r3)) ++ wsX30 ++ wsX20 ++ wsX00 ++ wsX10 ++ (vx_atS RX3 65 "java/lang/IndexOutOfBoundsException" ["java/lang/RuntimeException", "java/lang/Exception"]).filter goodWord)
def wsL_kept : List Cond := .codeWith yL_kept cL_kept 4 (some .int) [(0, 9, 12, 18)] :: ([.classLink RL 18 "java/lang/IndexOutOfBoundsException", .methodLink RL 59 yX3_kept, .instanceMethod yX3_kept, .selects RX3 yX3_kept yX3_kept, .initialized RX3, .code yX3_kept cX3_kept 2 (some .int), .classLink RX3 61 "java/lang/IndexOutOfBoundsException", .initialized "java/lang/IndexOutOfBoundsException", .fieldLink RX3 19 "BellRanks" "method" "LBellRanks$Method;", .methodLink RX3 111 yX1_length, .instanceMethod yX1_length, .selects RX1 yX1_length yX1_length, .initialized RX1, .code yX1_length cX1_length 1 (some .int), .fieldLink RX1 15 "BellRanks$Method" "length" "I", .methodLink RX3 164 yX1_keptAt, .instanceMethod yX1_keptAt, .selects RX1 yX1_keptAt yX1_keptAt, .code yX1_keptAt cX1_keptAt 2 (some .int), .fieldLink RX1 9 "BellRanks$Method" "steps" "[I"] ++ wsX30 ++ wsX10 ++ (vx_atS RX3 65 "java/lang/IndexOutOfBoundsException" ["java/lang/RuntimeException", "java/lang/Exception"]).filter goodWord)
def wsL_comes_r1 : List Cond := [Cond.classLink RL 18 "java/lang/IndexOutOfBoundsException", Cond.methodLink RL 62 yX3_comes, Cond.instanceMethod yX3_comes, Cond.selects RX3 yX3_comes yX3_comes, Cond.initialized RX3, Cond.code yX3_comes cX3_comes 4 (some .int), Cond.fieldLink RX3 19 "BellRanks" "method" "LBellRanks$Method;", Cond.fieldLink RX3 23 "BellRanks" "rung" "LBellRanks$Change;", Cond.methodLink RX3 74 yX3_find, Cond.instanceMethod yX3_find, Cond.selects RX3 yX3_find yX3_find, Cond.code yX3_find cX3_find 2 (some (.object "BellRanks$Change")), Cond.classLink RX3 61 "java/lang/IndexOutOfBoundsException", Cond.initialized "java/lang/IndexOutOfBoundsException", Cond.fieldLink RX3 41 "BellRanks" "written" "I", Cond.fieldLink RX3 11 "BellRanks" "book" "[LBellRanks$Change;", Cond.methodLink RX3 111 yX1_length, Cond.instanceMethod yX1_length, Cond.selects RX1 yX1_length yX1_length, Cond.initialized RX1, Cond.code yX1_length cX1_length 1 (some .int), Cond.fieldLink RX1 15 "BellRanks$Method" "length" "I", Cond.methodLink RX3 96 yX0_setCopy, Cond.instanceMethod yX0_setCopy]
def wsL_comes_r2 : List Cond := [Cond.selects RX0 yX0_setCopy yX0_setCopy, Cond.initialized RX0, Cond.code yX0_setCopy cX0_setCopy 3 none, Cond.fieldLink RX0 15 "BellRanks$Change" "size" "I", Cond.methodLink RX0 19 yX0_bellAt, Cond.instanceMethod yX0_bellAt, Cond.selects RX0 yX0_bellAt yX0_bellAt, Cond.code yX0_bellAt cX0_bellAt 2 (some .int), Cond.fieldLink RX0 9 "BellRanks$Change" "row" "[I", Cond.methodLink RX0 30 yX0_put, Cond.instanceMethod yX0_put, Cond.selects RX0 yX0_put yX0_put, Cond.code yX0_put cX0_put 3 none, Cond.methodLink RX3 125 yX1_ringOn, Cond.instanceMethod yX1_ringOn, Cond.selects RX1 yX1_ringOn yX1_ringOn, Cond.code yX1_ringOn cX1_ringOn 3 none, Cond.methodLink RX1 23 yX1_keptAt, Cond.instanceMethod yX1_keptAt, Cond.selects RX1 yX1_keptAt yX1_keptAt, Cond.code yX1_keptAt cX1_keptAt 2 (some .int), Cond.fieldLink RX1 9 "BellRanks$Method" "steps" "[I", Cond.methodLink RX1 27 yX0_ringStep, Cond.instanceMethod yX0_ringStep]
def wsL_comes_r3 : List Cond := [Cond.selects RX0 yX0_ringStep yX0_ringStep, Cond.code yX0_ringStep cX0_ringStep 3 none, Cond.methodLink RX0 40 yX1_keeps, Cond.static yX1_keeps, Cond.code yX1_keeps cX1_keeps 2 (some .boolean), Cond.methodLink RX0 46 yX0_exchange, Cond.instanceMethod yX0_exchange, Cond.selects RX0 yX0_exchange yX0_exchange, Cond.code yX0_exchange cX0_exchange 3 none, Cond.methodLink RX3 167 yX0_isSame, Cond.instanceMethod yX0_isSame, Cond.selects RX0 yX0_isSame yX0_isSame, Cond.code yX0_isSame cX0_isSame 3 (some .boolean)]
def wsL_comes : List Cond := .codeWith yL_comes cL_comes 4 (some .int) [(0, 9, 12, 18)] :: ((wsL_comes_r1 ++ (wsL_comes_r2 ++ wsL_comes_r3)) ++ wsX30 ++ wsX10 ++ wsX00 ++ (vx_atS RX3 65 "java/lang/IndexOutOfBoundsException" ["java/lang/RuntimeException", "java/lang/Exception"]).filter goodWord)
def wsL_differ_r1 : List Cond := [Cond.classLink RL 13 "java/lang/IllegalArgumentException", Cond.methodLink RL 65 yX3_differ, Cond.instanceMethod yX3_differ, Cond.selects RX3 yX3_differ yX3_differ, Cond.initialized RX3, Cond.code yX3_differ cX3_differ 3 (some .int), Cond.fieldLink RX3 23 "BellRanks" "rung" "LBellRanks$Change;", Cond.fieldLink RX3 37 "BellRanks" "bells" "I", Cond.fieldLink RX3 33 "BellRanks" "ranks" "LBellRanks$RankSet;", Cond.fieldLink RX3 19 "BellRanks" "method" "LBellRanks$Method;", Cond.methodLink RX3 122 yX3_checkSteps, Cond.static yX3_checkSteps, Cond.code yX3_checkSteps cX3_checkSteps 1 none, Cond.classLink RX3 47 "java/lang/IllegalArgumentException", Cond.initialized "java/lang/IllegalArgumentException", Cond.methodLink RX3 70 yX0_setRank, Cond.instanceMethod yX0_setRank, Cond.selects RX0 yX0_setRank yX0_setRank, Cond.initialized RX0, Cond.code yX0_setRank cX0_setRank 5 none, Cond.fieldLink RX0 15 "BellRanks$Change" "size" "I", Cond.methodLink RX0 26 yX0_insertAhead, Cond.instanceMethod yX0_insertAhead, Cond.selects RX0 yX0_insertAhead yX0_insertAhead]
def wsL_differ_r2 : List Cond := [Cond.code yX0_insertAhead cX0_insertAhead 4 none, Cond.methodLink RX0 30 yX0_put, Cond.instanceMethod yX0_put, Cond.selects RX0 yX0_put yX0_put, Cond.code yX0_put cX0_put 3 none, Cond.fieldLink RX0 9 "BellRanks$Change" "row" "[I", Cond.methodLink RX0 19 yX0_bellAt, Cond.instanceMethod yX0_bellAt, Cond.selects RX0 yX0_bellAt yX0_bellAt, Cond.code yX0_bellAt cX0_bellAt 2 (some .int), Cond.methodLink RX3 171 yX2_removeAll, Cond.instanceMethod yX2_removeAll, Cond.selects RX2 yX2_removeAll yX2_removeAll, Cond.initialized RX2, Cond.code yX2_removeAll cX2_removeAll 1 none, Cond.fieldLink RX2 15 "BellRanks$RankSet" "size" "I", Cond.methodLink RX3 84 yX0_rank, Cond.instanceMethod yX0_rank, Cond.selects RX0 yX0_rank yX0_rank, Cond.code yX0_rank cX0_rank 3 (some .int), Cond.methodLink RX0 23 yX0_lesserBehind, Cond.instanceMethod yX0_lesserBehind, Cond.selects RX0 yX0_lesserBehind yX0_lesserBehind, Cond.code yX0_lesserBehind cX0_lesserBehind 4 (some .int)]
def wsL_differ_r3 : List Cond := [Cond.methodLink RX3 172 yX2_add, Cond.instanceMethod yX2_add, Cond.selects RX2 yX2_add yX2_add, Cond.code yX2_add cX2_add 3 none, Cond.fieldLink RX2 9 "BellRanks$RankSet" "row" "[I", Cond.methodLink RX3 111 yX1_length, Cond.instanceMethod yX1_length, Cond.selects RX1 yX1_length yX1_length, Cond.initialized RX1, Cond.code yX1_length cX1_length 1 (some .int), Cond.fieldLink RX1 15 "BellRanks$Method" "length" "I", Cond.methodLink RX3 125 yX1_ringOn, Cond.instanceMethod yX1_ringOn, Cond.selects RX1 yX1_ringOn yX1_ringOn, Cond.code yX1_ringOn cX1_ringOn 3 none, Cond.methodLink RX1 23 yX1_keptAt, Cond.instanceMethod yX1_keptAt, Cond.selects RX1 yX1_keptAt yX1_keptAt, Cond.code yX1_keptAt cX1_keptAt 2 (some .int), Cond.fieldLink RX1 9 "BellRanks$Method" "steps" "[I", Cond.methodLink RX1 27 yX0_ringStep, Cond.instanceMethod yX0_ringStep, Cond.selects RX0 yX0_ringStep yX0_ringStep, Cond.code yX0_ringStep cX0_ringStep 3 none]
def wsL_differ_r4 : List Cond := [Cond.methodLink RX0 40 yX1_keeps, Cond.static yX1_keeps, Cond.code yX1_keeps cX1_keeps 2 (some .boolean), Cond.methodLink RX0 46 yX0_exchange, Cond.instanceMethod yX0_exchange, Cond.selects RX0 yX0_exchange yX0_exchange, Cond.code yX0_exchange cX0_exchange 3 none, Cond.methodLink RX3 173 yX2_size, Cond.instanceMethod yX2_size, Cond.selects RX2 yX2_size yX2_size, Cond.code yX2_size cX2_size 1 (some .int)]
def wsL_differ : List Cond := .codeWith yL_differ cL_differ 4 (some .int) [(0, 9, 12, 13)] :: ((wsL_differ_r1 ++ (wsL_differ_r2 ++ (wsL_differ_r3 ++ wsL_differ_r4))) ++ wsX30 ++ wsX00 ++ wsX20 ++ wsX10 ++ (vx_atS RX3 51 "java/lang/IllegalArgumentException" ["java/lang/RuntimeException", "java/lang/Exception"]).filter goodWord)
def wsL_advise_r1 : List Cond := [Cond.classLink RL 18 "java/lang/IndexOutOfBoundsException", Cond.methodLink RL 68 yX3_advise, Cond.instanceMethod yX3_advise, Cond.selects RX3 yX3_advise yX3_advise, Cond.initialized RX3, Cond.code yX3_advise cX3_advise 7 (some .int), Cond.fieldLink RX3 41 "BellRanks" "written" "I", Cond.fieldLink RX3 27 "BellRanks" "made" "LBellRanks$Change;", Cond.fieldLink RX3 11 "BellRanks" "book" "[LBellRanks$Change;", Cond.methodLink RX3 74 yX3_find, Cond.instanceMethod yX3_find, Cond.selects RX3 yX3_find yX3_find, Cond.code yX3_find cX3_find 2 (some (.object "BellRanks$Change")), Cond.classLink RX3 61 "java/lang/IndexOutOfBoundsException", Cond.initialized "java/lang/IndexOutOfBoundsException", Cond.methodLink RX3 88 yX0_setBehind, Cond.instanceMethod yX0_setBehind, Cond.selects RX0 yX0_setBehind yX0_setBehind, Cond.initialized RX0, Cond.code yX0_setBehind cX0_setBehind 4 none, Cond.fieldLink RX0 15 "BellRanks$Change" "size" "I", Cond.methodLink RX0 19 yX0_bellAt, Cond.instanceMethod yX0_bellAt, Cond.selects RX0 yX0_bellAt yX0_bellAt]
def wsL_advise_r2 : List Cond := [Cond.code yX0_bellAt cX0_bellAt 2 (some .int), Cond.fieldLink RX0 9 "BellRanks$Change" "row" "[I", Cond.methodLink RX0 30 yX0_put, Cond.instanceMethod yX0_put, Cond.selects RX0 yX0_put yX0_put, Cond.code yX0_put cX0_put 3 none, Cond.methodLink RX3 134 yX0_inversions, Cond.instanceMethod yX0_inversions, Cond.selects RX0 yX0_inversions yX0_inversions, Cond.code yX0_inversions cX0_inversions 3 (some .int), Cond.methodLink RX0 23 yX0_lesserBehind, Cond.instanceMethod yX0_lesserBehind, Cond.selects RX0 yX0_lesserBehind yX0_lesserBehind, Cond.code yX0_lesserBehind cX0_lesserBehind 4 (some .int)]
def wsL_advise : List Cond := .codeWith yL_advise cL_advise 4 (some .int) [(0, 9, 12, 18)] :: ((wsL_advise_r1 ++ wsL_advise_r2) ++ wsX30 ++ wsX00 ++ (vx_atS RX3 65 "java/lang/IndexOutOfBoundsException" ["java/lang/RuntimeException", "java/lang/Exception"]).filter goodWord)
def wsL_law0_r1 : List Cond := [Cond.classLink RL 8 RX3, Cond.instantiable RX3 8, Cond.initialized RX3, Cond.classLink RL 72 RX4, Cond.instantiable RX4 7, Cond.initialized RX4, Cond.arrayClass .long, Cond.methodLink RL 71 yX3_init, Cond.instanceMethod yX3_init, Cond.code yX3_init cX3_init 2 none, Cond.methodLink RX3 1 objectInit, Cond.instanceMethod objectInit, Cond.code objectInit ⟨#[0xb1]⟩ 1 none, Cond.classLink RX3 9 RX0, Cond.fieldLink RX3 11 "BellRanks" "book" "[LBellRanks$Change;", Cond.instantiable RX0 2, Cond.initialized RX0, Cond.classLink RX3 16 RX1, Cond.instantiable RX1 2, Cond.initialized RX1, Cond.fieldLink RX3 19 "BellRanks" "method" "LBellRanks$Method;", Cond.fieldLink RX3 23 "BellRanks" "rung" "LBellRanks$Change;", Cond.fieldLink RX3 27 "BellRanks" "made" "LBellRanks$Change;", Cond.classLink RX3 30 RX2]
def wsL_law0_r2 : List Cond := [Cond.instantiable RX2 2, Cond.initialized RX2, Cond.fieldLink RX3 33 "BellRanks" "ranks" "LBellRanks$RankSet;", Cond.fieldLink RX3 37 "BellRanks" "bells" "I", Cond.fieldLink RX3 41 "BellRanks" "written" "I", Cond.fieldLink RX3 44 "BellRanks" "rungInAll" "I", Cond.methodLink RX3 15 yX0_init, Cond.instanceMethod yX0_init, Cond.code yX0_init cX0_init 1 none, Cond.methodLink RX0 3 objectInit, Cond.arrayClass .int, Cond.fieldLink RX0 9 "BellRanks$Change" "row" "[I", Cond.fieldLink RX0 15 "BellRanks$Change" "size" "I", Cond.methodLink RX3 18 yX1_init, Cond.instanceMethod yX1_init, Cond.code yX1_init cX1_init 1 none, Cond.methodLink RX1 3 objectInit, Cond.fieldLink RX1 9 "BellRanks$Method" "steps" "[I", Cond.fieldLink RX1 15 "BellRanks$Method" "length" "I", Cond.methodLink RX3 32 yX2_init, Cond.instanceMethod yX2_init, Cond.code yX2_init cX2_init 1 none, Cond.methodLink RX2 3 objectInit, Cond.fieldLink RX2 9 "BellRanks$RankSet" "row" "[I"]
def wsL_law0_r3 : List Cond := [Cond.fieldLink RX2 15 "BellRanks$RankSet" "size" "I", Cond.methodLink RL 74 yX4_init, Cond.instanceMethod yX4_init, Cond.code yX4_init cX4_init 1 none, Cond.methodLink RX4 1 objectInit, Cond.fieldLink RX4 7 "BellRanksModel" "bells" "I", Cond.fieldLink RX4 13 "BellRanksModel" "book" "[I", Cond.fieldLink RX4 17 "BellRanksModel" "kept" "[I", Cond.methodLink RL 75 yL_setBells, Cond.static yL_setBells, Cond.initialized RL, Cond.codeWith yL_setBells cL_setBells 4 (some .int) [(0, 9, 12, 13)], Cond.classLink RL 13 "java/lang/IllegalArgumentException", Cond.methodLink RL 7 yX3_setBells, Cond.instanceMethod yX3_setBells, Cond.selects RX3 yX3_setBells yX3_setBells, Cond.code yX3_setBells cX3_setBells 3 (some .int), Cond.classLink RX3 47 "java/lang/IllegalArgumentException", Cond.initialized "java/lang/IllegalArgumentException", Cond.methodLink RX3 54 yX1_removeAll, Cond.instanceMethod yX1_removeAll, Cond.selects RX1 yX1_removeAll yX1_removeAll, Cond.code yX1_removeAll cX1_removeAll 1 none, Cond.methodLink RL 80 yX4_setBells]
def wsL_law0_r4 : List Cond := [Cond.instanceMethod yX4_setBells, Cond.selects RX4 yX4_setBells yX4_setBells, Cond.code yX4_setBells cX4_setBells 3 (some .int), Cond.fieldLink RX4 20 "BellRanksModel" "thrown" "I", Cond.fieldLink RX4 23 "BellRanksModel" "changes" "I", Cond.fieldLink RX4 48 "BellRanksModel" "steps" "I", Cond.methodLink RX4 26 yX4_isIn, Cond.static yX4_isIn, Cond.code yX4_isIn cX4_isIn 3 (some .boolean), Cond.methodLink RX4 51 yX4_no, Cond.instanceMethod yX4_no, Cond.selects RX4 yX4_no yX4_no, Cond.code yX4_no cX4_no 2 (some .int), Cond.methodLink RL 81 yX4_thrown, Cond.instanceMethod yX4_thrown, Cond.selects RX4 yX4_thrown yX4_thrown, Cond.code yX4_thrown cX4_thrown 1 (some .int), Cond.methodLink RL 85 yL_write, Cond.static yL_write, Cond.codeWith yL_write cL_write 4 (some .int) [(0, 9, 12, 18), (0, 9, 15, 20)], Cond.classLink RL 18 "java/lang/IndexOutOfBoundsException", Cond.classLink RL 20 "java/lang/IllegalStateException", Cond.methodLink RL 15 yX3_write, Cond.instanceMethod yX3_write]
def wsL_law0_r5 : List Cond := [Cond.selects RX3 yX3_write yX3_write, Cond.code yX3_write cX3_write 3 (some .int), Cond.classLink RX3 61 "java/lang/IndexOutOfBoundsException", Cond.initialized "java/lang/IndexOutOfBoundsException", Cond.methodLink RX3 57 yX3_changesOf, Cond.static yX3_changesOf, Cond.code yX3_changesOf cX3_changesOf 3 (some .int), Cond.methodLink RX3 66 yX3_openPage, Cond.instanceMethod yX3_openPage, Cond.selects RX3 yX3_openPage yX3_openPage, Cond.code yX3_openPage cX3_openPage 2 (some (.object "BellRanks$Change")), Cond.classLink RX3 114 "java/lang/IllegalStateException", Cond.initialized "java/lang/IllegalStateException", Cond.methodLink RX3 70 yX0_setRank, Cond.instanceMethod yX0_setRank, Cond.selects RX0 yX0_setRank yX0_setRank, Cond.code yX0_setRank cX0_setRank 5 none, Cond.methodLink RX0 26 yX0_insertAhead, Cond.instanceMethod yX0_insertAhead, Cond.selects RX0 yX0_insertAhead yX0_insertAhead, Cond.code yX0_insertAhead cX0_insertAhead 4 none, Cond.methodLink RX0 30 yX0_put, Cond.instanceMethod yX0_put, Cond.selects RX0 yX0_put yX0_put]
def wsL_law0_r6 : List Cond := [Cond.code yX0_put cX0_put 3 none, Cond.methodLink RX0 19 yX0_bellAt, Cond.instanceMethod yX0_bellAt, Cond.selects RX0 yX0_bellAt yX0_bellAt, Cond.code yX0_bellAt cX0_bellAt 2 (some .int), Cond.methodLink RL 87 yX4_write, Cond.instanceMethod yX4_write, Cond.selects RX4 yX4_write yX4_write, Cond.code yX4_write cX4_write 2 (some .int), Cond.methodLink RX4 30 yX4_product, Cond.static yX4_product, Cond.code yX4_product cX4_product 1 (some .int), Cond.methodLink RX4 58 yX4_add, Cond.instanceMethod yX4_add, Cond.selects RX4 yX4_add yX4_add, Cond.code yX4_add cX4_add 2 (some .int), Cond.methodLink RL 88 yL_swap, Cond.static yL_swap, Cond.codeWith yL_swap cL_swap 5 (some .int) [(0, 10, 13, 18)], Cond.methodLink RL 22 yX3_swap, Cond.instanceMethod yX3_swap, Cond.selects RX3 yX3_swap yX3_swap, Cond.code yX3_swap cX3_swap 4 (some .int), Cond.methodLink RX3 74 yX3_find]
def wsL_law0_r7 : List Cond := [Cond.instanceMethod yX3_find, Cond.selects RX3 yX3_find yX3_find, Cond.code yX3_find cX3_find 2 (some (.object "BellRanks$Change")), Cond.methodLink RX3 80 yX0_exchange, Cond.instanceMethod yX0_exchange, Cond.selects RX0 yX0_exchange yX0_exchange, Cond.code yX0_exchange cX0_exchange 3 none, Cond.methodLink RX3 84 yX0_rank, Cond.instanceMethod yX0_rank, Cond.selects RX0 yX0_rank yX0_rank, Cond.code yX0_rank cX0_rank 3 (some .int), Cond.methodLink RX0 23 yX0_lesserBehind, Cond.instanceMethod yX0_lesserBehind, Cond.selects RX0 yX0_lesserBehind yX0_lesserBehind, Cond.code yX0_lesserBehind cX0_lesserBehind 4 (some .int), Cond.methodLink RL 91 yX4_swap, Cond.instanceMethod yX4_swap, Cond.selects RX4 yX4_swap yX4_swap, Cond.code yX4_swap cX4_swap 5 (some .int), Cond.methodLink RX4 61 yX4_isChange, Cond.instanceMethod yX4_isChange, Cond.selects RX4 yX4_isChange yX4_isChange, Cond.code yX4_isChange cX4_isChange 2 (some .boolean), Cond.methodLink RX4 65 yX4_row]
def wsL_law0_r8 : List Cond := [Cond.instanceMethod yX4_row, Cond.selects RX4 yX4_row yX4_row, Cond.code yX4_row cX4_row 8 (some (.array .int)), Cond.methodLink RX4 34 yX4_bellAt, Cond.static yX4_bellAt, Cond.code yX4_bellAt cX4_bellAt 4 (some .int), Cond.methodLink RX4 69 yX4_become, Cond.instanceMethod yX4_become, Cond.selects RX4 yX4_become yX4_become, Cond.code yX4_become cX4_become 3 (some .int), Cond.methodLink RX4 54 yX4_rank, Cond.instanceMethod yX4_rank, Cond.selects RX4 yX4_rank yX4_rank, Cond.code yX4_rank cX4_rank 4 (some .int), Cond.methodLink RX4 38 yX4_less, Cond.instanceMethod yX4_less, Cond.selects RX4 yX4_less yX4_less, Cond.code yX4_less cX4_less 5 (some .int), Cond.methodLink RL 92 yL_next, Cond.static yL_next, Cond.codeWith yL_next cL_next 4 (some .int) [(0, 9, 12, 18)], Cond.methodLink RL 26 yX3_next, Cond.instanceMethod yX3_next, Cond.selects RX3 yX3_next yX3_next]
def wsL_law0_r9 : List Cond := [Cond.code yX3_next cX3_next 4 (some .int), Cond.methodLink RL 94 yX4_next, Cond.instanceMethod yX4_next, Cond.selects RX4 yX4_next yX4_next, Cond.code yX4_next cX4_next 2 (some .int), Cond.methodLink RL 95 yL_behind, Cond.static yL_behind, Cond.codeWith yL_behind cL_behind 5 (some .int) [(0, 10, 13, 18), (0, 10, 17, 20)], Cond.methodLink RL 29 yX3_behind, Cond.instanceMethod yX3_behind, Cond.selects RX3 yX3_behind yX3_behind, Cond.code yX3_behind cX3_behind 6 (some .int), Cond.methodLink RX3 88 yX0_setBehind, Cond.instanceMethod yX0_setBehind, Cond.selects RX0 yX0_setBehind yX0_setBehind, Cond.code yX0_setBehind cX0_setBehind 4 none, Cond.methodLink RL 97 yX4_behind, Cond.instanceMethod yX4_behind, Cond.selects RX4 yX4_behind yX4_behind, Cond.code yX4_behind cX4_behind 3 (some .int), Cond.methodLink RX4 73 yX4_behindRow, Cond.instanceMethod yX4_behindRow, Cond.selects RX4 yX4_behindRow yX4_behindRow, Cond.code yX4_behindRow cX4_behindRow 5 (some (.array .int))]
def wsL_law0_r10 : List Cond := [Cond.methodLink RL 98 yL_back, Cond.static yL_back, Cond.codeWith yL_back cL_back 4 (some .int) [(0, 9, 12, 18)], Cond.methodLink RL 32 yX3_back, Cond.instanceMethod yX3_back, Cond.selects RX3 yX3_back yX3_back, Cond.code yX3_back cX3_back 3 (some .int), Cond.methodLink RX3 92 yX0_setBack, Cond.instanceMethod yX0_setBack, Cond.selects RX0 yX0_setBack yX0_setBack, Cond.code yX0_setBack cX0_setBack 3 none, Cond.methodLink RX3 96 yX0_setCopy, Cond.instanceMethod yX0_setCopy, Cond.selects RX0 yX0_setCopy yX0_setCopy, Cond.code yX0_setCopy cX0_setCopy 3 none, Cond.methodLink RL 100 yX4_back, Cond.instanceMethod yX4_back, Cond.selects RX4 yX4_back yX4_back, Cond.code yX4_back cX4_back 2 (some .int), Cond.methodLink RX4 77 yX4_backRow, Cond.instanceMethod yX4_backRow, Cond.selects RX4 yX4_backRow yX4_backRow, Cond.code yX4_backRow cX4_backRow 4 (some (.array .int)), Cond.methodLink RL 101 yL_repeat]
def wsL_law0_r11 : List Cond := [Cond.static yL_repeat, Cond.codeWith yL_repeat cL_repeat 5 (some .int) [(0, 10, 13, 18), (0, 10, 17, 13)], Cond.methodLink RL 35 yX3_repeat, Cond.instanceMethod yX3_repeat, Cond.selects RX3 yX3_repeat yX3_repeat, Cond.code yX3_repeat cX3_repeat 4 (some .int), Cond.methodLink RX3 101 yX0_setRepeated, Cond.instanceMethod yX0_setRepeated, Cond.selects RX0 yX0_setRepeated yX0_setRepeated, Cond.code yX0_setRepeated cX0_setRepeated 6 none, Cond.methodLink RX0 33 yX0_ringLength, Cond.instanceMethod yX0_ringLength, Cond.selects RX0 yX0_ringLength yX0_ringLength, Cond.code yX0_ringLength cX0_ringLength 4 (some .int), Cond.methodLink RX0 36 yX0_goneFrom, Cond.instanceMethod yX0_goneFrom, Cond.selects RX0 yX0_goneFrom yX0_goneFrom, Cond.code yX0_goneFrom cX0_goneFrom 5 (some .int), Cond.methodLink RL 103 yX4_repeat, Cond.instanceMethod yX4_repeat, Cond.selects RX4 yX4_repeat yX4_repeat, Cond.code yX4_repeat cX4_repeat 6 (some .int), Cond.methodLink RX4 81 yX4_order, Cond.instanceMethod yX4_order]
def wsL_law0_r12 : List Cond := [Cond.selects RX4 yX4_order yX4_order, Cond.code yX4_order cX4_order 4 (some .int), Cond.methodLink RX4 45 yX4_ringOf, Cond.instanceMethod yX4_ringOf, Cond.selects RX4 yX4_ringOf yX4_ringOf, Cond.code yX4_ringOf cX4_ringOf 5 (some .int), Cond.methodLink RX4 42 yX4_divisor, Cond.static yX4_divisor, Cond.code yX4_divisor cX4_divisor 2 (some .int), Cond.methodLink RL 104 yL_step, Cond.static yL_step, Cond.codeWith yL_step cL_step 4 (some .int) [(0, 9, 12, 13), (0, 9, 15, 20)], Cond.methodLink RL 38 yX3_step, Cond.instanceMethod yX3_step, Cond.selects RX3 yX3_step yX3_step, Cond.code yX3_step cX3_step 2 (some .int), Cond.methodLink RX3 105 yX1_isStep, Cond.static yX1_isStep, Cond.code yX1_isStep cX1_isStep 3 (some .boolean), Cond.methodLink RX1 19 yX1_keeps, Cond.static yX1_keeps, Cond.code yX1_keeps cX1_keeps 2 (some .boolean), Cond.methodLink RX3 111 yX1_length, Cond.instanceMethod yX1_length]
def wsL_law0_r13 : List Cond := [Cond.selects RX1 yX1_length yX1_length, Cond.code yX1_length cX1_length 1 (some .int), Cond.methodLink RX3 119 yX1_add, Cond.instanceMethod yX1_add, Cond.selects RX1 yX1_add yX1_add, Cond.code yX1_add cX1_add 2 none, Cond.methodLink RL 106 yX4_step, Cond.instanceMethod yX4_step, Cond.selects RX4 yX4_step yX4_step, Cond.code yX4_step cX4_step 2 (some .int), Cond.methodLink RX4 84 yX4_isStep, Cond.instanceMethod yX4_isStep, Cond.selects RX4 yX4_isStep yX4_isStep, Cond.code yX4_isStep cX4_isStep 5 (some .boolean), Cond.methodLink RL 107 yX3_clear, Cond.instanceMethod yX3_clear, Cond.selects RX3 yX3_clear yX3_clear, Cond.code yX3_clear cX3_clear 2 (some .int), Cond.methodLink RL 110 yX4_clear, Cond.instanceMethod yX4_clear, Cond.selects RX4 yX4_clear yX4_clear, Cond.code yX4_clear cX4_clear 2 (some .int), Cond.methodLink RL 111 yL_ring, Cond.static yL_ring]
def wsL_law0_r14 : List Cond := [Cond.codeWith yL_ring cL_ring 5 (some .int) [(0, 10, 13, 18), (0, 10, 17, 13)], Cond.methodLink RL 41 yX3_ring, Cond.instanceMethod yX3_ring, Cond.selects RX3 yX3_ring yX3_ring, Cond.code yX3_ring cX3_ring 5 (some .int), Cond.methodLink RX3 122 yX3_checkSteps, Cond.static yX3_checkSteps, Cond.code yX3_checkSteps cX3_checkSteps 1 none, Cond.methodLink RX3 125 yX1_ringOn, Cond.instanceMethod yX1_ringOn, Cond.selects RX1 yX1_ringOn yX1_ringOn, Cond.code yX1_ringOn cX1_ringOn 3 none, Cond.methodLink RX1 23 yX1_keptAt, Cond.instanceMethod yX1_keptAt, Cond.selects RX1 yX1_keptAt yX1_keptAt, Cond.code yX1_keptAt cX1_keptAt 2 (some .int), Cond.methodLink RX1 27 yX0_ringStep, Cond.instanceMethod yX0_ringStep, Cond.selects RX0 yX0_ringStep yX0_ringStep, Cond.code yX0_ringStep cX0_ringStep 3 none, Cond.methodLink RX0 40 yX1_keeps, Cond.methodLink RX0 46 yX0_exchange, Cond.methodLink RL 113 yX4_ring, Cond.instanceMethod yX4_ring]
def wsL_law0_r15 : List Cond := [Cond.selects RX4 yX4_ring yX4_ring, Cond.code yX4_ring cX4_ring 5 (some .int), Cond.fieldLink RX4 91 "BellRanksModel" "rung" "I", Cond.methodLink RX4 87 yX4_ringStep, Cond.instanceMethod yX4_ringStep, Cond.selects RX4 yX4_ringStep yX4_ringStep, Cond.code yX4_ringStep cX4_ringStep 6 none, Cond.methodLink RL 114 yL_bell, Cond.static yL_bell, Cond.codeWith yL_bell cL_bell 5 (some .int) [(0, 10, 13, 18)], Cond.methodLink RL 44 yX3_bell, Cond.instanceMethod yX3_bell, Cond.selects RX3 yX3_bell yX3_bell, Cond.code yX3_bell cX3_bell 4 (some .int), Cond.methodLink RX3 128 yX3_checkPlace, Cond.instanceMethod yX3_checkPlace, Cond.selects RX3 yX3_checkPlace yX3_checkPlace, Cond.code yX3_checkPlace cX3_checkPlace 2 none, Cond.methodLink RX3 131 yX0_bellAt, Cond.methodLink RL 116 yX4_bell, Cond.instanceMethod yX4_bell, Cond.selects RX4 yX4_bell yX4_bell, Cond.code yX4_bell cX4_bell 3 (some .int), Cond.methodLink RX4 94 yX4_isPlace]
def wsL_law0_r16 : List Cond := [Cond.instanceMethod yX4_isPlace, Cond.selects RX4 yX4_isPlace yX4_isPlace, Cond.code yX4_isPlace cX4_isPlace 2 (some .boolean), Cond.methodLink RL 117 yL_told, Cond.static yL_told, Cond.codeWith yL_told cL_told 5 (some .int) [(0, 10, 13, 18)], Cond.methodLink RL 47 yX3_told, Cond.instanceMethod yX3_told, Cond.selects RX3 yX3_told yX3_told, Cond.code yX3_told cX3_told 4 (some .int), Cond.methodLink RX3 134 yX0_inversions, Cond.instanceMethod yX0_inversions, Cond.selects RX0 yX0_inversions yX0_inversions, Cond.code yX0_inversions cX0_inversions 3 (some .int), Cond.methodLink RX3 137 yX0_ringCount, Cond.instanceMethod yX0_ringCount, Cond.selects RX0 yX0_ringCount yX0_ringCount, Cond.code yX0_ringCount cX0_ringCount 3 (some .int), Cond.methodLink RX0 50 yX0_isLeastOfRing, Cond.instanceMethod yX0_isLeastOfRing, Cond.selects RX0 yX0_isLeastOfRing yX0_isLeastOfRing, Cond.code yX0_isLeastOfRing cX0_isLeastOfRing 4 (some .boolean), Cond.methodLink RX3 140 yX0_longestRing, Cond.instanceMethod yX0_longestRing]
def wsL_law0_r17 : List Cond := [Cond.selects RX0 yX0_longestRing yX0_longestRing, Cond.code yX0_longestRing cX0_longestRing 3 (some .int), Cond.methodLink RX0 54 Lib.Math.max.name, Cond.static Lib.Math.max.name, Cond.initialized "java/lang/Math", Cond.code Lib.Math.max.name Lib.Math.max.code 2 (some .int), Cond.methodLink RX3 143 yX0_order, Cond.instanceMethod yX0_order, Cond.selects RX0 yX0_order yX0_order, Cond.code yX0_order cX0_order 3 (some .int), Cond.methodLink RX0 59 yX0_leastMultiple, Cond.static yX0_leastMultiple, Cond.code yX0_leastMultiple cX0_leastMultiple 4 (some .int), Cond.methodLink RX3 146 yX0_ownPlaces, Cond.instanceMethod yX0_ownPlaces, Cond.selects RX0 yX0_ownPlaces yX0_ownPlaces, Cond.code yX0_ownPlaces cX0_ownPlaces 3 (some .int), Cond.methodLink RX3 149 yX0_placeOf, Cond.instanceMethod yX0_placeOf, Cond.selects RX0 yX0_placeOf yX0_placeOf, Cond.code yX0_placeOf cX0_placeOf 3 (some .int), Cond.methodLink RL 119 yX4_told, Cond.instanceMethod yX4_told, Cond.selects RX4 yX4_told yX4_told]
def wsL_law0_r18 : List Cond := [Cond.code yX4_told cX4_told 3 (some .int), Cond.methodLink RX4 109 yX4_toldOf, Cond.instanceMethod yX4_toldOf, Cond.selects RX4 yX4_toldOf yX4_toldOf, Cond.code yX4_toldOf cX4_toldOf 5 (some .int), Cond.methodLink RX4 104 Lib.Math.max.name, Cond.methodLink RX4 97 yX4_inversions, Cond.instanceMethod yX4_inversions, Cond.selects RX4 yX4_inversions yX4_inversions, Cond.code yX4_inversions cX4_inversions 4 (some .int), Cond.methodLink RX4 100 yX4_isFirst, Cond.instanceMethod yX4_isFirst, Cond.selects RX4 yX4_isFirst yX4_isFirst, Cond.code yX4_isFirst cX4_isFirst 5 (some .boolean), Cond.methodLink RL 120 yL_round, Cond.static yL_round, Cond.codeWith yL_round cL_round 5 (some .int) [(0, 10, 13, 18)], Cond.methodLink RL 50 yX3_round, Cond.instanceMethod yX3_round, Cond.selects RX3 yX3_round yX3_round, Cond.code yX3_round cX3_round 4 (some .int), Cond.methodLink RX3 154 yX0_ringLength, Cond.methodLink RL 122 yX4_round, Cond.instanceMethod yX4_round]
def wsL_law0_r19 : List Cond := [Cond.selects RX4 yX4_round yX4_round, Cond.code yX4_round cX4_round 3 (some .int), Cond.methodLink RL 123 yL_apart, Cond.static yL_apart, Cond.codeWith yL_apart cL_apart 5 (some .int) [(0, 10, 13, 18)], Cond.methodLink RL 53 yX3_apart, Cond.instanceMethod yX3_apart, Cond.selects RX3 yX3_apart yX3_apart, Cond.code yX3_apart cX3_apart 8 (some .int), Cond.methodLink RL 125 yX4_apart, Cond.instanceMethod yX4_apart, Cond.selects RX4 yX4_apart yX4_apart, Cond.code yX4_apart cX4_apart 3 (some .int), Cond.methodLink RL 126 yL_count, Cond.static yL_count, Cond.codeWith yL_count cL_count 4 (some .int) [(0, 9, 12, 18)], Cond.methodLink RL 56 yX3_count, Cond.instanceMethod yX3_count, Cond.selects RX3 yX3_count yX3_count, Cond.code yX3_count cX3_count 2 (some .int), Cond.methodLink RX3 157 yX3_differentInBook, Cond.instanceMethod yX3_differentInBook, Cond.selects RX3 yX3_differentInBook yX3_differentInBook, Cond.code yX3_differentInBook cX3_differentInBook 2 (some .int)]
def wsL_law0_r20 : List Cond := [Cond.methodLink RX3 171 yX2_removeAll, Cond.instanceMethod yX2_removeAll, Cond.selects RX2 yX2_removeAll yX2_removeAll, Cond.code yX2_removeAll cX2_removeAll 1 none, Cond.methodLink RX3 172 yX2_add, Cond.instanceMethod yX2_add, Cond.selects RX2 yX2_add yX2_add, Cond.code yX2_add cX2_add 3 none, Cond.methodLink RX3 173 yX2_size, Cond.instanceMethod yX2_size, Cond.selects RX2 yX2_size yX2_size, Cond.code yX2_size cX2_size 1 (some .int), Cond.methodLink RL 128 yX4_count, Cond.instanceMethod yX4_count, Cond.selects RX4 yX4_count yX4_count, Cond.code yX4_count cX4_count 2 (some .int), Cond.methodLink RX4 116 yX4_counted, Cond.instanceMethod yX4_counted, Cond.selects RX4 yX4_counted yX4_counted, Cond.code yX4_counted cX4_counted 2 (some .int), Cond.methodLink RX4 112 yX4_different, Cond.instanceMethod yX4_different, Cond.selects RX4 yX4_different yX4_different, Cond.code yX4_different cX4_different 5 (some .int)]
def wsL_law0_r21 : List Cond := [Cond.methodLink RL 129 yL_kept, Cond.static yL_kept, Cond.codeWith yL_kept cL_kept 4 (some .int) [(0, 9, 12, 18)], Cond.methodLink RL 59 yX3_kept, Cond.instanceMethod yX3_kept, Cond.selects RX3 yX3_kept yX3_kept, Cond.code yX3_kept cX3_kept 2 (some .int), Cond.methodLink RX3 164 yX1_keptAt, Cond.methodLink RL 131 yX4_kept, Cond.instanceMethod yX4_kept, Cond.selects RX4 yX4_kept yX4_kept, Cond.code yX4_kept cX4_kept 2 (some .int), Cond.methodLink RL 132 yL_comes, Cond.static yL_comes, Cond.codeWith yL_comes cL_comes 4 (some .int) [(0, 9, 12, 18)], Cond.methodLink RL 62 yX3_comes, Cond.instanceMethod yX3_comes, Cond.selects RX3 yX3_comes yX3_comes, Cond.code yX3_comes cX3_comes 4 (some .int), Cond.methodLink RX3 167 yX0_isSame, Cond.instanceMethod yX0_isSame, Cond.selects RX0 yX0_isSame yX0_isSame, Cond.code yX0_isSame cX0_isSame 3 (some .boolean), Cond.methodLink RL 134 yX4_comes]
def wsL_law0_r22 : List Cond := [Cond.instanceMethod yX4_comes, Cond.selects RX4 yX4_comes yX4_comes, Cond.code yX4_comes cX4_comes 4 (some .int), Cond.methodLink RL 135 yL_differ, Cond.static yL_differ, Cond.codeWith yL_differ cL_differ 4 (some .int) [(0, 9, 12, 13)], Cond.methodLink RL 65 yX3_differ, Cond.instanceMethod yX3_differ, Cond.selects RX3 yX3_differ yX3_differ, Cond.code yX3_differ cX3_differ 3 (some .int), Cond.methodLink RL 137 yX4_differ, Cond.instanceMethod yX4_differ, Cond.selects RX4 yX4_differ yX4_differ, Cond.code yX4_differ cX4_differ 9 (some .int), Cond.methodLink RL 138 yL_advise, Cond.static yL_advise, Cond.codeWith yL_advise cL_advise 4 (some .int) [(0, 9, 12, 18)], Cond.methodLink RL 68 yX3_advise, Cond.instanceMethod yX3_advise, Cond.selects RX3 yX3_advise yX3_advise, Cond.code yX3_advise cX3_advise 7 (some .int), Cond.methodLink RL 140 yX4_advise, Cond.instanceMethod yX4_advise, Cond.selects RX4 yX4_advise yX4_advise]
def wsL_law0_r23 : List Cond := [Cond.code yX4_advise cX4_advise 7 (some .int), Cond.methodLink RL 141 yX3_mean, Cond.instanceMethod yX3_mean, Cond.selects RX3 yX3_mean yX3_mean, Cond.code yX3_mean cX3_mean 3 (some .double), Cond.methodLink RL 145 yX4_mean, Cond.instanceMethod yX4_mean, Cond.selects RX4 yX4_mean yX4_mean, Cond.code yX4_mean cX4_mean 3 (some .double), Cond.methodLink RL 146 yX3_digest, Cond.instanceMethod yX3_digest, Cond.selects RX3 yX3_digest yX3_digest, Cond.code yX3_digest cX3_digest 5 (some .long), Cond.constantLong RX3 176 (1579), Cond.constantLong RX3 178 (31), Cond.methodLink RX3 180 yX3_count, Cond.methodLink RX3 183 yX3_told, Cond.methodLink RX3 187 yX3_bell, Cond.methodLink RX3 190 yX3_kept, Cond.methodLink RL 150 yX4_digest, Cond.instanceMethod yX4_digest, Cond.selects RX4 yX4_digest yX4_digest, Cond.code yX4_digest cX4_digest 9 (some .long), Cond.constantLong RX4 119 (1579)]
def wsL_law0_r24 : List Cond := [Cond.constantLong RX4 121 (31)]
def wsL_law0 : List Cond := (wsL_law0_r1 ++ (wsL_law0_r2 ++ (wsL_law0_r3 ++ (wsL_law0_r4 ++ (wsL_law0_r5 ++ (wsL_law0_r6 ++ (wsL_law0_r7 ++ (wsL_law0_r8 ++ (wsL_law0_r9 ++ (wsL_law0_r10 ++ (wsL_law0_r11 ++ (wsL_law0_r12 ++ (wsL_law0_r13 ++ (wsL_law0_r14 ++ (wsL_law0_r15 ++ (wsL_law0_r16 ++ (wsL_law0_r17 ++ (wsL_law0_r18 ++ (wsL_law0_r19 ++ (wsL_law0_r20 ++ (wsL_law0_r21 ++ (wsL_law0_r22 ++ (wsL_law0_r23 ++ wsL_law0_r24))))))))))))))))))))))) ++ wsX30 ++ wsX40 ++ wsX00 ++ wsX10 ++ wsX20 ++ ([] : List Cond)
def wsL_law : List Cond := wsL_law0 ++ (vx_atS RX3 51 "java/lang/IllegalArgumentException" ["java/lang/RuntimeException", "java/lang/Exception"]).filter goodWord ++ (vx_atS RX3 65 "java/lang/IndexOutOfBoundsException" ["java/lang/RuntimeException", "java/lang/Exception"]).filter goodWord ++ (vx_atS RX3 118 "java/lang/IllegalStateException" ["java/lang/RuntimeException", "java/lang/Exception"]).filter goodWord
set_option maxRecDepth 20000 in
theorem wsL_law_in0 : ∀ w ∈ wsL_law0, w ∈ lw_tbl := fun w h => (goodIn_p wsL_law0 [46, 49, 55, 69, 82, 536, 315, 127, 567, 570, 574, 563, 340, 156, 345, 365, 369, 373, 143, 578, 581, 585, 380, 248, 385, 135, 139, 589, 593, 597, 600, 604, 608, 612, 392, 616, 399, 403, 620, 624, 410, 414, 418, 628, 632, 425, 430, 269, 434, 636, 640, 644, 647, 441, 444, 447, 123, 453, 651, 655, 119, 659, 460, 463, 468, 307, 473, 663, 667, 292, 296, 671, 675, 244, 253, 257, 261, 265, 272, 276, 279, 283, 287, 679, 683, 687, 691, 490, 696, 498, 700, 153, 160, 164, 168, 172, 704, 708, 712, 302, 716, 513, 517, 720, 524, 724, 531, 728, 131, 732, 147, 736] (by decide +kernel) (by decide +kernel) w h).1
theorem wsL_law_x0 : ∀ w ∈ (vx_atS RX3 51 "java/lang/IllegalArgumentException" ["java/lang/RuntimeException", "java/lang/Exception"]).filter goodWord, w ∈ lw_tbl := by decide +kernel
theorem wsL_law_x1 : ∀ w ∈ (vx_atS RX3 65 "java/lang/IndexOutOfBoundsException" ["java/lang/RuntimeException", "java/lang/Exception"]).filter goodWord, w ∈ lw_tbl := by decide +kernel
theorem wsL_law_x2 : ∀ w ∈ (vx_atS RX3 118 "java/lang/IllegalStateException" ["java/lang/RuntimeException", "java/lang/Exception"]).filter goodWord, w ∈ lw_tbl := by decide +kernel
theorem wsL_law_in : ∀ w ∈ wsL_law, w ∈ lw_tbl := fun w h => (List.mem_append.mp h).elim (fun h => (List.mem_append.mp h).elim (fun h => (List.mem_append.mp h).elim (fun h => wsL_law_in0 w h) (fun h => wsL_law_x0 w h)) (fun h => wsL_law_x1 w h)) (fun h => wsL_law_x2 w h)
theorem inlX0 : ∀ w ∈ wsX00, w ∈ wsL_law := fun _ h => List.mem_append_left _ (List.mem_append_left _ (List.mem_append_left _ (List.mem_append_left _ (List.mem_append_left _ (List.mem_append_left _ (List.mem_append_right _ h))))))
theorem inX0 : ∀ w ∈ wsX00, w ∈ lw_tbl := fun w h => wsL_law_in w (inlX0 w h)
theorem inlX1 : ∀ w ∈ wsX10, w ∈ wsL_law := fun _ h => List.mem_append_left _ (List.mem_append_left _ (List.mem_append_left _ (List.mem_append_left _ (List.mem_append_left _ (List.mem_append_right _ h)))))
theorem inX1 : ∀ w ∈ wsX10, w ∈ lw_tbl := fun w h => wsL_law_in w (inlX1 w h)
theorem inlX2 : ∀ w ∈ wsX20, w ∈ wsL_law := fun _ h => List.mem_append_left _ (List.mem_append_left _ (List.mem_append_left _ (List.mem_append_left _ (List.mem_append_right _ h))))
theorem inX2 : ∀ w ∈ wsX20, w ∈ lw_tbl := fun w h => wsL_law_in w (inlX2 w h)
theorem inlX3 : ∀ w ∈ wsX30, w ∈ wsL_law := fun _ h => List.mem_append_left _ (List.mem_append_left _ (List.mem_append_left _ (List.mem_append_left _ (List.mem_append_left _ (List.mem_append_left _ (List.mem_append_left _ (List.mem_append_left _ (List.mem_append_right _ h))))))))
theorem inX3 : ∀ w ∈ wsX30, w ∈ lw_tbl := fun w h => wsL_law_in w (inlX3 w h)
theorem inlX4 : ∀ w ∈ wsX40, w ∈ wsL_law := fun _ h => List.mem_append_left _ (List.mem_append_left _ (List.mem_append_left _ (List.mem_append_left _ (List.mem_append_left _ (List.mem_append_left _ (List.mem_append_left _ (List.mem_append_right _ h)))))))
theorem inX4 : ∀ w ∈ wsX40, w ∈ lw_tbl := fun w h => wsL_law_in w (inlX4 w h)
theorem inJ9 : ∀ w ∈ wsJ90, w ∈ lw_tbl := by decide +kernel
theorem inJ0 : ∀ w ∈ wsJ00, w ∈ lw_tbl := by decide +kernel
theorem dX0_init_0 : decode cX0_init 0 = .ok (.aload_n 0, 1) := by decide +kernel
theorem dX0_init_1 : decode cX0_init 1 = .ok (.invokespecial 3, 3) := by decide +kernel
theorem dX0_init_4 : decode cX0_init 4 = .ok (.aload_n 0, 1) := by decide +kernel
theorem dX0_init_5 : decode cX0_init 5 = .ok (.bipush 8, 2) := by decide +kernel
theorem dX0_init_7 : decode cX0_init 7 = .ok (.newarray .int, 2) := by decide +kernel
theorem dX0_init_9 : decode cX0_init 9 = .ok (.putfield 9, 3) := by decide +kernel
theorem dX0_init_12 : decode cX0_init 12 = .ok (.aload_n 0, 1) := by decide +kernel
theorem dX0_init_13 : decode cX0_init 13 = .ok (.iconst 0, 1) := by decide +kernel
theorem dX0_init_14 : decode cX0_init 14 = .ok (.putfield 15, 3) := by decide +kernel
theorem dX0_init_17 : decode cX0_init 17 = .ok (.return_, 1) := by decide +kernel
theorem dX0_bellAt_0 : decode cX0_bellAt 0 = .ok (.iload_n 1, 1) := by decide +kernel
theorem dX0_bellAt_1 : decode cX0_bellAt 1 = .ok (.ifCond .lt 21, 3) := by decide +kernel
theorem dX0_bellAt_4 : decode cX0_bellAt 4 = .ok (.iload_n 1, 1) := by decide +kernel
theorem dX0_bellAt_5 : decode cX0_bellAt 5 = .ok (.aload_n 0, 1) := by decide +kernel
theorem dX0_bellAt_6 : decode cX0_bellAt 6 = .ok (.getfield 9, 3) := by decide +kernel
theorem dX0_bellAt_9 : decode cX0_bellAt 9 = .ok (.arraylength, 1) := by decide +kernel
theorem dX0_bellAt_10 : decode cX0_bellAt 10 = .ok (.if_icmp .ge 12, 3) := by decide +kernel
theorem dX0_bellAt_13 : decode cX0_bellAt 13 = .ok (.aload_n 0, 1) := by decide +kernel
theorem dX0_bellAt_14 : decode cX0_bellAt 14 = .ok (.getfield 9, 3) := by decide +kernel
theorem dX0_bellAt_17 : decode cX0_bellAt 17 = .ok (.iload_n 1, 1) := by decide +kernel
theorem dX0_bellAt_18 : decode cX0_bellAt 18 = .ok (.iaload, 1) := by decide +kernel
theorem dX0_bellAt_19 : decode cX0_bellAt 19 = .ok (.goto 4, 3) := by decide +kernel
theorem dX0_bellAt_22 : decode cX0_bellAt 22 = .ok (.iconst 0, 1) := by decide +kernel
theorem dX0_bellAt_23 : decode cX0_bellAt 23 = .ok (.ireturn, 1) := by decide +kernel
theorem dX0_put_0 : decode cX0_put 0 = .ok (.iload_n 1, 1) := by decide +kernel
theorem dX0_put_1 : decode cX0_put 1 = .ok (.ifCond .lt 19, 3) := by decide +kernel
theorem dX0_put_4 : decode cX0_put 4 = .ok (.iload_n 1, 1) := by decide +kernel
theorem dX0_put_5 : decode cX0_put 5 = .ok (.aload_n 0, 1) := by decide +kernel
theorem dX0_put_6 : decode cX0_put 6 = .ok (.getfield 9, 3) := by decide +kernel
theorem dX0_put_9 : decode cX0_put 9 = .ok (.arraylength, 1) := by decide +kernel
theorem dX0_put_10 : decode cX0_put 10 = .ok (.if_icmp .ge 10, 3) := by decide +kernel
theorem dX0_put_13 : decode cX0_put 13 = .ok (.aload_n 0, 1) := by decide +kernel
theorem dX0_put_14 : decode cX0_put 14 = .ok (.getfield 9, 3) := by decide +kernel
theorem dX0_put_17 : decode cX0_put 17 = .ok (.iload_n 1, 1) := by decide +kernel
theorem dX0_put_18 : decode cX0_put 18 = .ok (.iload_n 2, 1) := by decide +kernel
theorem dX0_put_19 : decode cX0_put 19 = .ok (.iastore, 1) := by decide +kernel
theorem dX0_put_20 : decode cX0_put 20 = .ok (.return_, 1) := by decide +kernel
set_option maxRecDepth 20000 in
theorem ggX0_placeOf_X0_bellAt : GoodIn wsX0_placeOf wsX0_bellAt := goodIn_r _ [6, 7, 8, 9] (by decide +kernel) (by decide +kernel)
set_option maxRecDepth 20000 in
theorem gX0_placeOf_X0_bellAt : GoodIn wsX0_placeOf (wsV RX0 19 RX0 yX0_bellAt wsX0_bellAt) := goodIn_app (goodIn_of _ (by decide +kernel)) ggX0_placeOf_X0_bellAt
theorem dX0_placeOf_0 : decode cX0_placeOf 0 = .ok (.iconst 0, 1) := by decide +kernel
theorem dX0_placeOf_1 : decode cX0_placeOf 1 = .ok (.istore_n 2, 1) := by decide +kernel
theorem dX0_placeOf_2 : decode cX0_placeOf 2 = .ok (.iload_n 2, 1) := by decide +kernel
theorem dX0_placeOf_3 : decode cX0_placeOf 3 = .ok (.aload_n 0, 1) := by decide +kernel
theorem dX0_placeOf_4 : decode cX0_placeOf 4 = .ok (.getfield 15, 3) := by decide +kernel
theorem dX0_placeOf_7 : decode cX0_placeOf 7 = .ok (.if_icmp .ge 18, 3) := by decide +kernel
theorem dX0_placeOf_10 : decode cX0_placeOf 10 = .ok (.aload_n 0, 1) := by decide +kernel
theorem dX0_placeOf_11 : decode cX0_placeOf 11 = .ok (.iload_n 2, 1) := by decide +kernel
theorem dX0_placeOf_12 : decode cX0_placeOf 12 = .ok (.invokevirtual 19, 3) := by decide +kernel
theorem dX0_placeOf_15 : decode cX0_placeOf 15 = .ok (.iload_n 1, 1) := by decide +kernel
theorem dX0_placeOf_16 : decode cX0_placeOf 16 = .ok (.if_icmp .eq 9, 3) := by decide +kernel
theorem dX0_placeOf_19 : decode cX0_placeOf 19 = .ok (.iinc 2 1, 3) := by decide +kernel
theorem dX0_placeOf_22 : decode cX0_placeOf 22 = .ok (.goto (-20), 3) := by decide +kernel
theorem dX0_placeOf_25 : decode cX0_placeOf 25 = .ok (.iload_n 2, 1) := by decide +kernel
theorem dX0_placeOf_26 : decode cX0_placeOf 26 = .ok (.ireturn, 1) := by decide +kernel
set_option maxRecDepth 20000 in
theorem ggX0_isSame_X0_bellAt : GoodIn wsX0_isSame wsX0_bellAt := goodIn_r _ [6, 7, 8, 9] (by decide +kernel) (by decide +kernel)
set_option maxRecDepth 20000 in
theorem gX0_isSame_X0_bellAt : GoodIn wsX0_isSame (wsV RX0 19 RX0 yX0_bellAt wsX0_bellAt) := goodIn_app (goodIn_of _ (by decide +kernel)) ggX0_isSame_X0_bellAt
theorem dX0_isSame_0 : decode cX0_isSame 0 = .ok (.iconst 0, 1) := by decide +kernel
theorem dX0_isSame_1 : decode cX0_isSame 1 = .ok (.istore_n 2, 1) := by decide +kernel
theorem dX0_isSame_2 : decode cX0_isSame 2 = .ok (.iload_n 2, 1) := by decide +kernel
theorem dX0_isSame_3 : decode cX0_isSame 3 = .ok (.aload_n 0, 1) := by decide +kernel
theorem dX0_isSame_4 : decode cX0_isSame 4 = .ok (.getfield 15, 3) := by decide +kernel
theorem dX0_isSame_7 : decode cX0_isSame 7 = .ok (.if_icmp .ge 24, 3) := by decide +kernel
theorem dX0_isSame_10 : decode cX0_isSame 10 = .ok (.aload_n 0, 1) := by decide +kernel
theorem dX0_isSame_11 : decode cX0_isSame 11 = .ok (.iload_n 2, 1) := by decide +kernel
theorem dX0_isSame_12 : decode cX0_isSame 12 = .ok (.invokevirtual 19, 3) := by decide +kernel
theorem dX0_isSame_15 : decode cX0_isSame 15 = .ok (.aload_n 1, 1) := by decide +kernel
theorem dX0_isSame_16 : decode cX0_isSame 16 = .ok (.iload_n 2, 1) := by decide +kernel
theorem dX0_isSame_17 : decode cX0_isSame 17 = .ok (.invokevirtual 19, 3) := by decide +kernel
theorem dX0_isSame_20 : decode cX0_isSame 20 = .ok (.if_icmp .eq 5, 3) := by decide +kernel
theorem dX0_isSame_23 : decode cX0_isSame 23 = .ok (.iconst 0, 1) := by decide +kernel
theorem dX0_isSame_24 : decode cX0_isSame 24 = .ok (.ireturn, 1) := by decide +kernel
theorem dX0_isSame_25 : decode cX0_isSame 25 = .ok (.iinc 2 1, 3) := by decide +kernel
theorem dX0_isSame_28 : decode cX0_isSame 28 = .ok (.goto (-26), 3) := by decide +kernel
theorem dX0_isSame_31 : decode cX0_isSame 31 = .ok (.iconst 1, 1) := by decide +kernel
theorem dX0_isSame_32 : decode cX0_isSame 32 = .ok (.ireturn, 1) := by decide +kernel
set_option maxRecDepth 20000 in
theorem ggX0_rank_X0_lesserBehind : GoodIn wsX0_rank wsX0_lesserBehind := goodIn_r _ [6, 1, 7, 8, 9, 5, 10, 11, 12, 13] (by decide +kernel) (by decide +kernel)
set_option maxRecDepth 20000 in
theorem gX0_rank_X0_lesserBehind : GoodIn wsX0_rank (wsV RX0 23 RX0 yX0_lesserBehind wsX0_lesserBehind) := goodIn_app (goodIn_of _ (by decide +kernel)) ggX0_rank_X0_lesserBehind
theorem dX0_rank_0 : decode cX0_rank 0 = .ok (.iconst 0, 1) := by decide +kernel
theorem dX0_rank_1 : decode cX0_rank 1 = .ok (.istore_n 1, 1) := by decide +kernel
theorem dX0_rank_2 : decode cX0_rank 2 = .ok (.iconst 0, 1) := by decide +kernel
theorem dX0_rank_3 : decode cX0_rank 3 = .ok (.istore_n 2, 1) := by decide +kernel
theorem dX0_rank_4 : decode cX0_rank 4 = .ok (.iload_n 2, 1) := by decide +kernel
theorem dX0_rank_5 : decode cX0_rank 5 = .ok (.aload_n 0, 1) := by decide +kernel
theorem dX0_rank_6 : decode cX0_rank 6 = .ok (.getfield 15, 3) := by decide +kernel
theorem dX0_rank_9 : decode cX0_rank 9 = .ok (.if_icmp .ge 24, 3) := by decide +kernel
theorem dX0_rank_12 : decode cX0_rank 12 = .ok (.iload_n 1, 1) := by decide +kernel
theorem dX0_rank_13 : decode cX0_rank 13 = .ok (.aload_n 0, 1) := by decide +kernel
theorem dX0_rank_14 : decode cX0_rank 14 = .ok (.getfield 15, 3) := by decide +kernel
theorem dX0_rank_17 : decode cX0_rank 17 = .ok (.iload_n 2, 1) := by decide +kernel
theorem dX0_rank_18 : decode cX0_rank 18 = .ok (.isub, 1) := by decide +kernel
theorem dX0_rank_19 : decode cX0_rank 19 = .ok (.imul, 1) := by decide +kernel
theorem dX0_rank_20 : decode cX0_rank 20 = .ok (.aload_n 0, 1) := by decide +kernel
theorem dX0_rank_21 : decode cX0_rank 21 = .ok (.iload_n 2, 1) := by decide +kernel
theorem dX0_rank_22 : decode cX0_rank 22 = .ok (.invokevirtual 23, 3) := by decide +kernel
theorem dX0_rank_25 : decode cX0_rank 25 = .ok (.iadd, 1) := by decide +kernel
theorem dX0_rank_26 : decode cX0_rank 26 = .ok (.istore_n 1, 1) := by decide +kernel
theorem dX0_rank_27 : decode cX0_rank 27 = .ok (.iinc 2 1, 3) := by decide +kernel
theorem dX0_rank_30 : decode cX0_rank 30 = .ok (.goto (-26), 3) := by decide +kernel
theorem dX0_rank_33 : decode cX0_rank 33 = .ok (.iload_n 1, 1) := by decide +kernel
theorem dX0_rank_34 : decode cX0_rank 34 = .ok (.ireturn, 1) := by decide +kernel
set_option maxRecDepth 20000 in
theorem ggX0_inversions_X0_lesserBehind : GoodIn wsX0_inversions wsX0_lesserBehind := goodIn_r _ [6, 1, 7, 8, 9, 5, 10, 11, 12, 13] (by decide +kernel) (by decide +kernel)
set_option maxRecDepth 20000 in
theorem gX0_inversions_X0_lesserBehind : GoodIn wsX0_inversions (wsV RX0 23 RX0 yX0_lesserBehind wsX0_lesserBehind) := goodIn_app (goodIn_of _ (by decide +kernel)) ggX0_inversions_X0_lesserBehind
theorem dX0_inversions_0 : decode cX0_inversions 0 = .ok (.iconst 0, 1) := by decide +kernel
theorem dX0_inversions_1 : decode cX0_inversions 1 = .ok (.istore_n 1, 1) := by decide +kernel
theorem dX0_inversions_2 : decode cX0_inversions 2 = .ok (.iconst 0, 1) := by decide +kernel
theorem dX0_inversions_3 : decode cX0_inversions 3 = .ok (.istore_n 2, 1) := by decide +kernel
theorem dX0_inversions_4 : decode cX0_inversions 4 = .ok (.iload_n 2, 1) := by decide +kernel
theorem dX0_inversions_5 : decode cX0_inversions 5 = .ok (.aload_n 0, 1) := by decide +kernel
theorem dX0_inversions_6 : decode cX0_inversions 6 = .ok (.getfield 15, 3) := by decide +kernel
theorem dX0_inversions_9 : decode cX0_inversions 9 = .ok (.if_icmp .ge 17, 3) := by decide +kernel
theorem dX0_inversions_12 : decode cX0_inversions 12 = .ok (.iload_n 1, 1) := by decide +kernel
theorem dX0_inversions_13 : decode cX0_inversions 13 = .ok (.aload_n 0, 1) := by decide +kernel
theorem dX0_inversions_14 : decode cX0_inversions 14 = .ok (.iload_n 2, 1) := by decide +kernel
theorem dX0_inversions_15 : decode cX0_inversions 15 = .ok (.invokevirtual 23, 3) := by decide +kernel
theorem dX0_inversions_18 : decode cX0_inversions 18 = .ok (.iadd, 1) := by decide +kernel
theorem dX0_inversions_19 : decode cX0_inversions 19 = .ok (.istore_n 1, 1) := by decide +kernel
theorem dX0_inversions_20 : decode cX0_inversions 20 = .ok (.iinc 2 1, 3) := by decide +kernel
theorem dX0_inversions_23 : decode cX0_inversions 23 = .ok (.goto (-19), 3) := by decide +kernel
theorem dX0_inversions_26 : decode cX0_inversions 26 = .ok (.iload_n 1, 1) := by decide +kernel
theorem dX0_inversions_27 : decode cX0_inversions 27 = .ok (.ireturn, 1) := by decide +kernel
set_option maxRecDepth 20000 in
theorem ggX0_lesserBehind_X0_bellAt : GoodIn wsX0_lesserBehind wsX0_bellAt := goodIn_r _ [6, 7, 8, 9] (by decide +kernel) (by decide +kernel)
set_option maxRecDepth 20000 in
theorem gX0_lesserBehind_X0_bellAt : GoodIn wsX0_lesserBehind (wsV RX0 19 RX0 yX0_bellAt wsX0_bellAt) := goodIn_app (goodIn_of _ (by decide +kernel)) ggX0_lesserBehind_X0_bellAt
theorem dX0_lesserBehind_0 : decode cX0_lesserBehind 0 = .ok (.iconst 0, 1) := by decide +kernel
theorem dX0_lesserBehind_1 : decode cX0_lesserBehind 1 = .ok (.istore_n 2, 1) := by decide +kernel
theorem dX0_lesserBehind_2 : decode cX0_lesserBehind 2 = .ok (.iload_n 1, 1) := by decide +kernel
theorem dX0_lesserBehind_3 : decode cX0_lesserBehind 3 = .ok (.iconst 1, 1) := by decide +kernel
theorem dX0_lesserBehind_4 : decode cX0_lesserBehind 4 = .ok (.iadd, 1) := by decide +kernel
theorem dX0_lesserBehind_5 : decode cX0_lesserBehind 5 = .ok (.istore_n 3, 1) := by decide +kernel
theorem dX0_lesserBehind_6 : decode cX0_lesserBehind 6 = .ok (.iload_n 3, 1) := by decide +kernel
theorem dX0_lesserBehind_7 : decode cX0_lesserBehind 7 = .ok (.aload_n 0, 1) := by decide +kernel
theorem dX0_lesserBehind_8 : decode cX0_lesserBehind 8 = .ok (.getfield 15, 3) := by decide +kernel
theorem dX0_lesserBehind_11 : decode cX0_lesserBehind 11 = .ok (.if_icmp .ge 25, 3) := by decide +kernel
theorem dX0_lesserBehind_14 : decode cX0_lesserBehind 14 = .ok (.aload_n 0, 1) := by decide +kernel
theorem dX0_lesserBehind_15 : decode cX0_lesserBehind 15 = .ok (.iload_n 3, 1) := by decide +kernel
theorem dX0_lesserBehind_16 : decode cX0_lesserBehind 16 = .ok (.invokevirtual 19, 3) := by decide +kernel
theorem dX0_lesserBehind_19 : decode cX0_lesserBehind 19 = .ok (.aload_n 0, 1) := by decide +kernel
theorem dX0_lesserBehind_20 : decode cX0_lesserBehind 20 = .ok (.iload_n 1, 1) := by decide +kernel
theorem dX0_lesserBehind_21 : decode cX0_lesserBehind 21 = .ok (.invokevirtual 19, 3) := by decide +kernel
theorem dX0_lesserBehind_24 : decode cX0_lesserBehind 24 = .ok (.if_icmp .ge 6, 3) := by decide +kernel
theorem dX0_lesserBehind_27 : decode cX0_lesserBehind 27 = .ok (.iinc 2 1, 3) := by decide +kernel
theorem dX0_lesserBehind_30 : decode cX0_lesserBehind 30 = .ok (.iinc 3 1, 3) := by decide +kernel
theorem dX0_lesserBehind_33 : decode cX0_lesserBehind 33 = .ok (.goto (-27), 3) := by decide +kernel
theorem dX0_lesserBehind_36 : decode cX0_lesserBehind 36 = .ok (.iload_n 2, 1) := by decide +kernel
theorem dX0_lesserBehind_37 : decode cX0_lesserBehind 37 = .ok (.ireturn, 1) := by decide +kernel
set_option maxRecDepth 20000 in
theorem ggX0_setRank_X0_insertAhead : GoodIn wsX0_setRank wsX0_insertAhead := goodIn_r _ [6, 1, 7, 8, 9, 5, 10, 11, 12, 13, 14, 15, 16, 17] (by decide +kernel) (by decide +kernel)
set_option maxRecDepth 20000 in
theorem gX0_setRank_X0_insertAhead : GoodIn wsX0_setRank (wsV RX0 26 RX0 yX0_insertAhead wsX0_insertAhead) := goodIn_app (goodIn_of _ (by decide +kernel)) ggX0_setRank_X0_insertAhead
theorem dX0_setRank_0 : decode cX0_setRank 0 = .ok (.aload_n 0, 1) := by decide +kernel
theorem dX0_setRank_1 : decode cX0_setRank 1 = .ok (.iload_n 1, 1) := by decide +kernel
theorem dX0_setRank_2 : decode cX0_setRank 2 = .ok (.putfield 15, 3) := by decide +kernel
theorem dX0_setRank_5 : decode cX0_setRank 5 = .ok (.iload_n 2, 1) := by decide +kernel
theorem dX0_setRank_6 : decode cX0_setRank 6 = .ok (.istore_n 3, 1) := by decide +kernel
theorem dX0_setRank_7 : decode cX0_setRank 7 = .ok (.iconst 1, 1) := by decide +kernel
theorem dX0_setRank_8 : decode cX0_setRank 8 = .ok (.istore 4, 2) := by decide +kernel
theorem dX0_setRank_10 : decode cX0_setRank 10 = .ok (.iload 4, 2) := by decide +kernel
theorem dX0_setRank_12 : decode cX0_setRank 12 = .ok (.iload_n 1, 1) := by decide +kernel
theorem dX0_setRank_13 : decode cX0_setRank 13 = .ok (.if_icmp .gt 26, 3) := by decide +kernel
theorem dX0_setRank_16 : decode cX0_setRank 16 = .ok (.aload_n 0, 1) := by decide +kernel
theorem dX0_setRank_17 : decode cX0_setRank 17 = .ok (.iload_n 1, 1) := by decide +kernel
theorem dX0_setRank_18 : decode cX0_setRank 18 = .ok (.iload 4, 2) := by decide +kernel
theorem dX0_setRank_20 : decode cX0_setRank 20 = .ok (.isub, 1) := by decide +kernel
theorem dX0_setRank_21 : decode cX0_setRank 21 = .ok (.iload_n 3, 1) := by decide +kernel
theorem dX0_setRank_22 : decode cX0_setRank 22 = .ok (.iload 4, 2) := by decide +kernel
theorem dX0_setRank_24 : decode cX0_setRank 24 = .ok (.irem, 1) := by decide +kernel
theorem dX0_setRank_25 : decode cX0_setRank 25 = .ok (.invokevirtual 26, 3) := by decide +kernel
theorem dX0_setRank_28 : decode cX0_setRank 28 = .ok (.iload_n 3, 1) := by decide +kernel
theorem dX0_setRank_29 : decode cX0_setRank 29 = .ok (.iload 4, 2) := by decide +kernel
theorem dX0_setRank_31 : decode cX0_setRank 31 = .ok (.idiv, 1) := by decide +kernel
theorem dX0_setRank_32 : decode cX0_setRank 32 = .ok (.istore_n 3, 1) := by decide +kernel
theorem dX0_setRank_33 : decode cX0_setRank 33 = .ok (.iinc 4 1, 3) := by decide +kernel
theorem dX0_setRank_36 : decode cX0_setRank 36 = .ok (.goto (-26), 3) := by decide +kernel
theorem dX0_setRank_39 : decode cX0_setRank 39 = .ok (.return_, 1) := by decide +kernel
set_option maxRecDepth 20000 in
theorem ggX0_insertAhead_X0_put : GoodIn wsX0_insertAhead wsX0_put := goodIn_r _ [6, 7, 12, 13] (by decide +kernel) (by decide +kernel)
set_option maxRecDepth 20000 in
theorem gX0_insertAhead_X0_put : GoodIn wsX0_insertAhead (wsV RX0 30 RX0 yX0_put wsX0_put) := goodIn_app (goodIn_of _ (by decide +kernel)) ggX0_insertAhead_X0_put
set_option maxRecDepth 20000 in
theorem ggX0_insertAhead_X0_bellAt : GoodIn wsX0_insertAhead wsX0_bellAt := goodIn_r _ [11, 7, 12, 13] (by decide +kernel) (by decide +kernel)
set_option maxRecDepth 20000 in
theorem gX0_insertAhead_X0_bellAt : GoodIn wsX0_insertAhead (wsV RX0 19 RX0 yX0_bellAt wsX0_bellAt) := goodIn_app (goodIn_of _ (by decide +kernel)) ggX0_insertAhead_X0_bellAt
theorem dX0_insertAhead_0 : decode cX0_insertAhead 0 = .ok (.aload_n 0, 1) := by decide +kernel
theorem dX0_insertAhead_1 : decode cX0_insertAhead 1 = .ok (.iload_n 1, 1) := by decide +kernel
theorem dX0_insertAhead_2 : decode cX0_insertAhead 2 = .ok (.iload_n 2, 1) := by decide +kernel
theorem dX0_insertAhead_3 : decode cX0_insertAhead 3 = .ok (.invokevirtual 30, 3) := by decide +kernel
theorem dX0_insertAhead_6 : decode cX0_insertAhead 6 = .ok (.iload_n 1, 1) := by decide +kernel
theorem dX0_insertAhead_7 : decode cX0_insertAhead 7 = .ok (.iconst 1, 1) := by decide +kernel
theorem dX0_insertAhead_8 : decode cX0_insertAhead 8 = .ok (.iadd, 1) := by decide +kernel
theorem dX0_insertAhead_9 : decode cX0_insertAhead 9 = .ok (.istore_n 3, 1) := by decide +kernel
theorem dX0_insertAhead_10 : decode cX0_insertAhead 10 = .ok (.iload_n 3, 1) := by decide +kernel
theorem dX0_insertAhead_11 : decode cX0_insertAhead 11 = .ok (.aload_n 0, 1) := by decide +kernel
theorem dX0_insertAhead_12 : decode cX0_insertAhead 12 = .ok (.getfield 15, 3) := by decide +kernel
theorem dX0_insertAhead_15 : decode cX0_insertAhead 15 = .ok (.if_icmp .ge 30, 3) := by decide +kernel
theorem dX0_insertAhead_18 : decode cX0_insertAhead 18 = .ok (.aload_n 0, 1) := by decide +kernel
theorem dX0_insertAhead_19 : decode cX0_insertAhead 19 = .ok (.iload_n 3, 1) := by decide +kernel
theorem dX0_insertAhead_20 : decode cX0_insertAhead 20 = .ok (.invokevirtual 19, 3) := by decide +kernel
theorem dX0_insertAhead_23 : decode cX0_insertAhead 23 = .ok (.iload_n 2, 1) := by decide +kernel
theorem dX0_insertAhead_24 : decode cX0_insertAhead 24 = .ok (.if_icmp .lt 15, 3) := by decide +kernel
theorem dX0_insertAhead_27 : decode cX0_insertAhead 27 = .ok (.aload_n 0, 1) := by decide +kernel
theorem dX0_insertAhead_28 : decode cX0_insertAhead 28 = .ok (.iload_n 3, 1) := by decide +kernel
theorem dX0_insertAhead_29 : decode cX0_insertAhead 29 = .ok (.aload_n 0, 1) := by decide +kernel
theorem dX0_insertAhead_30 : decode cX0_insertAhead 30 = .ok (.iload_n 3, 1) := by decide +kernel
theorem dX0_insertAhead_31 : decode cX0_insertAhead 31 = .ok (.invokevirtual 19, 3) := by decide +kernel
theorem dX0_insertAhead_34 : decode cX0_insertAhead 34 = .ok (.iconst 1, 1) := by decide +kernel
theorem dX0_insertAhead_35 : decode cX0_insertAhead 35 = .ok (.iadd, 1) := by decide +kernel
theorem dX0_insertAhead_36 : decode cX0_insertAhead 36 = .ok (.invokevirtual 30, 3) := by decide +kernel
theorem dX0_insertAhead_39 : decode cX0_insertAhead 39 = .ok (.iinc 3 1, 3) := by decide +kernel
theorem dX0_insertAhead_42 : decode cX0_insertAhead 42 = .ok (.goto (-32), 3) := by decide +kernel
theorem dX0_insertAhead_45 : decode cX0_insertAhead 45 = .ok (.return_, 1) := by decide +kernel
set_option maxRecDepth 20000 in
theorem ggX0_setCopy_X0_bellAt : GoodIn wsX0_setCopy wsX0_bellAt := goodIn_r _ [6, 7, 12, 13] (by decide +kernel) (by decide +kernel)
set_option maxRecDepth 20000 in
theorem gX0_setCopy_X0_bellAt : GoodIn wsX0_setCopy (wsV RX0 19 RX0 yX0_bellAt wsX0_bellAt) := goodIn_app (goodIn_of _ (by decide +kernel)) ggX0_setCopy_X0_bellAt
set_option maxRecDepth 20000 in
theorem ggX0_setCopy_X0_put : GoodIn wsX0_setCopy wsX0_put := goodIn_r _ [11, 7, 12, 13] (by decide +kernel) (by decide +kernel)
set_option maxRecDepth 20000 in
theorem gX0_setCopy_X0_put : GoodIn wsX0_setCopy (wsV RX0 30 RX0 yX0_put wsX0_put) := goodIn_app (goodIn_of _ (by decide +kernel)) ggX0_setCopy_X0_put
theorem dX0_setCopy_0 : decode cX0_setCopy 0 = .ok (.aload_n 0, 1) := by decide +kernel
theorem dX0_setCopy_1 : decode cX0_setCopy 1 = .ok (.aload_n 1, 1) := by decide +kernel
theorem dX0_setCopy_2 : decode cX0_setCopy 2 = .ok (.getfield 15, 3) := by decide +kernel
theorem dX0_setCopy_5 : decode cX0_setCopy 5 = .ok (.putfield 15, 3) := by decide +kernel
theorem dX0_setCopy_8 : decode cX0_setCopy 8 = .ok (.iconst 0, 1) := by decide +kernel
theorem dX0_setCopy_9 : decode cX0_setCopy 9 = .ok (.istore_n 2, 1) := by decide +kernel
theorem dX0_setCopy_10 : decode cX0_setCopy 10 = .ok (.iload_n 2, 1) := by decide +kernel
theorem dX0_setCopy_11 : decode cX0_setCopy 11 = .ok (.aload_n 0, 1) := by decide +kernel
theorem dX0_setCopy_12 : decode cX0_setCopy 12 = .ok (.getfield 15, 3) := by decide +kernel
theorem dX0_setCopy_15 : decode cX0_setCopy 15 = .ok (.if_icmp .ge 19, 3) := by decide +kernel
theorem dX0_setCopy_18 : decode cX0_setCopy 18 = .ok (.aload_n 0, 1) := by decide +kernel
theorem dX0_setCopy_19 : decode cX0_setCopy 19 = .ok (.iload_n 2, 1) := by decide +kernel
theorem dX0_setCopy_20 : decode cX0_setCopy 20 = .ok (.aload_n 1, 1) := by decide +kernel
theorem dX0_setCopy_21 : decode cX0_setCopy 21 = .ok (.iload_n 2, 1) := by decide +kernel
theorem dX0_setCopy_22 : decode cX0_setCopy 22 = .ok (.invokevirtual 19, 3) := by decide +kernel
theorem dX0_setCopy_25 : decode cX0_setCopy 25 = .ok (.invokevirtual 30, 3) := by decide +kernel
theorem dX0_setCopy_28 : decode cX0_setCopy 28 = .ok (.iinc 2 1, 3) := by decide +kernel
theorem dX0_setCopy_31 : decode cX0_setCopy 31 = .ok (.goto (-21), 3) := by decide +kernel
theorem dX0_setCopy_34 : decode cX0_setCopy 34 = .ok (.return_, 1) := by decide +kernel
set_option maxRecDepth 20000 in
theorem ggX0_setBehind_X0_bellAt : GoodIn wsX0_setBehind wsX0_bellAt := goodIn_r _ [6, 7, 12, 13] (by decide +kernel) (by decide +kernel)
set_option maxRecDepth 20000 in
theorem gX0_setBehind_X0_bellAt : GoodIn wsX0_setBehind (wsV RX0 19 RX0 yX0_bellAt wsX0_bellAt) := goodIn_app (goodIn_of _ (by decide +kernel)) ggX0_setBehind_X0_bellAt
set_option maxRecDepth 20000 in
theorem ggX0_setBehind_X0_put : GoodIn wsX0_setBehind wsX0_put := goodIn_r _ [11, 7, 12, 13] (by decide +kernel) (by decide +kernel)
set_option maxRecDepth 20000 in
theorem gX0_setBehind_X0_put : GoodIn wsX0_setBehind (wsV RX0 30 RX0 yX0_put wsX0_put) := goodIn_app (goodIn_of _ (by decide +kernel)) ggX0_setBehind_X0_put
theorem dX0_setBehind_0 : decode cX0_setBehind 0 = .ok (.aload_n 0, 1) := by decide +kernel
theorem dX0_setBehind_1 : decode cX0_setBehind 1 = .ok (.aload_n 2, 1) := by decide +kernel
theorem dX0_setBehind_2 : decode cX0_setBehind 2 = .ok (.getfield 15, 3) := by decide +kernel
theorem dX0_setBehind_5 : decode cX0_setBehind 5 = .ok (.putfield 15, 3) := by decide +kernel
theorem dX0_setBehind_8 : decode cX0_setBehind 8 = .ok (.iconst 0, 1) := by decide +kernel
theorem dX0_setBehind_9 : decode cX0_setBehind 9 = .ok (.istore_n 3, 1) := by decide +kernel
theorem dX0_setBehind_10 : decode cX0_setBehind 10 = .ok (.iload_n 3, 1) := by decide +kernel
theorem dX0_setBehind_11 : decode cX0_setBehind 11 = .ok (.aload_n 0, 1) := by decide +kernel
theorem dX0_setBehind_12 : decode cX0_setBehind 12 = .ok (.getfield 15, 3) := by decide +kernel
theorem dX0_setBehind_15 : decode cX0_setBehind 15 = .ok (.if_icmp .ge 23, 3) := by decide +kernel
theorem dX0_setBehind_18 : decode cX0_setBehind 18 = .ok (.aload_n 0, 1) := by decide +kernel
theorem dX0_setBehind_19 : decode cX0_setBehind 19 = .ok (.iload_n 3, 1) := by decide +kernel
theorem dX0_setBehind_20 : decode cX0_setBehind 20 = .ok (.aload_n 1, 1) := by decide +kernel
theorem dX0_setBehind_21 : decode cX0_setBehind 21 = .ok (.aload_n 2, 1) := by decide +kernel
theorem dX0_setBehind_22 : decode cX0_setBehind 22 = .ok (.iload_n 3, 1) := by decide +kernel
theorem dX0_setBehind_23 : decode cX0_setBehind 23 = .ok (.invokevirtual 19, 3) := by decide +kernel
theorem dX0_setBehind_26 : decode cX0_setBehind 26 = .ok (.invokevirtual 19, 3) := by decide +kernel
theorem dX0_setBehind_29 : decode cX0_setBehind 29 = .ok (.invokevirtual 30, 3) := by decide +kernel
theorem dX0_setBehind_32 : decode cX0_setBehind 32 = .ok (.iinc 3 1, 3) := by decide +kernel
theorem dX0_setBehind_35 : decode cX0_setBehind 35 = .ok (.goto (-25), 3) := by decide +kernel
theorem dX0_setBehind_38 : decode cX0_setBehind 38 = .ok (.return_, 1) := by decide +kernel
set_option maxRecDepth 20000 in
theorem ggX0_setBack_X0_bellAt : GoodIn wsX0_setBack wsX0_bellAt := goodIn_r _ [6, 7, 12, 13] (by decide +kernel) (by decide +kernel)
set_option maxRecDepth 20000 in
theorem gX0_setBack_X0_bellAt : GoodIn wsX0_setBack (wsV RX0 19 RX0 yX0_bellAt wsX0_bellAt) := goodIn_app (goodIn_of _ (by decide +kernel)) ggX0_setBack_X0_bellAt
set_option maxRecDepth 20000 in
theorem ggX0_setBack_X0_put : GoodIn wsX0_setBack wsX0_put := goodIn_r _ [11, 7, 12, 13] (by decide +kernel) (by decide +kernel)
set_option maxRecDepth 20000 in
theorem gX0_setBack_X0_put : GoodIn wsX0_setBack (wsV RX0 30 RX0 yX0_put wsX0_put) := goodIn_app (goodIn_of _ (by decide +kernel)) ggX0_setBack_X0_put
theorem dX0_setBack_0 : decode cX0_setBack 0 = .ok (.aload_n 0, 1) := by decide +kernel
theorem dX0_setBack_1 : decode cX0_setBack 1 = .ok (.aload_n 1, 1) := by decide +kernel
theorem dX0_setBack_2 : decode cX0_setBack 2 = .ok (.getfield 15, 3) := by decide +kernel
theorem dX0_setBack_5 : decode cX0_setBack 5 = .ok (.putfield 15, 3) := by decide +kernel
theorem dX0_setBack_8 : decode cX0_setBack 8 = .ok (.iconst 0, 1) := by decide +kernel
theorem dX0_setBack_9 : decode cX0_setBack 9 = .ok (.istore_n 2, 1) := by decide +kernel
theorem dX0_setBack_10 : decode cX0_setBack 10 = .ok (.iload_n 2, 1) := by decide +kernel
theorem dX0_setBack_11 : decode cX0_setBack 11 = .ok (.aload_n 0, 1) := by decide +kernel
theorem dX0_setBack_12 : decode cX0_setBack 12 = .ok (.getfield 15, 3) := by decide +kernel
theorem dX0_setBack_15 : decode cX0_setBack 15 = .ok (.if_icmp .ge 19, 3) := by decide +kernel
theorem dX0_setBack_18 : decode cX0_setBack 18 = .ok (.aload_n 0, 1) := by decide +kernel
theorem dX0_setBack_19 : decode cX0_setBack 19 = .ok (.aload_n 1, 1) := by decide +kernel
theorem dX0_setBack_20 : decode cX0_setBack 20 = .ok (.iload_n 2, 1) := by decide +kernel
theorem dX0_setBack_21 : decode cX0_setBack 21 = .ok (.invokevirtual 19, 3) := by decide +kernel
theorem dX0_setBack_24 : decode cX0_setBack 24 = .ok (.iload_n 2, 1) := by decide +kernel
theorem dX0_setBack_25 : decode cX0_setBack 25 = .ok (.invokevirtual 30, 3) := by decide +kernel
theorem dX0_setBack_28 : decode cX0_setBack 28 = .ok (.iinc 2 1, 3) := by decide +kernel
theorem dX0_setBack_31 : decode cX0_setBack 31 = .ok (.goto (-21), 3) := by decide +kernel
theorem dX0_setBack_34 : decode cX0_setBack 34 = .ok (.return_, 1) := by decide +kernel
set_option maxRecDepth 20000 in
theorem ggX0_setRepeated_X0_ringLength : GoodIn wsX0_setRepeated wsX0_ringLength := goodIn_r _ [6, 1, 7, 8, 9, 5, 10, 11, 20, 21] (by decide +kernel) (by decide +kernel)
set_option maxRecDepth 20000 in
theorem gX0_setRepeated_X0_ringLength : GoodIn wsX0_setRepeated (wsV RX0 33 RX0 yX0_ringLength wsX0_ringLength) := goodIn_app (goodIn_of _ (by decide +kernel)) ggX0_setRepeated_X0_ringLength
set_option maxRecDepth 20000 in
theorem ggX0_setRepeated_X0_goneFrom : GoodIn wsX0_setRepeated wsX0_goneFrom := goodIn_r _ [15, 7, 8, 9, 5, 10, 11, 20, 21] (by decide +kernel) (by decide +kernel)
set_option maxRecDepth 20000 in
theorem gX0_setRepeated_X0_goneFrom : GoodIn wsX0_setRepeated (wsV RX0 36 RX0 yX0_goneFrom wsX0_goneFrom) := goodIn_app (goodIn_of _ (by decide +kernel)) ggX0_setRepeated_X0_goneFrom
set_option maxRecDepth 20000 in
theorem ggX0_setRepeated_X0_put : GoodIn wsX0_setRepeated wsX0_put := goodIn_r _ [19, 11, 20, 21] (by decide +kernel) (by decide +kernel)
set_option maxRecDepth 20000 in
theorem gX0_setRepeated_X0_put : GoodIn wsX0_setRepeated (wsV RX0 30 RX0 yX0_put wsX0_put) := goodIn_app (goodIn_of _ (by decide +kernel)) ggX0_setRepeated_X0_put
theorem dX0_setRepeated_0 : decode cX0_setRepeated 0 = .ok (.aload_n 0, 1) := by decide +kernel
theorem dX0_setRepeated_1 : decode cX0_setRepeated 1 = .ok (.aload_n 1, 1) := by decide +kernel
theorem dX0_setRepeated_2 : decode cX0_setRepeated 2 = .ok (.getfield 15, 3) := by decide +kernel
theorem dX0_setRepeated_5 : decode cX0_setRepeated 5 = .ok (.putfield 15, 3) := by decide +kernel
theorem dX0_setRepeated_8 : decode cX0_setRepeated 8 = .ok (.iconst 0, 1) := by decide +kernel
theorem dX0_setRepeated_9 : decode cX0_setRepeated 9 = .ok (.istore_n 3, 1) := by decide +kernel
theorem dX0_setRepeated_10 : decode cX0_setRepeated 10 = .ok (.iload_n 3, 1) := by decide +kernel
theorem dX0_setRepeated_11 : decode cX0_setRepeated 11 = .ok (.aload_n 0, 1) := by decide +kernel
theorem dX0_setRepeated_12 : decode cX0_setRepeated 12 = .ok (.getfield 15, 3) := by decide +kernel
theorem dX0_setRepeated_15 : decode cX0_setRepeated 15 = .ok (.if_icmp .ge 43, 3) := by decide +kernel
theorem dX0_setRepeated_18 : decode cX0_setRepeated 18 = .ok (.aload_n 1, 1) := by decide +kernel
theorem dX0_setRepeated_19 : decode cX0_setRepeated 19 = .ok (.iload_n 3, 1) := by decide +kernel
theorem dX0_setRepeated_20 : decode cX0_setRepeated 20 = .ok (.invokevirtual 33, 3) := by decide +kernel
theorem dX0_setRepeated_23 : decode cX0_setRepeated 23 = .ok (.istore 4, 2) := by decide +kernel
theorem dX0_setRepeated_25 : decode cX0_setRepeated 25 = .ok (.iload 4, 2) := by decide +kernel
theorem dX0_setRepeated_27 : decode cX0_setRepeated 27 = .ok (.ifCond .le 10, 3) := by decide +kernel
theorem dX0_setRepeated_30 : decode cX0_setRepeated 30 = .ok (.iload_n 2, 1) := by decide +kernel
theorem dX0_setRepeated_31 : decode cX0_setRepeated 31 = .ok (.iload 4, 2) := by decide +kernel
theorem dX0_setRepeated_33 : decode cX0_setRepeated 33 = .ok (.irem, 1) := by decide +kernel
theorem dX0_setRepeated_34 : decode cX0_setRepeated 34 = .ok (.goto 4, 3) := by decide +kernel
theorem dX0_setRepeated_37 : decode cX0_setRepeated 37 = .ok (.iconst 0, 1) := by decide +kernel
theorem dX0_setRepeated_38 : decode cX0_setRepeated 38 = .ok (.istore 5, 2) := by decide +kernel
theorem dX0_setRepeated_40 : decode cX0_setRepeated 40 = .ok (.aload_n 0, 1) := by decide +kernel
theorem dX0_setRepeated_41 : decode cX0_setRepeated 41 = .ok (.iload_n 3, 1) := by decide +kernel
theorem dX0_setRepeated_42 : decode cX0_setRepeated 42 = .ok (.aload_n 1, 1) := by decide +kernel
theorem dX0_setRepeated_43 : decode cX0_setRepeated 43 = .ok (.iload_n 3, 1) := by decide +kernel
theorem dX0_setRepeated_44 : decode cX0_setRepeated 44 = .ok (.iload 5, 2) := by decide +kernel
theorem dX0_setRepeated_46 : decode cX0_setRepeated 46 = .ok (.invokevirtual 36, 3) := by decide +kernel
theorem dX0_setRepeated_49 : decode cX0_setRepeated 49 = .ok (.invokevirtual 30, 3) := by decide +kernel
theorem dX0_setRepeated_52 : decode cX0_setRepeated 52 = .ok (.iinc 3 1, 3) := by decide +kernel
theorem dX0_setRepeated_55 : decode cX0_setRepeated 55 = .ok (.goto (-45), 3) := by decide +kernel
theorem dX0_setRepeated_58 : decode cX0_setRepeated 58 = .ok (.return_, 1) := by decide +kernel
set_option maxRecDepth 20000 in
theorem ggX0_goneFrom_X0_bellAt : GoodIn wsX0_goneFrom wsX0_bellAt := goodIn_r _ [5, 6, 7, 8] (by decide +kernel) (by decide +kernel)
set_option maxRecDepth 20000 in
theorem gX0_goneFrom_X0_bellAt : GoodIn wsX0_goneFrom (wsV RX0 19 RX0 yX0_bellAt wsX0_bellAt) := goodIn_app (goodIn_of _ (by decide +kernel)) ggX0_goneFrom_X0_bellAt
theorem dX0_goneFrom_0 : decode cX0_goneFrom 0 = .ok (.iload_n 1, 1) := by decide +kernel
theorem dX0_goneFrom_1 : decode cX0_goneFrom 1 = .ok (.istore_n 3, 1) := by decide +kernel
theorem dX0_goneFrom_2 : decode cX0_goneFrom 2 = .ok (.iconst 0, 1) := by decide +kernel
theorem dX0_goneFrom_3 : decode cX0_goneFrom 3 = .ok (.istore 4, 2) := by decide +kernel
theorem dX0_goneFrom_5 : decode cX0_goneFrom 5 = .ok (.iload 4, 2) := by decide +kernel
theorem dX0_goneFrom_7 : decode cX0_goneFrom 7 = .ok (.iload_n 2, 1) := by decide +kernel
theorem dX0_goneFrom_8 : decode cX0_goneFrom 8 = .ok (.if_icmp .ge 15, 3) := by decide +kernel
theorem dX0_goneFrom_11 : decode cX0_goneFrom 11 = .ok (.aload_n 0, 1) := by decide +kernel
theorem dX0_goneFrom_12 : decode cX0_goneFrom 12 = .ok (.iload_n 3, 1) := by decide +kernel
theorem dX0_goneFrom_13 : decode cX0_goneFrom 13 = .ok (.invokevirtual 19, 3) := by decide +kernel
theorem dX0_goneFrom_16 : decode cX0_goneFrom 16 = .ok (.istore_n 3, 1) := by decide +kernel
theorem dX0_goneFrom_17 : decode cX0_goneFrom 17 = .ok (.iinc 4 1, 3) := by decide +kernel
theorem dX0_goneFrom_20 : decode cX0_goneFrom 20 = .ok (.goto (-15), 3) := by decide +kernel
theorem dX0_goneFrom_23 : decode cX0_goneFrom 23 = .ok (.iload_n 3, 1) := by decide +kernel
theorem dX0_goneFrom_24 : decode cX0_goneFrom 24 = .ok (.ireturn, 1) := by decide +kernel
set_option maxRecDepth 20000 in
theorem ggX0_exchange_X0_bellAt : GoodIn wsX0_exchange wsX0_bellAt := goodIn_r _ [5, 6, 11, 12] (by decide +kernel) (by decide +kernel)
set_option maxRecDepth 20000 in
theorem gX0_exchange_X0_bellAt : GoodIn wsX0_exchange (wsV RX0 19 RX0 yX0_bellAt wsX0_bellAt) := goodIn_app (goodIn_of _ (by decide +kernel)) ggX0_exchange_X0_bellAt
set_option maxRecDepth 20000 in
theorem ggX0_exchange_X0_put : GoodIn wsX0_exchange wsX0_put := goodIn_r _ [10, 6, 11, 12] (by decide +kernel) (by decide +kernel)
set_option maxRecDepth 20000 in
theorem gX0_exchange_X0_put : GoodIn wsX0_exchange (wsV RX0 30 RX0 yX0_put wsX0_put) := goodIn_app (goodIn_of _ (by decide +kernel)) ggX0_exchange_X0_put
theorem dX0_exchange_0 : decode cX0_exchange 0 = .ok (.aload_n 0, 1) := by decide +kernel
theorem dX0_exchange_1 : decode cX0_exchange 1 = .ok (.iload_n 1, 1) := by decide +kernel
theorem dX0_exchange_2 : decode cX0_exchange 2 = .ok (.invokevirtual 19, 3) := by decide +kernel
theorem dX0_exchange_5 : decode cX0_exchange 5 = .ok (.istore_n 2, 1) := by decide +kernel
theorem dX0_exchange_6 : decode cX0_exchange 6 = .ok (.aload_n 0, 1) := by decide +kernel
theorem dX0_exchange_7 : decode cX0_exchange 7 = .ok (.iload_n 1, 1) := by decide +kernel
theorem dX0_exchange_8 : decode cX0_exchange 8 = .ok (.aload_n 0, 1) := by decide +kernel
theorem dX0_exchange_9 : decode cX0_exchange 9 = .ok (.iload_n 1, 1) := by decide +kernel
theorem dX0_exchange_10 : decode cX0_exchange 10 = .ok (.iconst 1, 1) := by decide +kernel
theorem dX0_exchange_11 : decode cX0_exchange 11 = .ok (.iadd, 1) := by decide +kernel
theorem dX0_exchange_12 : decode cX0_exchange 12 = .ok (.invokevirtual 19, 3) := by decide +kernel
theorem dX0_exchange_15 : decode cX0_exchange 15 = .ok (.invokevirtual 30, 3) := by decide +kernel
theorem dX0_exchange_18 : decode cX0_exchange 18 = .ok (.aload_n 0, 1) := by decide +kernel
theorem dX0_exchange_19 : decode cX0_exchange 19 = .ok (.iload_n 1, 1) := by decide +kernel
theorem dX0_exchange_20 : decode cX0_exchange 20 = .ok (.iconst 1, 1) := by decide +kernel
theorem dX0_exchange_21 : decode cX0_exchange 21 = .ok (.iadd, 1) := by decide +kernel
theorem dX0_exchange_22 : decode cX0_exchange 22 = .ok (.iload_n 2, 1) := by decide +kernel
theorem dX0_exchange_23 : decode cX0_exchange 23 = .ok (.invokevirtual 30, 3) := by decide +kernel
theorem dX0_exchange_26 : decode cX0_exchange 26 = .ok (.return_, 1) := by decide +kernel
set_option maxRecDepth 20000 in
theorem ggX0_ringStep_X1_keeps : GoodIn wsX0_ringStep wsX1_keeps := goodIn_r _ [5] (by decide +kernel) (by decide +kernel)
set_option maxRecDepth 20000 in
theorem gX0_ringStep_X1_keeps : GoodIn wsX0_ringStep (va_wsS RX0 40 yX1_keeps wsX1_keeps) := goodIn_app (goodIn_of _ (by decide +kernel)) ggX0_ringStep_X1_keeps
set_option maxRecDepth 20000 in
theorem ggX0_ringStep_X0_exchange : GoodIn wsX0_ringStep wsX0_exchange := goodIn_r _ [10, 11, 12, 13, 9, 14, 15, 16, 17, 18, 19, 20, 21] (by decide +kernel) (by decide +kernel)
set_option maxRecDepth 20000 in
theorem gX0_ringStep_X0_exchange : GoodIn wsX0_ringStep (wsV RX0 46 RX0 yX0_exchange wsX0_exchange) := goodIn_app (goodIn_of _ (by decide +kernel)) ggX0_ringStep_X0_exchange
theorem dX0_ringStep_0 : decode cX0_ringStep 0 = .ok (.iconst 0, 1) := by decide +kernel
theorem dX0_ringStep_1 : decode cX0_ringStep 1 = .ok (.istore_n 2, 1) := by decide +kernel
theorem dX0_ringStep_2 : decode cX0_ringStep 2 = .ok (.iload_n 2, 1) := by decide +kernel
theorem dX0_ringStep_3 : decode cX0_ringStep 3 = .ok (.iconst 1, 1) := by decide +kernel
theorem dX0_ringStep_4 : decode cX0_ringStep 4 = .ok (.iadd, 1) := by decide +kernel
theorem dX0_ringStep_5 : decode cX0_ringStep 5 = .ok (.aload_n 0, 1) := by decide +kernel
theorem dX0_ringStep_6 : decode cX0_ringStep 6 = .ok (.getfield 15, 3) := by decide +kernel
theorem dX0_ringStep_9 : decode cX0_ringStep 9 = .ok (.if_icmp .ge 28, 3) := by decide +kernel
theorem dX0_ringStep_12 : decode cX0_ringStep 12 = .ok (.iload_n 1, 1) := by decide +kernel
theorem dX0_ringStep_13 : decode cX0_ringStep 13 = .ok (.iload_n 2, 1) := by decide +kernel
theorem dX0_ringStep_14 : decode cX0_ringStep 14 = .ok (.invokestatic 40, 3) := by decide +kernel
theorem dX0_ringStep_17 : decode cX0_ringStep 17 = .ok (.ifCond .eq 9, 3) := by decide +kernel
theorem dX0_ringStep_20 : decode cX0_ringStep 20 = .ok (.iinc 2 1, 3) := by decide +kernel
theorem dX0_ringStep_23 : decode cX0_ringStep 23 = .ok (.goto (-21), 3) := by decide +kernel
theorem dX0_ringStep_26 : decode cX0_ringStep 26 = .ok (.aload_n 0, 1) := by decide +kernel
theorem dX0_ringStep_27 : decode cX0_ringStep 27 = .ok (.iload_n 2, 1) := by decide +kernel
theorem dX0_ringStep_28 : decode cX0_ringStep 28 = .ok (.invokevirtual 46, 3) := by decide +kernel
theorem dX0_ringStep_31 : decode cX0_ringStep 31 = .ok (.iinc 2 2, 3) := by decide +kernel
theorem dX0_ringStep_34 : decode cX0_ringStep 34 = .ok (.goto (-32), 3) := by decide +kernel
theorem dX0_ringStep_37 : decode cX0_ringStep 37 = .ok (.return_, 1) := by decide +kernel
set_option maxRecDepth 20000 in
theorem ggX0_ringLength_X0_bellAt : GoodIn wsX0_ringLength wsX0_bellAt := goodIn_r _ [6, 7, 8, 9] (by decide +kernel) (by decide +kernel)
set_option maxRecDepth 20000 in
theorem gX0_ringLength_X0_bellAt : GoodIn wsX0_ringLength (wsV RX0 19 RX0 yX0_bellAt wsX0_bellAt) := goodIn_app (goodIn_of _ (by decide +kernel)) ggX0_ringLength_X0_bellAt
theorem dX0_ringLength_0 : decode cX0_ringLength 0 = .ok (.iconst 1, 1) := by decide +kernel
theorem dX0_ringLength_1 : decode cX0_ringLength 1 = .ok (.istore_n 2, 1) := by decide +kernel
theorem dX0_ringLength_2 : decode cX0_ringLength 2 = .ok (.aload_n 0, 1) := by decide +kernel
theorem dX0_ringLength_3 : decode cX0_ringLength 3 = .ok (.iload_n 1, 1) := by decide +kernel
theorem dX0_ringLength_4 : decode cX0_ringLength 4 = .ok (.invokevirtual 19, 3) := by decide +kernel
theorem dX0_ringLength_7 : decode cX0_ringLength 7 = .ok (.istore_n 3, 1) := by decide +kernel
theorem dX0_ringLength_8 : decode cX0_ringLength 8 = .ok (.iload_n 3, 1) := by decide +kernel
theorem dX0_ringLength_9 : decode cX0_ringLength 9 = .ok (.iload_n 1, 1) := by decide +kernel
theorem dX0_ringLength_10 : decode cX0_ringLength 10 = .ok (.if_icmp .eq 23, 3) := by decide +kernel
theorem dX0_ringLength_13 : decode cX0_ringLength 13 = .ok (.iload_n 2, 1) := by decide +kernel
theorem dX0_ringLength_14 : decode cX0_ringLength 14 = .ok (.aload_n 0, 1) := by decide +kernel
theorem dX0_ringLength_15 : decode cX0_ringLength 15 = .ok (.getfield 15, 3) := by decide +kernel
theorem dX0_ringLength_18 : decode cX0_ringLength 18 = .ok (.if_icmp .ge 15, 3) := by decide +kernel
theorem dX0_ringLength_21 : decode cX0_ringLength 21 = .ok (.aload_n 0, 1) := by decide +kernel
theorem dX0_ringLength_22 : decode cX0_ringLength 22 = .ok (.iload_n 3, 1) := by decide +kernel
theorem dX0_ringLength_23 : decode cX0_ringLength 23 = .ok (.invokevirtual 19, 3) := by decide +kernel
theorem dX0_ringLength_26 : decode cX0_ringLength 26 = .ok (.istore_n 3, 1) := by decide +kernel
theorem dX0_ringLength_27 : decode cX0_ringLength 27 = .ok (.iinc 2 1, 3) := by decide +kernel
theorem dX0_ringLength_30 : decode cX0_ringLength 30 = .ok (.goto (-22), 3) := by decide +kernel
theorem dX0_ringLength_33 : decode cX0_ringLength 33 = .ok (.iload_n 2, 1) := by decide +kernel
theorem dX0_ringLength_34 : decode cX0_ringLength 34 = .ok (.ireturn, 1) := by decide +kernel
set_option maxRecDepth 20000 in
theorem ggX0_isLeastOfRing_X0_bellAt : GoodIn wsX0_isLeastOfRing wsX0_bellAt := goodIn_r _ [6, 7, 8, 9] (by decide +kernel) (by decide +kernel)
set_option maxRecDepth 20000 in
theorem gX0_isLeastOfRing_X0_bellAt : GoodIn wsX0_isLeastOfRing (wsV RX0 19 RX0 yX0_bellAt wsX0_bellAt) := goodIn_app (goodIn_of _ (by decide +kernel)) ggX0_isLeastOfRing_X0_bellAt
theorem dX0_isLeastOfRing_0 : decode cX0_isLeastOfRing 0 = .ok (.aload_n 0, 1) := by decide +kernel
theorem dX0_isLeastOfRing_1 : decode cX0_isLeastOfRing 1 = .ok (.iload_n 1, 1) := by decide +kernel
theorem dX0_isLeastOfRing_2 : decode cX0_isLeastOfRing 2 = .ok (.invokevirtual 19, 3) := by decide +kernel
theorem dX0_isLeastOfRing_5 : decode cX0_isLeastOfRing 5 = .ok (.istore_n 2, 1) := by decide +kernel
theorem dX0_isLeastOfRing_6 : decode cX0_isLeastOfRing 6 = .ok (.iconst 0, 1) := by decide +kernel
theorem dX0_isLeastOfRing_7 : decode cX0_isLeastOfRing 7 = .ok (.istore_n 3, 1) := by decide +kernel
theorem dX0_isLeastOfRing_8 : decode cX0_isLeastOfRing 8 = .ok (.iload_n 3, 1) := by decide +kernel
theorem dX0_isLeastOfRing_9 : decode cX0_isLeastOfRing 9 = .ok (.aload_n 0, 1) := by decide +kernel
theorem dX0_isLeastOfRing_10 : decode cX0_isLeastOfRing 10 = .ok (.getfield 15, 3) := by decide +kernel
theorem dX0_isLeastOfRing_13 : decode cX0_isLeastOfRing 13 = .ok (.if_icmp .ge 20, 3) := by decide +kernel
theorem dX0_isLeastOfRing_16 : decode cX0_isLeastOfRing 16 = .ok (.iload_n 2, 1) := by decide +kernel
theorem dX0_isLeastOfRing_17 : decode cX0_isLeastOfRing 17 = .ok (.iload_n 1, 1) := by decide +kernel
theorem dX0_isLeastOfRing_18 : decode cX0_isLeastOfRing 18 = .ok (.if_icmp .le 15, 3) := by decide +kernel
theorem dX0_isLeastOfRing_21 : decode cX0_isLeastOfRing 21 = .ok (.aload_n 0, 1) := by decide +kernel
theorem dX0_isLeastOfRing_22 : decode cX0_isLeastOfRing 22 = .ok (.iload_n 2, 1) := by decide +kernel
theorem dX0_isLeastOfRing_23 : decode cX0_isLeastOfRing 23 = .ok (.invokevirtual 19, 3) := by decide +kernel
theorem dX0_isLeastOfRing_26 : decode cX0_isLeastOfRing 26 = .ok (.istore_n 2, 1) := by decide +kernel
theorem dX0_isLeastOfRing_27 : decode cX0_isLeastOfRing 27 = .ok (.iinc 3 1, 3) := by decide +kernel
theorem dX0_isLeastOfRing_30 : decode cX0_isLeastOfRing 30 = .ok (.goto (-22), 3) := by decide +kernel
theorem dX0_isLeastOfRing_33 : decode cX0_isLeastOfRing 33 = .ok (.iload_n 2, 1) := by decide +kernel
theorem dX0_isLeastOfRing_34 : decode cX0_isLeastOfRing 34 = .ok (.iload_n 1, 1) := by decide +kernel
theorem dX0_isLeastOfRing_35 : decode cX0_isLeastOfRing 35 = .ok (.if_icmp .ne 7, 3) := by decide +kernel
theorem dX0_isLeastOfRing_38 : decode cX0_isLeastOfRing 38 = .ok (.iconst 1, 1) := by decide +kernel
theorem dX0_isLeastOfRing_39 : decode cX0_isLeastOfRing 39 = .ok (.goto 4, 3) := by decide +kernel
theorem dX0_isLeastOfRing_42 : decode cX0_isLeastOfRing 42 = .ok (.iconst 0, 1) := by decide +kernel
theorem dX0_isLeastOfRing_43 : decode cX0_isLeastOfRing 43 = .ok (.ireturn, 1) := by decide +kernel
set_option maxRecDepth 20000 in
theorem ggX0_ringCount_X0_isLeastOfRing : GoodIn wsX0_ringCount wsX0_isLeastOfRing := goodIn_r _ [6, 1, 7, 8, 9, 5, 10, 11, 12, 13] (by decide +kernel) (by decide +kernel)
set_option maxRecDepth 20000 in
theorem gX0_ringCount_X0_isLeastOfRing : GoodIn wsX0_ringCount (wsV RX0 50 RX0 yX0_isLeastOfRing wsX0_isLeastOfRing) := goodIn_app (goodIn_of _ (by decide +kernel)) ggX0_ringCount_X0_isLeastOfRing
theorem dX0_ringCount_0 : decode cX0_ringCount 0 = .ok (.iconst 0, 1) := by decide +kernel
theorem dX0_ringCount_1 : decode cX0_ringCount 1 = .ok (.istore_n 1, 1) := by decide +kernel
theorem dX0_ringCount_2 : decode cX0_ringCount 2 = .ok (.iconst 0, 1) := by decide +kernel
theorem dX0_ringCount_3 : decode cX0_ringCount 3 = .ok (.istore_n 2, 1) := by decide +kernel
theorem dX0_ringCount_4 : decode cX0_ringCount 4 = .ok (.iload_n 2, 1) := by decide +kernel
theorem dX0_ringCount_5 : decode cX0_ringCount 5 = .ok (.aload_n 0, 1) := by decide +kernel
theorem dX0_ringCount_6 : decode cX0_ringCount 6 = .ok (.getfield 15, 3) := by decide +kernel
theorem dX0_ringCount_9 : decode cX0_ringCount 9 = .ok (.if_icmp .ge 20, 3) := by decide +kernel
theorem dX0_ringCount_12 : decode cX0_ringCount 12 = .ok (.aload_n 0, 1) := by decide +kernel
theorem dX0_ringCount_13 : decode cX0_ringCount 13 = .ok (.iload_n 2, 1) := by decide +kernel
theorem dX0_ringCount_14 : decode cX0_ringCount 14 = .ok (.invokevirtual 50, 3) := by decide +kernel
theorem dX0_ringCount_17 : decode cX0_ringCount 17 = .ok (.ifCond .eq 6, 3) := by decide +kernel
theorem dX0_ringCount_20 : decode cX0_ringCount 20 = .ok (.iinc 1 1, 3) := by decide +kernel
theorem dX0_ringCount_23 : decode cX0_ringCount 23 = .ok (.iinc 2 1, 3) := by decide +kernel
theorem dX0_ringCount_26 : decode cX0_ringCount 26 = .ok (.goto (-22), 3) := by decide +kernel
theorem dX0_ringCount_29 : decode cX0_ringCount 29 = .ok (.iload_n 1, 1) := by decide +kernel
theorem dX0_ringCount_30 : decode cX0_ringCount 30 = .ok (.ireturn, 1) := by decide +kernel
set_option maxRecDepth 20000 in
theorem ggX0_longestRing_X0_ringLength : GoodIn wsX0_longestRing wsX0_ringLength := goodIn_r _ [10, 1, 11, 12, 13, 9, 14, 15, 16, 17] (by decide +kernel) (by decide +kernel)
set_option maxRecDepth 20000 in
theorem gX0_longestRing_X0_ringLength : GoodIn wsX0_longestRing (wsV RX0 33 RX0 yX0_ringLength wsX0_ringLength) := goodIn_app (goodIn_of _ (by decide +kernel)) ggX0_longestRing_X0_ringLength
theorem dX0_longestRing_0 : decode cX0_longestRing 0 = .ok (.iconst 0, 1) := by decide +kernel
theorem dX0_longestRing_1 : decode cX0_longestRing 1 = .ok (.istore_n 1, 1) := by decide +kernel
theorem dX0_longestRing_2 : decode cX0_longestRing 2 = .ok (.iconst 0, 1) := by decide +kernel
theorem dX0_longestRing_3 : decode cX0_longestRing 3 = .ok (.istore_n 2, 1) := by decide +kernel
theorem dX0_longestRing_4 : decode cX0_longestRing 4 = .ok (.iload_n 2, 1) := by decide +kernel
theorem dX0_longestRing_5 : decode cX0_longestRing 5 = .ok (.aload_n 0, 1) := by decide +kernel
theorem dX0_longestRing_6 : decode cX0_longestRing 6 = .ok (.getfield 15, 3) := by decide +kernel
theorem dX0_longestRing_9 : decode cX0_longestRing 9 = .ok (.if_icmp .ge 19, 3) := by decide +kernel
theorem dX0_longestRing_12 : decode cX0_longestRing 12 = .ok (.iload_n 1, 1) := by decide +kernel
theorem dX0_longestRing_13 : decode cX0_longestRing 13 = .ok (.aload_n 0, 1) := by decide +kernel
theorem dX0_longestRing_14 : decode cX0_longestRing 14 = .ok (.iload_n 2, 1) := by decide +kernel
theorem dX0_longestRing_15 : decode cX0_longestRing 15 = .ok (.invokevirtual 33, 3) := by decide +kernel
theorem dX0_longestRing_18 : decode cX0_longestRing 18 = .ok (.invokestatic 54, 3) := by decide +kernel
theorem dX0_longestRing_21 : decode cX0_longestRing 21 = .ok (.istore_n 1, 1) := by decide +kernel
theorem dX0_longestRing_22 : decode cX0_longestRing 22 = .ok (.iinc 2 1, 3) := by decide +kernel
theorem dX0_longestRing_25 : decode cX0_longestRing 25 = .ok (.goto (-21), 3) := by decide +kernel
theorem dX0_longestRing_28 : decode cX0_longestRing 28 = .ok (.iload_n 1, 1) := by decide +kernel
theorem dX0_longestRing_29 : decode cX0_longestRing 29 = .ok (.ireturn, 1) := by decide +kernel
set_option maxRecDepth 20000 in
theorem ggX0_order_X0_ringLength : GoodIn wsX0_order wsX0_ringLength := goodIn_r _ [6, 1, 7, 8, 9, 5, 10, 11, 15, 16] (by decide +kernel) (by decide +kernel)
set_option maxRecDepth 20000 in
theorem gX0_order_X0_ringLength : GoodIn wsX0_order (wsV RX0 33 RX0 yX0_ringLength wsX0_ringLength) := goodIn_app (goodIn_of _ (by decide +kernel)) ggX0_order_X0_ringLength
set_option maxRecDepth 20000 in
theorem ggX0_order_X0_leastMultiple : GoodIn wsX0_order wsX0_leastMultiple := goodIn_r _ [14] (by decide +kernel) (by decide +kernel)
set_option maxRecDepth 20000 in
theorem gX0_order_X0_leastMultiple : GoodIn wsX0_order (va_wsS RX0 59 yX0_leastMultiple wsX0_leastMultiple) := goodIn_app (goodIn_of _ (by decide +kernel)) ggX0_order_X0_leastMultiple
theorem dX0_order_0 : decode cX0_order 0 = .ok (.iconst 1, 1) := by decide +kernel
theorem dX0_order_1 : decode cX0_order 1 = .ok (.istore_n 1, 1) := by decide +kernel
theorem dX0_order_2 : decode cX0_order 2 = .ok (.iconst 0, 1) := by decide +kernel
theorem dX0_order_3 : decode cX0_order 3 = .ok (.istore_n 2, 1) := by decide +kernel
theorem dX0_order_4 : decode cX0_order 4 = .ok (.iload_n 2, 1) := by decide +kernel
theorem dX0_order_5 : decode cX0_order 5 = .ok (.aload_n 0, 1) := by decide +kernel
theorem dX0_order_6 : decode cX0_order 6 = .ok (.getfield 15, 3) := by decide +kernel
theorem dX0_order_9 : decode cX0_order 9 = .ok (.if_icmp .ge 19, 3) := by decide +kernel
theorem dX0_order_12 : decode cX0_order 12 = .ok (.iload_n 1, 1) := by decide +kernel
theorem dX0_order_13 : decode cX0_order 13 = .ok (.aload_n 0, 1) := by decide +kernel
theorem dX0_order_14 : decode cX0_order 14 = .ok (.iload_n 2, 1) := by decide +kernel
theorem dX0_order_15 : decode cX0_order 15 = .ok (.invokevirtual 33, 3) := by decide +kernel
theorem dX0_order_18 : decode cX0_order 18 = .ok (.invokestatic 59, 3) := by decide +kernel
theorem dX0_order_21 : decode cX0_order 21 = .ok (.istore_n 1, 1) := by decide +kernel
theorem dX0_order_22 : decode cX0_order 22 = .ok (.iinc 2 1, 3) := by decide +kernel
theorem dX0_order_25 : decode cX0_order 25 = .ok (.goto (-21), 3) := by decide +kernel
theorem dX0_order_28 : decode cX0_order 28 = .ok (.iload_n 1, 1) := by decide +kernel
theorem dX0_order_29 : decode cX0_order 29 = .ok (.ireturn, 1) := by decide +kernel
theorem dX0_leastMultiple_0 : decode cX0_leastMultiple 0 = .ok (.iload_n 0, 1) := by decide +kernel
theorem dX0_leastMultiple_1 : decode cX0_leastMultiple 1 = .ok (.istore_n 2, 1) := by decide +kernel
theorem dX0_leastMultiple_2 : decode cX0_leastMultiple 2 = .ok (.iconst 1, 1) := by decide +kernel
theorem dX0_leastMultiple_3 : decode cX0_leastMultiple 3 = .ok (.istore_n 3, 1) := by decide +kernel
theorem dX0_leastMultiple_4 : decode cX0_leastMultiple 4 = .ok (.iload_n 3, 1) := by decide +kernel
theorem dX0_leastMultiple_5 : decode cX0_leastMultiple 5 = .ok (.iload_n 1, 1) := by decide +kernel
theorem dX0_leastMultiple_6 : decode cX0_leastMultiple 6 = .ok (.if_icmp .ge 19, 3) := by decide +kernel
theorem dX0_leastMultiple_9 : decode cX0_leastMultiple 9 = .ok (.iload_n 2, 1) := by decide +kernel
theorem dX0_leastMultiple_10 : decode cX0_leastMultiple 10 = .ok (.iload_n 1, 1) := by decide +kernel
theorem dX0_leastMultiple_11 : decode cX0_leastMultiple 11 = .ok (.irem, 1) := by decide +kernel
theorem dX0_leastMultiple_12 : decode cX0_leastMultiple 12 = .ok (.ifCond .eq 13, 3) := by decide +kernel
theorem dX0_leastMultiple_15 : decode cX0_leastMultiple 15 = .ok (.iload_n 2, 1) := by decide +kernel
theorem dX0_leastMultiple_16 : decode cX0_leastMultiple 16 = .ok (.iload_n 0, 1) := by decide +kernel
theorem dX0_leastMultiple_17 : decode cX0_leastMultiple 17 = .ok (.iadd, 1) := by decide +kernel
theorem dX0_leastMultiple_18 : decode cX0_leastMultiple 18 = .ok (.istore_n 2, 1) := by decide +kernel
theorem dX0_leastMultiple_19 : decode cX0_leastMultiple 19 = .ok (.iinc 3 1, 3) := by decide +kernel
theorem dX0_leastMultiple_22 : decode cX0_leastMultiple 22 = .ok (.goto (-18), 3) := by decide +kernel
theorem dX0_leastMultiple_25 : decode cX0_leastMultiple 25 = .ok (.iload_n 2, 1) := by decide +kernel
theorem dX0_leastMultiple_26 : decode cX0_leastMultiple 26 = .ok (.ireturn, 1) := by decide +kernel
set_option maxRecDepth 20000 in
theorem ggX0_ownPlaces_X0_bellAt : GoodIn wsX0_ownPlaces wsX0_bellAt := goodIn_r _ [6, 7, 8, 9] (by decide +kernel) (by decide +kernel)
set_option maxRecDepth 20000 in
theorem gX0_ownPlaces_X0_bellAt : GoodIn wsX0_ownPlaces (wsV RX0 19 RX0 yX0_bellAt wsX0_bellAt) := goodIn_app (goodIn_of _ (by decide +kernel)) ggX0_ownPlaces_X0_bellAt
theorem dX0_ownPlaces_0 : decode cX0_ownPlaces 0 = .ok (.iconst 0, 1) := by decide +kernel
theorem dX0_ownPlaces_1 : decode cX0_ownPlaces 1 = .ok (.istore_n 1, 1) := by decide +kernel
theorem dX0_ownPlaces_2 : decode cX0_ownPlaces 2 = .ok (.iconst 0, 1) := by decide +kernel
theorem dX0_ownPlaces_3 : decode cX0_ownPlaces 3 = .ok (.istore_n 2, 1) := by decide +kernel
theorem dX0_ownPlaces_4 : decode cX0_ownPlaces 4 = .ok (.iload_n 2, 1) := by decide +kernel
theorem dX0_ownPlaces_5 : decode cX0_ownPlaces 5 = .ok (.aload_n 0, 1) := by decide +kernel
theorem dX0_ownPlaces_6 : decode cX0_ownPlaces 6 = .ok (.getfield 15, 3) := by decide +kernel
theorem dX0_ownPlaces_9 : decode cX0_ownPlaces 9 = .ok (.if_icmp .ge 21, 3) := by decide +kernel
theorem dX0_ownPlaces_12 : decode cX0_ownPlaces 12 = .ok (.aload_n 0, 1) := by decide +kernel
theorem dX0_ownPlaces_13 : decode cX0_ownPlaces 13 = .ok (.iload_n 2, 1) := by decide +kernel
theorem dX0_ownPlaces_14 : decode cX0_ownPlaces 14 = .ok (.invokevirtual 19, 3) := by decide +kernel
theorem dX0_ownPlaces_17 : decode cX0_ownPlaces 17 = .ok (.iload_n 2, 1) := by decide +kernel
theorem dX0_ownPlaces_18 : decode cX0_ownPlaces 18 = .ok (.if_icmp .ne 6, 3) := by decide +kernel
theorem dX0_ownPlaces_21 : decode cX0_ownPlaces 21 = .ok (.iinc 1 1, 3) := by decide +kernel
theorem dX0_ownPlaces_24 : decode cX0_ownPlaces 24 = .ok (.iinc 2 1, 3) := by decide +kernel
theorem dX0_ownPlaces_27 : decode cX0_ownPlaces 27 = .ok (.goto (-23), 3) := by decide +kernel
theorem dX0_ownPlaces_30 : decode cX0_ownPlaces 30 = .ok (.iload_n 1, 1) := by decide +kernel
theorem dX0_ownPlaces_31 : decode cX0_ownPlaces 31 = .ok (.ireturn, 1) := by decide +kernel
theorem dX1_init_0 : decode cX1_init 0 = .ok (.aload_n 0, 1) := by decide +kernel
theorem dX1_init_1 : decode cX1_init 1 = .ok (.invokespecial 3, 3) := by decide +kernel
theorem dX1_init_4 : decode cX1_init 4 = .ok (.aload_n 0, 1) := by decide +kernel
theorem dX1_init_5 : decode cX1_init 5 = .ok (.bipush 10, 2) := by decide +kernel
theorem dX1_init_7 : decode cX1_init 7 = .ok (.newarray .int, 2) := by decide +kernel
theorem dX1_init_9 : decode cX1_init 9 = .ok (.putfield 9, 3) := by decide +kernel
theorem dX1_init_12 : decode cX1_init 12 = .ok (.aload_n 0, 1) := by decide +kernel
theorem dX1_init_13 : decode cX1_init 13 = .ok (.iconst 0, 1) := by decide +kernel
theorem dX1_init_14 : decode cX1_init 14 = .ok (.putfield 15, 3) := by decide +kernel
theorem dX1_init_17 : decode cX1_init 17 = .ok (.return_, 1) := by decide +kernel
theorem dX1_keeps_0 : decode cX1_keeps 0 = .ok (.iload_n 0, 1) := by decide +kernel
theorem dX1_keeps_1 : decode cX1_keeps 1 = .ok (.iload_n 1, 1) := by decide +kernel
theorem dX1_keeps_2 : decode cX1_keeps 2 = .ok (.ishr, 1) := by decide +kernel
theorem dX1_keeps_3 : decode cX1_keeps 3 = .ok (.iconst 1, 1) := by decide +kernel
theorem dX1_keeps_4 : decode cX1_keeps 4 = .ok (.iand, 1) := by decide +kernel
theorem dX1_keeps_5 : decode cX1_keeps 5 = .ok (.iconst 1, 1) := by decide +kernel
theorem dX1_keeps_6 : decode cX1_keeps 6 = .ok (.if_icmp .ne 7, 3) := by decide +kernel
theorem dX1_keeps_9 : decode cX1_keeps 9 = .ok (.iconst 1, 1) := by decide +kernel
theorem dX1_keeps_10 : decode cX1_keeps 10 = .ok (.goto 4, 3) := by decide +kernel
theorem dX1_keeps_13 : decode cX1_keeps 13 = .ok (.iconst 0, 1) := by decide +kernel
theorem dX1_keeps_14 : decode cX1_keeps 14 = .ok (.ireturn, 1) := by decide +kernel
set_option maxRecDepth 20000 in
theorem ggX1_isStep_X1_keeps : GoodIn wsX1_isStep wsX1_keeps := goodIn_r _ [4] (by decide +kernel) (by decide +kernel)
set_option maxRecDepth 20000 in
theorem gX1_isStep_X1_keeps : GoodIn wsX1_isStep (va_wsS RX1 19 yX1_keeps wsX1_keeps) := goodIn_app (goodIn_of _ (by decide +kernel)) ggX1_isStep_X1_keeps
theorem dX1_isStep_0 : decode cX1_isStep 0 = .ok (.iload_n 0, 1) := by decide +kernel
theorem dX1_isStep_1 : decode cX1_isStep 1 = .ok (.ifCond .lt 10, 3) := by decide +kernel
theorem dX1_isStep_4 : decode cX1_isStep 4 = .ok (.iload_n 0, 1) := by decide +kernel
theorem dX1_isStep_5 : decode cX1_isStep 5 = .ok (.iconst 1, 1) := by decide +kernel
theorem dX1_isStep_6 : decode cX1_isStep 6 = .ok (.iload_n 1, 1) := by decide +kernel
theorem dX1_isStep_7 : decode cX1_isStep 7 = .ok (.ishl, 1) := by decide +kernel
theorem dX1_isStep_8 : decode cX1_isStep 8 = .ok (.if_icmp .lt 5, 3) := by decide +kernel
theorem dX1_isStep_11 : decode cX1_isStep 11 = .ok (.iconst 0, 1) := by decide +kernel
theorem dX1_isStep_12 : decode cX1_isStep 12 = .ok (.ireturn, 1) := by decide +kernel
theorem dX1_isStep_13 : decode cX1_isStep 13 = .ok (.iconst 0, 1) := by decide +kernel
theorem dX1_isStep_14 : decode cX1_isStep 14 = .ok (.istore_n 2, 1) := by decide +kernel
theorem dX1_isStep_15 : decode cX1_isStep 15 = .ok (.iload_n 2, 1) := by decide +kernel
theorem dX1_isStep_16 : decode cX1_isStep 16 = .ok (.iload_n 1, 1) := by decide +kernel
theorem dX1_isStep_17 : decode cX1_isStep 17 = .ok (.if_icmp .ge 42, 3) := by decide +kernel
theorem dX1_isStep_20 : decode cX1_isStep 20 = .ok (.iload_n 0, 1) := by decide +kernel
theorem dX1_isStep_21 : decode cX1_isStep 21 = .ok (.iload_n 2, 1) := by decide +kernel
theorem dX1_isStep_22 : decode cX1_isStep 22 = .ok (.invokestatic 19, 3) := by decide +kernel
theorem dX1_isStep_25 : decode cX1_isStep 25 = .ok (.ifCond .eq 9, 3) := by decide +kernel
theorem dX1_isStep_28 : decode cX1_isStep 28 = .ok (.iinc 2 1, 3) := by decide +kernel
theorem dX1_isStep_31 : decode cX1_isStep 31 = .ok (.goto (-16), 3) := by decide +kernel
theorem dX1_isStep_34 : decode cX1_isStep 34 = .ok (.iload_n 2, 1) := by decide +kernel
theorem dX1_isStep_35 : decode cX1_isStep 35 = .ok (.iconst 1, 1) := by decide +kernel
theorem dX1_isStep_36 : decode cX1_isStep 36 = .ok (.iadd, 1) := by decide +kernel
theorem dX1_isStep_37 : decode cX1_isStep 37 = .ok (.iload_n 1, 1) := by decide +kernel
theorem dX1_isStep_38 : decode cX1_isStep 38 = .ok (.if_icmp .ge 19, 3) := by decide +kernel
theorem dX1_isStep_41 : decode cX1_isStep 41 = .ok (.iload_n 0, 1) := by decide +kernel
theorem dX1_isStep_42 : decode cX1_isStep 42 = .ok (.iload_n 2, 1) := by decide +kernel
theorem dX1_isStep_43 : decode cX1_isStep 43 = .ok (.iconst 1, 1) := by decide +kernel
theorem dX1_isStep_44 : decode cX1_isStep 44 = .ok (.iadd, 1) := by decide +kernel
theorem dX1_isStep_45 : decode cX1_isStep 45 = .ok (.invokestatic 19, 3) := by decide +kernel
theorem dX1_isStep_48 : decode cX1_isStep 48 = .ok (.ifCond .ne 9, 3) := by decide +kernel
theorem dX1_isStep_51 : decode cX1_isStep 51 = .ok (.iinc 2 2, 3) := by decide +kernel
theorem dX1_isStep_54 : decode cX1_isStep 54 = .ok (.goto (-39), 3) := by decide +kernel
theorem dX1_isStep_57 : decode cX1_isStep 57 = .ok (.iconst 0, 1) := by decide +kernel
theorem dX1_isStep_58 : decode cX1_isStep 58 = .ok (.ireturn, 1) := by decide +kernel
theorem dX1_isStep_59 : decode cX1_isStep 59 = .ok (.iconst 1, 1) := by decide +kernel
theorem dX1_isStep_60 : decode cX1_isStep 60 = .ok (.ireturn, 1) := by decide +kernel
theorem dX1_length_0 : decode cX1_length 0 = .ok (.aload_n 0, 1) := by decide +kernel
theorem dX1_length_1 : decode cX1_length 1 = .ok (.getfield 15, 3) := by decide +kernel
theorem dX1_length_4 : decode cX1_length 4 = .ok (.ireturn, 1) := by decide +kernel
theorem dX1_keptAt_0 : decode cX1_keptAt 0 = .ok (.iload_n 1, 1) := by decide +kernel
theorem dX1_keptAt_1 : decode cX1_keptAt 1 = .ok (.ifCond .lt 21, 3) := by decide +kernel
theorem dX1_keptAt_4 : decode cX1_keptAt 4 = .ok (.iload_n 1, 1) := by decide +kernel
theorem dX1_keptAt_5 : decode cX1_keptAt 5 = .ok (.aload_n 0, 1) := by decide +kernel
theorem dX1_keptAt_6 : decode cX1_keptAt 6 = .ok (.getfield 9, 3) := by decide +kernel
theorem dX1_keptAt_9 : decode cX1_keptAt 9 = .ok (.arraylength, 1) := by decide +kernel
theorem dX1_keptAt_10 : decode cX1_keptAt 10 = .ok (.if_icmp .ge 12, 3) := by decide +kernel
theorem dX1_keptAt_13 : decode cX1_keptAt 13 = .ok (.aload_n 0, 1) := by decide +kernel
theorem dX1_keptAt_14 : decode cX1_keptAt 14 = .ok (.getfield 9, 3) := by decide +kernel
theorem dX1_keptAt_17 : decode cX1_keptAt 17 = .ok (.iload_n 1, 1) := by decide +kernel
theorem dX1_keptAt_18 : decode cX1_keptAt 18 = .ok (.iaload, 1) := by decide +kernel
theorem dX1_keptAt_19 : decode cX1_keptAt 19 = .ok (.goto 4, 3) := by decide +kernel
theorem dX1_keptAt_22 : decode cX1_keptAt 22 = .ok (.iconst 0, 1) := by decide +kernel
theorem dX1_keptAt_23 : decode cX1_keptAt 23 = .ok (.ireturn, 1) := by decide +kernel
theorem dX1_add_0 : decode cX1_add 0 = .ok (.aload_n 0, 1) := by decide +kernel
theorem dX1_add_1 : decode cX1_add 1 = .ok (.getfield 15, 3) := by decide +kernel
theorem dX1_add_4 : decode cX1_add 4 = .ok (.aload_n 0, 1) := by decide +kernel
theorem dX1_add_5 : decode cX1_add 5 = .ok (.getfield 9, 3) := by decide +kernel
theorem dX1_add_8 : decode cX1_add 8 = .ok (.arraylength, 1) := by decide +kernel
theorem dX1_add_9 : decode cX1_add 9 = .ok (.if_icmp .ge 23, 3) := by decide +kernel
theorem dX1_add_12 : decode cX1_add 12 = .ok (.aload_n 0, 1) := by decide +kernel
theorem dX1_add_13 : decode cX1_add 13 = .ok (.getfield 9, 3) := by decide +kernel
theorem dX1_add_16 : decode cX1_add 16 = .ok (.aload_n 0, 1) := by decide +kernel
theorem dX1_add_17 : decode cX1_add 17 = .ok (.getfield 15, 3) := by decide +kernel
theorem dX1_add_20 : decode cX1_add 20 = .ok (.iload_n 1, 1) := by decide +kernel
theorem dX1_add_21 : decode cX1_add 21 = .ok (.iastore, 1) := by decide +kernel
theorem dX1_add_22 : decode cX1_add 22 = .ok (.aload_n 0, 1) := by decide +kernel
theorem dX1_add_23 : decode cX1_add 23 = .ok (.dup, 1) := by decide +kernel
theorem dX1_add_24 : decode cX1_add 24 = .ok (.getfield 15, 3) := by decide +kernel
theorem dX1_add_27 : decode cX1_add 27 = .ok (.iconst 1, 1) := by decide +kernel
theorem dX1_add_28 : decode cX1_add 28 = .ok (.iadd, 1) := by decide +kernel
theorem dX1_add_29 : decode cX1_add 29 = .ok (.putfield 15, 3) := by decide +kernel
theorem dX1_add_32 : decode cX1_add 32 = .ok (.return_, 1) := by decide +kernel
theorem dX1_removeAll_0 : decode cX1_removeAll 0 = .ok (.aload_n 0, 1) := by decide +kernel
theorem dX1_removeAll_1 : decode cX1_removeAll 1 = .ok (.iconst 0, 1) := by decide +kernel
theorem dX1_removeAll_2 : decode cX1_removeAll 2 = .ok (.putfield 15, 3) := by decide +kernel
theorem dX1_removeAll_5 : decode cX1_removeAll 5 = .ok (.return_, 1) := by decide +kernel
set_option maxRecDepth 20000 in
theorem ggX1_ringOn_X1_keptAt : GoodIn wsX1_ringOn wsX1_keptAt := goodIn_r _ [6, 7, 30, 31] (by decide +kernel) (by decide +kernel)
set_option maxRecDepth 20000 in
theorem gX1_ringOn_X1_keptAt : GoodIn wsX1_ringOn (wsV RX1 23 RX1 yX1_keptAt wsX1_keptAt) := goodIn_app (goodIn_of _ (by decide +kernel)) ggX1_ringOn_X1_keptAt
set_option maxRecDepth 20000 in
theorem ggX1_ringOn_X0_ringStep : GoodIn wsX1_ringOn wsX0_ringStep := goodIn_r _ [12, 13, 14, 15, 5, 16, 17, 18, 19, 11, 20, 21, 22, 23, 24, 25, 26, 27, 28, 29, 32, 33] (by decide +kernel) (by decide +kernel)
set_option maxRecDepth 20000 in
theorem gX1_ringOn_X0_ringStep : GoodIn wsX1_ringOn (wsV RX1 27 RX0 yX0_ringStep wsX0_ringStep) := goodIn_app (goodIn_of _ (by decide +kernel)) ggX1_ringOn_X0_ringStep
theorem dX1_ringOn_0 : decode cX1_ringOn 0 = .ok (.aload_n 0, 1) := by decide +kernel
theorem dX1_ringOn_1 : decode cX1_ringOn 1 = .ok (.getfield 15, 3) := by decide +kernel
theorem dX1_ringOn_4 : decode cX1_ringOn 4 = .ok (.ifCond .le 17, 3) := by decide +kernel
theorem dX1_ringOn_7 : decode cX1_ringOn 7 = .ok (.aload_n 1, 1) := by decide +kernel
theorem dX1_ringOn_8 : decode cX1_ringOn 8 = .ok (.aload_n 0, 1) := by decide +kernel
theorem dX1_ringOn_9 : decode cX1_ringOn 9 = .ok (.iload_n 2, 1) := by decide +kernel
theorem dX1_ringOn_10 : decode cX1_ringOn 10 = .ok (.aload_n 0, 1) := by decide +kernel
theorem dX1_ringOn_11 : decode cX1_ringOn 11 = .ok (.getfield 15, 3) := by decide +kernel
theorem dX1_ringOn_14 : decode cX1_ringOn 14 = .ok (.irem, 1) := by decide +kernel
theorem dX1_ringOn_15 : decode cX1_ringOn 15 = .ok (.invokevirtual 23, 3) := by decide +kernel
theorem dX1_ringOn_18 : decode cX1_ringOn 18 = .ok (.invokevirtual 27, 3) := by decide +kernel
theorem dX1_ringOn_21 : decode cX1_ringOn 21 = .ok (.return_, 1) := by decide +kernel
theorem dX2_init_0 : decode cX2_init 0 = .ok (.aload_n 0, 1) := by decide +kernel
theorem dX2_init_1 : decode cX2_init 1 = .ok (.invokespecial 3, 3) := by decide +kernel
theorem dX2_init_4 : decode cX2_init 4 = .ok (.aload_n 0, 1) := by decide +kernel
theorem dX2_init_5 : decode cX2_init 5 = .ok (.sipush 201, 3) := by decide +kernel
theorem dX2_init_8 : decode cX2_init 8 = .ok (.newarray .int, 2) := by decide +kernel
theorem dX2_init_10 : decode cX2_init 10 = .ok (.putfield 9, 3) := by decide +kernel
theorem dX2_init_13 : decode cX2_init 13 = .ok (.aload_n 0, 1) := by decide +kernel
theorem dX2_init_14 : decode cX2_init 14 = .ok (.iconst 0, 1) := by decide +kernel
theorem dX2_init_15 : decode cX2_init 15 = .ok (.putfield 15, 3) := by decide +kernel
theorem dX2_init_18 : decode cX2_init 18 = .ok (.return_, 1) := by decide +kernel
theorem dX2_size_0 : decode cX2_size 0 = .ok (.aload_n 0, 1) := by decide +kernel
theorem dX2_size_1 : decode cX2_size 1 = .ok (.getfield 15, 3) := by decide +kernel
theorem dX2_size_4 : decode cX2_size 4 = .ok (.ireturn, 1) := by decide +kernel
theorem dX2_removeAll_0 : decode cX2_removeAll 0 = .ok (.aload_n 0, 1) := by decide +kernel
theorem dX2_removeAll_1 : decode cX2_removeAll 1 = .ok (.iconst 0, 1) := by decide +kernel
theorem dX2_removeAll_2 : decode cX2_removeAll 2 = .ok (.putfield 15, 3) := by decide +kernel
theorem dX2_removeAll_5 : decode cX2_removeAll 5 = .ok (.return_, 1) := by decide +kernel
theorem dX2_add_0 : decode cX2_add 0 = .ok (.iconst 0, 1) := by decide +kernel
theorem dX2_add_1 : decode cX2_add 1 = .ok (.istore_n 2, 1) := by decide +kernel
theorem dX2_add_2 : decode cX2_add 2 = .ok (.iload_n 2, 1) := by decide +kernel
theorem dX2_add_3 : decode cX2_add 3 = .ok (.aload_n 0, 1) := by decide +kernel
theorem dX2_add_4 : decode cX2_add 4 = .ok (.getfield 15, 3) := by decide +kernel
theorem dX2_add_7 : decode cX2_add 7 = .ok (.if_icmp .ge 20, 3) := by decide +kernel
theorem dX2_add_10 : decode cX2_add 10 = .ok (.aload_n 0, 1) := by decide +kernel
theorem dX2_add_11 : decode cX2_add 11 = .ok (.getfield 9, 3) := by decide +kernel
theorem dX2_add_14 : decode cX2_add 14 = .ok (.iload_n 2, 1) := by decide +kernel
theorem dX2_add_15 : decode cX2_add 15 = .ok (.iaload, 1) := by decide +kernel
theorem dX2_add_16 : decode cX2_add 16 = .ok (.iload_n 1, 1) := by decide +kernel
theorem dX2_add_17 : decode cX2_add 17 = .ok (.if_icmp .ne 4, 3) := by decide +kernel
theorem dX2_add_20 : decode cX2_add 20 = .ok (.return_, 1) := by decide +kernel
theorem dX2_add_21 : decode cX2_add 21 = .ok (.iinc 2 1, 3) := by decide +kernel
theorem dX2_add_24 : decode cX2_add 24 = .ok (.goto (-22), 3) := by decide +kernel
theorem dX2_add_27 : decode cX2_add 27 = .ok (.aload_n 0, 1) := by decide +kernel
theorem dX2_add_28 : decode cX2_add 28 = .ok (.getfield 15, 3) := by decide +kernel
theorem dX2_add_31 : decode cX2_add 31 = .ok (.aload_n 0, 1) := by decide +kernel
theorem dX2_add_32 : decode cX2_add 32 = .ok (.getfield 9, 3) := by decide +kernel
theorem dX2_add_35 : decode cX2_add 35 = .ok (.arraylength, 1) := by decide +kernel
theorem dX2_add_36 : decode cX2_add 36 = .ok (.if_icmp .ge 23, 3) := by decide +kernel
theorem dX2_add_39 : decode cX2_add 39 = .ok (.aload_n 0, 1) := by decide +kernel
theorem dX2_add_40 : decode cX2_add 40 = .ok (.getfield 9, 3) := by decide +kernel
theorem dX2_add_43 : decode cX2_add 43 = .ok (.aload_n 0, 1) := by decide +kernel
theorem dX2_add_44 : decode cX2_add 44 = .ok (.getfield 15, 3) := by decide +kernel
theorem dX2_add_47 : decode cX2_add 47 = .ok (.iload_n 1, 1) := by decide +kernel
theorem dX2_add_48 : decode cX2_add 48 = .ok (.iastore, 1) := by decide +kernel
theorem dX2_add_49 : decode cX2_add 49 = .ok (.aload_n 0, 1) := by decide +kernel
theorem dX2_add_50 : decode cX2_add 50 = .ok (.dup, 1) := by decide +kernel
theorem dX2_add_51 : decode cX2_add 51 = .ok (.getfield 15, 3) := by decide +kernel
theorem dX2_add_54 : decode cX2_add 54 = .ok (.iconst 1, 1) := by decide +kernel
theorem dX2_add_55 : decode cX2_add 55 = .ok (.iadd, 1) := by decide +kernel
theorem dX2_add_56 : decode cX2_add 56 = .ok (.putfield 15, 3) := by decide +kernel
theorem dX2_add_59 : decode cX2_add 59 = .ok (.return_, 1) := by decide +kernel
set_option maxRecDepth 20000 in
theorem ggX3_init_X0_init : GoodIn wsX3_init wsX0_init := goodIn_r _ [23, 24, 2, 3, 25, 26, 27, 48, 49] (by decide +kernel) (by decide +kernel)
set_option maxRecDepth 20000 in
theorem gX3_init_X0_init : GoodIn wsX3_init (wsX0_init) := ggX3_init_X0_init
set_option maxRecDepth 20000 in
theorem ggX3_init_X1_init : GoodIn wsX3_init wsX1_init := goodIn_r _ [30, 31, 2, 3, 25, 32, 33, 50, 51] (by decide +kernel) (by decide +kernel)
set_option maxRecDepth 20000 in
theorem gX3_init_X1_init : GoodIn wsX3_init (wsX1_init) := ggX3_init_X1_init
set_option maxRecDepth 20000 in
theorem ggX3_init_X2_init : GoodIn wsX3_init wsX2_init := goodIn_r _ [36, 37, 2, 3, 25, 38, 39, 52, 53] (by decide +kernel) (by decide +kernel)
set_option maxRecDepth 20000 in
theorem gX3_init_X2_init : GoodIn wsX3_init (wsX2_init) := ggX3_init_X2_init
theorem dX3_init_0 : decode cX3_init 0 = .ok (.aload_n 0, 1) := by decide +kernel
theorem dX3_init_1 : decode cX3_init 1 = .ok (.invokespecial 1, 3) := by decide +kernel
theorem dX3_init_4 : decode cX3_init 4 = .ok (.aload_n 0, 1) := by decide +kernel
theorem dX3_init_5 : decode cX3_init 5 = .ok (.bipush 16, 2) := by decide +kernel
theorem dX3_init_7 : decode cX3_init 7 = .ok (.anewarray 9, 3) := by decide +kernel
theorem dX3_init_10 : decode cX3_init 10 = .ok (.putfield 11, 3) := by decide +kernel
theorem dX3_init_13 : decode cX3_init 13 = .ok (.iconst 0, 1) := by decide +kernel
theorem dX3_init_14 : decode cX3_init 14 = .ok (.istore_n 1, 1) := by decide +kernel
theorem dX3_init_15 : decode cX3_init 15 = .ok (.iload_n 1, 1) := by decide +kernel
theorem dX3_init_16 : decode cX3_init 16 = .ok (.aload_n 0, 1) := by decide +kernel
theorem dX3_init_17 : decode cX3_init 17 = .ok (.getfield 11, 3) := by decide +kernel
theorem dX3_init_20 : decode cX3_init 20 = .ok (.arraylength, 1) := by decide +kernel
theorem dX3_init_21 : decode cX3_init 21 = .ok (.if_icmp .ge 22, 3) := by decide +kernel
theorem dX3_init_24 : decode cX3_init 24 = .ok (.aload_n 0, 1) := by decide +kernel
theorem dX3_init_25 : decode cX3_init 25 = .ok (.getfield 11, 3) := by decide +kernel
theorem dX3_init_28 : decode cX3_init 28 = .ok (.iload_n 1, 1) := by decide +kernel
theorem dX3_init_29 : decode cX3_init 29 = .ok (.new 9, 3) := by decide +kernel
theorem dX3_init_32 : decode cX3_init 32 = .ok (.dup, 1) := by decide +kernel
theorem dX3_init_33 : decode cX3_init 33 = .ok (.invokespecial 15, 3) := by decide +kernel
theorem dX3_init_36 : decode cX3_init 36 = .ok (.aastore, 1) := by decide +kernel
theorem dX3_init_37 : decode cX3_init 37 = .ok (.iinc 1 1, 3) := by decide +kernel
theorem dX3_init_40 : decode cX3_init 40 = .ok (.goto (-25), 3) := by decide +kernel
theorem dX3_init_43 : decode cX3_init 43 = .ok (.aload_n 0, 1) := by decide +kernel
theorem dX3_init_44 : decode cX3_init 44 = .ok (.new 16, 3) := by decide +kernel
theorem dX3_init_47 : decode cX3_init 47 = .ok (.dup, 1) := by decide +kernel
theorem dX3_init_48 : decode cX3_init 48 = .ok (.invokespecial 18, 3) := by decide +kernel
theorem dX3_init_51 : decode cX3_init 51 = .ok (.putfield 19, 3) := by decide +kernel
theorem dX3_init_54 : decode cX3_init 54 = .ok (.aload_n 0, 1) := by decide +kernel
theorem dX3_init_55 : decode cX3_init 55 = .ok (.new 9, 3) := by decide +kernel
theorem dX3_init_58 : decode cX3_init 58 = .ok (.dup, 1) := by decide +kernel
theorem dX3_init_59 : decode cX3_init 59 = .ok (.invokespecial 15, 3) := by decide +kernel
theorem dX3_init_62 : decode cX3_init 62 = .ok (.putfield 23, 3) := by decide +kernel
theorem dX3_init_65 : decode cX3_init 65 = .ok (.aload_n 0, 1) := by decide +kernel
theorem dX3_init_66 : decode cX3_init 66 = .ok (.new 9, 3) := by decide +kernel
theorem dX3_init_69 : decode cX3_init 69 = .ok (.dup, 1) := by decide +kernel
theorem dX3_init_70 : decode cX3_init 70 = .ok (.invokespecial 15, 3) := by decide +kernel
theorem dX3_init_73 : decode cX3_init 73 = .ok (.putfield 27, 3) := by decide +kernel
theorem dX3_init_76 : decode cX3_init 76 = .ok (.aload_n 0, 1) := by decide +kernel
theorem dX3_init_77 : decode cX3_init 77 = .ok (.new 30, 3) := by decide +kernel
theorem dX3_init_80 : decode cX3_init 80 = .ok (.dup, 1) := by decide +kernel
theorem dX3_init_81 : decode cX3_init 81 = .ok (.invokespecial 32, 3) := by decide +kernel
theorem dX3_init_84 : decode cX3_init 84 = .ok (.putfield 33, 3) := by decide +kernel
theorem dX3_init_87 : decode cX3_init 87 = .ok (.aload_n 0, 1) := by decide +kernel
theorem dX3_init_88 : decode cX3_init 88 = .ok (.iconst 5, 1) := by decide +kernel
theorem dX3_init_89 : decode cX3_init 89 = .ok (.putfield 37, 3) := by decide +kernel
theorem dX3_init_92 : decode cX3_init 92 = .ok (.aload_n 0, 1) := by decide +kernel
theorem dX3_init_93 : decode cX3_init 93 = .ok (.iconst 0, 1) := by decide +kernel
theorem dX3_init_94 : decode cX3_init 94 = .ok (.putfield 41, 3) := by decide +kernel
theorem dX3_init_97 : decode cX3_init 97 = .ok (.aload_n 0, 1) := by decide +kernel
theorem dX3_init_98 : decode cX3_init 98 = .ok (.iconst 0, 1) := by decide +kernel
theorem dX3_init_99 : decode cX3_init 99 = .ok (.putfield 44, 3) := by decide +kernel
theorem dX3_init_102 : decode cX3_init 102 = .ok (.return_, 1) := by decide +kernel
set_option maxRecDepth 20000 in
theorem ggX3_setBells_X1_removeAll : GoodIn wsX3_setBells wsX1_removeAll := goodIn_r _ [10, 11, 20, 21] (by decide +kernel) (by decide +kernel)
set_option maxRecDepth 20000 in
theorem gX3_setBells_X1_removeAll : GoodIn wsX3_setBells (wsV RX3 54 RX1 yX1_removeAll wsX1_removeAll) := goodIn_app (goodIn_of _ (by decide +kernel)) ggX3_setBells_X1_removeAll
theorem dX3_setBells_0 : decode cX3_setBells 0 = .ok (.iload_n 1, 1) := by decide +kernel
theorem dX3_setBells_1 : decode cX3_setBells 1 = .ok (.iconst 2, 1) := by decide +kernel
theorem dX3_setBells_2 : decode cX3_setBells 2 = .ok (.if_icmp .lt 9, 3) := by decide +kernel
theorem dX3_setBells_5 : decode cX3_setBells 5 = .ok (.iload_n 1, 1) := by decide +kernel
theorem dX3_setBells_6 : decode cX3_setBells 6 = .ok (.bipush 8, 2) := by decide +kernel
theorem dX3_setBells_8 : decode cX3_setBells 8 = .ok (.if_icmp .le 13, 3) := by decide +kernel
theorem dX3_setBells_11 : decode cX3_setBells 11 = .ok (.new 47, 3) := by decide +kernel
theorem dX3_setBells_14 : decode cX3_setBells 14 = .ok (.dup, 1) := by decide +kernel
theorem dX3_setBells_15 : decode cX3_setBells 15 = .ok (.ldc 49, 2) := by decide +kernel
theorem dX3_setBells_17 : decode cX3_setBells 17 = .ok (.invokespecial 51, 3) := by decide +kernel
theorem dX3_setBells_20 : decode cX3_setBells 20 = .ok (.athrow, 1) := by decide +kernel
theorem dX3_setBells_21 : decode cX3_setBells 21 = .ok (.aload_n 0, 1) := by decide +kernel
theorem dX3_setBells_22 : decode cX3_setBells 22 = .ok (.getfield 37, 3) := by decide +kernel
theorem dX3_setBells_25 : decode cX3_setBells 25 = .ok (.istore_n 2, 1) := by decide +kernel
theorem dX3_setBells_26 : decode cX3_setBells 26 = .ok (.aload_n 0, 1) := by decide +kernel
theorem dX3_setBells_27 : decode cX3_setBells 27 = .ok (.iload_n 1, 1) := by decide +kernel
theorem dX3_setBells_28 : decode cX3_setBells 28 = .ok (.putfield 37, 3) := by decide +kernel
theorem dX3_setBells_31 : decode cX3_setBells 31 = .ok (.aload_n 0, 1) := by decide +kernel
theorem dX3_setBells_32 : decode cX3_setBells 32 = .ok (.iconst 0, 1) := by decide +kernel
theorem dX3_setBells_33 : decode cX3_setBells 33 = .ok (.putfield 41, 3) := by decide +kernel
theorem dX3_setBells_36 : decode cX3_setBells 36 = .ok (.aload_n 0, 1) := by decide +kernel
theorem dX3_setBells_37 : decode cX3_setBells 37 = .ok (.getfield 19, 3) := by decide +kernel
theorem dX3_setBells_40 : decode cX3_setBells 40 = .ok (.invokevirtual 54, 3) := by decide +kernel
theorem dX3_setBells_43 : decode cX3_setBells 43 = .ok (.iload_n 2, 1) := by decide +kernel
theorem dX3_setBells_44 : decode cX3_setBells 44 = .ok (.ireturn, 1) := by decide +kernel
set_option maxRecDepth 20000 in
theorem ggX3_write_X3_changesOf : GoodIn wsX3_write wsX3_changesOf := goodIn_r _ [8] (by decide +kernel) (by decide +kernel)
set_option maxRecDepth 20000 in
theorem gX3_write_X3_changesOf : GoodIn wsX3_write (va_wsS RX3 57 yX3_changesOf wsX3_changesOf) := goodIn_app (goodIn_of _ (by decide +kernel)) ggX3_write_X3_changesOf
set_option maxRecDepth 20000 in
theorem ggX3_write_X3_openPage : GoodIn wsX3_write wsX3_openPage := goodIn_ca (goodIn_r _ [12, 13, 14, 4, 15, 35, 36, 37, 38, 39, 40, 41, 42] (by decide +kernel) (by decide +kernel)) (goodIn_sub (fun _ h => List.mem_cons_of_mem _ (List.mem_append_right _ h)) (by decide +kernel))
set_option maxRecDepth 20000 in
theorem gX3_write_X3_openPage : GoodIn wsX3_write (wsV RX3 66 RX3 yX3_openPage wsX3_openPage) := goodIn_app (goodIn_of _ (by decide +kernel)) ggX3_write_X3_openPage
set_option maxRecDepth 20000 in
theorem ggX3_write_X0_setRank : GoodIn wsX3_write wsX0_setRank := goodIn_r _ [20, 21, 22, 23, 24, 19, 25, 26, 27, 28, 29, 30, 31, 32, 33, 34, 43, 44] (by decide +kernel) (by decide +kernel)
set_option maxRecDepth 20000 in
theorem gX3_write_X0_setRank : GoodIn wsX3_write (wsV RX3 70 RX0 yX0_setRank wsX0_setRank) := goodIn_app (goodIn_of _ (by decide +kernel)) ggX3_write_X0_setRank
theorem dX3_write_0 : decode cX3_write 0 = .ok (.iload_n 1, 1) := by decide +kernel
theorem dX3_write_1 : decode cX3_write 1 = .ok (.ifCond .lt 14, 3) := by decide +kernel
theorem dX3_write_4 : decode cX3_write 4 = .ok (.iload_n 1, 1) := by decide +kernel
theorem dX3_write_5 : decode cX3_write 5 = .ok (.aload_n 0, 1) := by decide +kernel
theorem dX3_write_6 : decode cX3_write 6 = .ok (.getfield 37, 3) := by decide +kernel
theorem dX3_write_9 : decode cX3_write 9 = .ok (.invokestatic 57, 3) := by decide +kernel
theorem dX3_write_12 : decode cX3_write 12 = .ok (.if_icmp .lt 13, 3) := by decide +kernel
theorem dX3_write_15 : decode cX3_write 15 = .ok (.new 61, 3) := by decide +kernel
theorem dX3_write_18 : decode cX3_write 18 = .ok (.dup, 1) := by decide +kernel
theorem dX3_write_19 : decode cX3_write 19 = .ok (.ldc 63, 2) := by decide +kernel
theorem dX3_write_21 : decode cX3_write 21 = .ok (.invokespecial 65, 3) := by decide +kernel
theorem dX3_write_24 : decode cX3_write 24 = .ok (.athrow, 1) := by decide +kernel
theorem dX3_write_25 : decode cX3_write 25 = .ok (.aload_n 0, 1) := by decide +kernel
theorem dX3_write_26 : decode cX3_write 26 = .ok (.invokevirtual 66, 3) := by decide +kernel
theorem dX3_write_29 : decode cX3_write 29 = .ok (.astore_n 2, 1) := by decide +kernel
theorem dX3_write_30 : decode cX3_write 30 = .ok (.aload_n 2, 1) := by decide +kernel
theorem dX3_write_31 : decode cX3_write 31 = .ok (.aload_n 0, 1) := by decide +kernel
theorem dX3_write_32 : decode cX3_write 32 = .ok (.getfield 37, 3) := by decide +kernel
theorem dX3_write_35 : decode cX3_write 35 = .ok (.iload_n 1, 1) := by decide +kernel
theorem dX3_write_36 : decode cX3_write 36 = .ok (.invokevirtual 70, 3) := by decide +kernel
theorem dX3_write_39 : decode cX3_write 39 = .ok (.aload_n 0, 1) := by decide +kernel
theorem dX3_write_40 : decode cX3_write 40 = .ok (.getfield 41, 3) := by decide +kernel
theorem dX3_write_43 : decode cX3_write 43 = .ok (.iconst 1, 1) := by decide +kernel
theorem dX3_write_44 : decode cX3_write 44 = .ok (.isub, 1) := by decide +kernel
theorem dX3_write_45 : decode cX3_write 45 = .ok (.ireturn, 1) := by decide +kernel
set_option maxRecDepth 20000 in
theorem ggX3_swap_X3_find : GoodIn wsX3_swap wsX3_find := goodIn_ca (goodIn_r _ [8, 1, 2, 9, 10, 34, 35, 36, 37, 38, 39, 40, 41] (by decide +kernel) (by decide +kernel)) (goodIn_sub (fun _ h => List.mem_cons_of_mem _ (List.mem_append_right _ h)) (by decide +kernel))
set_option maxRecDepth 20000 in
theorem gX3_swap_X3_find : GoodIn wsX3_swap (wsV RX3 74 RX3 yX3_find wsX3_find) := goodIn_app (goodIn_of _ (by decide +kernel)) ggX3_swap_X3_find
set_option maxRecDepth 20000 in
theorem ggX3_swap_X0_exchange : GoodIn wsX3_swap wsX0_exchange := goodIn_r _ [15, 16, 17, 18, 14, 19, 20, 21, 22, 23, 24, 42, 43] (by decide +kernel) (by decide +kernel)
set_option maxRecDepth 20000 in
theorem gX3_swap_X0_exchange : GoodIn wsX3_swap (wsV RX3 80 RX0 yX0_exchange wsX0_exchange) := goodIn_app (goodIn_of _ (by decide +kernel)) ggX3_swap_X0_exchange
set_option maxRecDepth 20000 in
theorem ggX3_swap_X0_rank : GoodIn wsX3_swap wsX0_rank := goodIn_r _ [28, 29, 30, 31, 32, 14, 33, 16, 17, 18, 19, 20, 42, 43] (by decide +kernel) (by decide +kernel)
set_option maxRecDepth 20000 in
theorem gX3_swap_X0_rank : GoodIn wsX3_swap (wsV RX3 84 RX0 yX0_rank wsX0_rank) := goodIn_app (goodIn_of _ (by decide +kernel)) ggX3_swap_X0_rank
theorem dX3_swap_0 : decode cX3_swap 0 = .ok (.aload_n 0, 1) := by decide +kernel
theorem dX3_swap_1 : decode cX3_swap 1 = .ok (.iload_n 1, 1) := by decide +kernel
theorem dX3_swap_2 : decode cX3_swap 2 = .ok (.invokevirtual 74, 3) := by decide +kernel
theorem dX3_swap_5 : decode cX3_swap 5 = .ok (.astore_n 3, 1) := by decide +kernel
theorem dX3_swap_6 : decode cX3_swap 6 = .ok (.iload_n 2, 1) := by decide +kernel
theorem dX3_swap_7 : decode cX3_swap 7 = .ok (.ifCond .lt 13, 3) := by decide +kernel
theorem dX3_swap_10 : decode cX3_swap 10 = .ok (.iload_n 2, 1) := by decide +kernel
theorem dX3_swap_11 : decode cX3_swap 11 = .ok (.aload_n 0, 1) := by decide +kernel
theorem dX3_swap_12 : decode cX3_swap 12 = .ok (.getfield 37, 3) := by decide +kernel
theorem dX3_swap_15 : decode cX3_swap 15 = .ok (.iconst 2, 1) := by decide +kernel
theorem dX3_swap_16 : decode cX3_swap 16 = .ok (.isub, 1) := by decide +kernel
theorem dX3_swap_17 : decode cX3_swap 17 = .ok (.if_icmp .le 13, 3) := by decide +kernel
theorem dX3_swap_20 : decode cX3_swap 20 = .ok (.new 61, 3) := by decide +kernel
theorem dX3_swap_23 : decode cX3_swap 23 = .ok (.dup, 1) := by decide +kernel
theorem dX3_swap_24 : decode cX3_swap 24 = .ok (.ldc 78, 2) := by decide +kernel
theorem dX3_swap_26 : decode cX3_swap 26 = .ok (.invokespecial 65, 3) := by decide +kernel
theorem dX3_swap_29 : decode cX3_swap 29 = .ok (.athrow, 1) := by decide +kernel
theorem dX3_swap_30 : decode cX3_swap 30 = .ok (.aload_n 3, 1) := by decide +kernel
theorem dX3_swap_31 : decode cX3_swap 31 = .ok (.iload_n 2, 1) := by decide +kernel
theorem dX3_swap_32 : decode cX3_swap 32 = .ok (.invokevirtual 80, 3) := by decide +kernel
theorem dX3_swap_35 : decode cX3_swap 35 = .ok (.aload_n 3, 1) := by decide +kernel
theorem dX3_swap_36 : decode cX3_swap 36 = .ok (.invokevirtual 84, 3) := by decide +kernel
theorem dX3_swap_39 : decode cX3_swap 39 = .ok (.ireturn, 1) := by decide +kernel
set_option maxRecDepth 20000 in
theorem ggX3_next_X3_find : GoodIn wsX3_next wsX3_find := goodIn_ca (goodIn_r _ [6, 7, 8, 9, 10, 41, 42, 43, 44, 45, 46, 47, 48] (by decide +kernel) (by decide +kernel)) (goodIn_sub (fun _ h => List.mem_cons_of_mem _ (List.mem_append_right _ h)) (by decide +kernel))
set_option maxRecDepth 20000 in
theorem gX3_next_X3_find : GoodIn wsX3_next (wsV RX3 74 RX3 yX3_find wsX3_find) := goodIn_app (goodIn_of _ (by decide +kernel)) ggX3_next_X3_find
set_option maxRecDepth 20000 in
theorem ggX3_next_X0_rank : GoodIn wsX3_next wsX0_rank := goodIn_r _ [15, 16, 17, 18, 19, 14, 20, 21, 22, 23, 24, 25, 49, 50] (by decide +kernel) (by decide +kernel)
set_option maxRecDepth 20000 in
theorem gX3_next_X0_rank : GoodIn wsX3_next (wsV RX3 84 RX0 yX0_rank wsX0_rank) := goodIn_app (goodIn_of _ (by decide +kernel)) ggX3_next_X0_rank
set_option maxRecDepth 20000 in
theorem ggX3_next_X3_changesOf : GoodIn wsX3_next wsX3_changesOf := goodIn_r _ [28] (by decide +kernel) (by decide +kernel)
set_option maxRecDepth 20000 in
theorem gX3_next_X3_changesOf : GoodIn wsX3_next (va_wsS RX3 57 yX3_changesOf wsX3_changesOf) := goodIn_app (goodIn_of _ (by decide +kernel)) ggX3_next_X3_changesOf
set_option maxRecDepth 20000 in
theorem ggX3_next_X0_setRank : GoodIn wsX3_next wsX0_setRank := goodIn_r _ [32, 16, 33, 34, 35, 14, 36, 37, 38, 39, 40, 25, 21, 22, 23, 24, 49, 50] (by decide +kernel) (by decide +kernel)
set_option maxRecDepth 20000 in
theorem gX3_next_X0_setRank : GoodIn wsX3_next (wsV RX3 70 RX0 yX0_setRank wsX0_setRank) := goodIn_app (goodIn_of _ (by decide +kernel)) ggX3_next_X0_setRank
theorem dX3_next_0 : decode cX3_next 0 = .ok (.aload_n 0, 1) := by decide +kernel
theorem dX3_next_1 : decode cX3_next 1 = .ok (.iload_n 1, 1) := by decide +kernel
theorem dX3_next_2 : decode cX3_next 2 = .ok (.invokevirtual 74, 3) := by decide +kernel
theorem dX3_next_5 : decode cX3_next 5 = .ok (.astore_n 2, 1) := by decide +kernel
theorem dX3_next_6 : decode cX3_next 6 = .ok (.aload_n 2, 1) := by decide +kernel
theorem dX3_next_7 : decode cX3_next 7 = .ok (.invokevirtual 84, 3) := by decide +kernel
theorem dX3_next_10 : decode cX3_next 10 = .ok (.iconst 1, 1) := by decide +kernel
theorem dX3_next_11 : decode cX3_next 11 = .ok (.iadd, 1) := by decide +kernel
theorem dX3_next_12 : decode cX3_next 12 = .ok (.istore_n 3, 1) := by decide +kernel
theorem dX3_next_13 : decode cX3_next 13 = .ok (.iload_n 3, 1) := by decide +kernel
theorem dX3_next_14 : decode cX3_next 14 = .ok (.aload_n 0, 1) := by decide +kernel
theorem dX3_next_15 : decode cX3_next 15 = .ok (.getfield 37, 3) := by decide +kernel
theorem dX3_next_18 : decode cX3_next 18 = .ok (.invokestatic 57, 3) := by decide +kernel
theorem dX3_next_21 : decode cX3_next 21 = .ok (.if_icmp .lt 5, 3) := by decide +kernel
theorem dX3_next_24 : decode cX3_next 24 = .ok (.iconst 0, 1) := by decide +kernel
theorem dX3_next_25 : decode cX3_next 25 = .ok (.istore_n 3, 1) := by decide +kernel
theorem dX3_next_26 : decode cX3_next 26 = .ok (.aload_n 2, 1) := by decide +kernel
theorem dX3_next_27 : decode cX3_next 27 = .ok (.aload_n 0, 1) := by decide +kernel
theorem dX3_next_28 : decode cX3_next 28 = .ok (.getfield 37, 3) := by decide +kernel
theorem dX3_next_31 : decode cX3_next 31 = .ok (.iload_n 3, 1) := by decide +kernel
theorem dX3_next_32 : decode cX3_next 32 = .ok (.invokevirtual 70, 3) := by decide +kernel
theorem dX3_next_35 : decode cX3_next 35 = .ok (.iload_n 3, 1) := by decide +kernel
theorem dX3_next_36 : decode cX3_next 36 = .ok (.ireturn, 1) := by decide +kernel
set_option maxRecDepth 20000 in
theorem ggX3_behind_X3_find : GoodIn wsX3_behind wsX3_find := goodIn_ca (goodIn_r _ [6, 7, 8, 1, 9, 31, 32, 33, 34, 35, 36, 37, 38] (by decide +kernel) (by decide +kernel)) (goodIn_sub (fun _ h => List.mem_cons_of_mem _ (List.mem_append_left _ (List.mem_append_right _ h))) (by decide +kernel))
set_option maxRecDepth 20000 in
theorem gX3_behind_X3_find : GoodIn wsX3_behind (wsV RX3 74 RX3 yX3_find wsX3_find) := goodIn_app (goodIn_of _ (by decide +kernel)) ggX3_behind_X3_find
set_option maxRecDepth 20000 in
theorem ggX3_behind_X3_openPage : GoodIn wsX3_behind wsX3_openPage := goodIn_ca (goodIn_r _ [13, 14, 15, 1, 9, 31, 32, 33, 34, 35, 36, 37, 38] (by decide +kernel) (by decide +kernel)) (goodIn_sub (fun _ h => List.mem_cons_of_mem _ (List.mem_append_right _ h)) (by decide +kernel))
set_option maxRecDepth 20000 in
theorem gX3_behind_X3_openPage : GoodIn wsX3_behind (wsV RX3 66 RX3 yX3_openPage wsX3_openPage) := goodIn_app (goodIn_of _ (by decide +kernel)) ggX3_behind_X3_openPage
set_option maxRecDepth 20000 in
theorem ggX3_behind_X0_setBehind : GoodIn wsX3_behind wsX0_setBehind := goodIn_r _ [20, 21, 22, 23, 24, 19, 25, 26, 27, 28, 29, 30, 39, 40] (by decide +kernel) (by decide +kernel)
set_option maxRecDepth 20000 in
theorem gX3_behind_X0_setBehind : GoodIn wsX3_behind (wsV RX3 88 RX0 yX0_setBehind wsX0_setBehind) := goodIn_app (goodIn_of _ (by decide +kernel)) ggX3_behind_X0_setBehind
theorem dX3_behind_0 : decode cX3_behind 0 = .ok (.aload_n 0, 1) := by decide +kernel
theorem dX3_behind_1 : decode cX3_behind 1 = .ok (.iload_n 1, 1) := by decide +kernel
theorem dX3_behind_2 : decode cX3_behind 2 = .ok (.invokevirtual 74, 3) := by decide +kernel
theorem dX3_behind_5 : decode cX3_behind 5 = .ok (.astore_n 3, 1) := by decide +kernel
theorem dX3_behind_6 : decode cX3_behind 6 = .ok (.aload_n 0, 1) := by decide +kernel
theorem dX3_behind_7 : decode cX3_behind 7 = .ok (.iload_n 2, 1) := by decide +kernel
theorem dX3_behind_8 : decode cX3_behind 8 = .ok (.invokevirtual 74, 3) := by decide +kernel
theorem dX3_behind_11 : decode cX3_behind 11 = .ok (.astore 4, 2) := by decide +kernel
theorem dX3_behind_13 : decode cX3_behind 13 = .ok (.aload_n 0, 1) := by decide +kernel
theorem dX3_behind_14 : decode cX3_behind 14 = .ok (.invokevirtual 66, 3) := by decide +kernel
theorem dX3_behind_17 : decode cX3_behind 17 = .ok (.astore 5, 2) := by decide +kernel
theorem dX3_behind_19 : decode cX3_behind 19 = .ok (.aload 5, 2) := by decide +kernel
theorem dX3_behind_21 : decode cX3_behind 21 = .ok (.aload_n 3, 1) := by decide +kernel
theorem dX3_behind_22 : decode cX3_behind 22 = .ok (.aload 4, 2) := by decide +kernel
theorem dX3_behind_24 : decode cX3_behind 24 = .ok (.invokevirtual 88, 3) := by decide +kernel
theorem dX3_behind_27 : decode cX3_behind 27 = .ok (.aload_n 0, 1) := by decide +kernel
theorem dX3_behind_28 : decode cX3_behind 28 = .ok (.getfield 41, 3) := by decide +kernel
theorem dX3_behind_31 : decode cX3_behind 31 = .ok (.iconst 1, 1) := by decide +kernel
theorem dX3_behind_32 : decode cX3_behind 32 = .ok (.isub, 1) := by decide +kernel
theorem dX3_behind_33 : decode cX3_behind 33 = .ok (.ireturn, 1) := by decide +kernel
set_option maxRecDepth 20000 in
theorem ggX3_back_X3_find : GoodIn wsX3_back wsX3_find := goodIn_ca (goodIn_r _ [6, 7, 8, 9, 10, 38, 39, 40, 41, 42, 43, 44, 45] (by decide +kernel) (by decide +kernel)) (goodIn_sub (fun _ h => List.mem_cons_of_mem _ (List.mem_append_right _ h)) (by decide +kernel))
set_option maxRecDepth 20000 in
theorem gX3_back_X3_find : GoodIn wsX3_back (wsV RX3 74 RX3 yX3_find wsX3_find) := goodIn_app (goodIn_of _ (by decide +kernel)) ggX3_back_X3_find
set_option maxRecDepth 20000 in
theorem ggX3_back_X0_setBack : GoodIn wsX3_back wsX0_setBack := goodIn_r _ [15, 16, 17, 18, 19, 14, 20, 21, 22, 23, 24, 25, 46, 47] (by decide +kernel) (by decide +kernel)
set_option maxRecDepth 20000 in
theorem gX3_back_X0_setBack : GoodIn wsX3_back (wsV RX3 92 RX0 yX0_setBack wsX0_setBack) := goodIn_app (goodIn_of _ (by decide +kernel)) ggX3_back_X0_setBack
set_option maxRecDepth 20000 in
theorem ggX3_back_X0_setCopy : GoodIn wsX3_back wsX0_setCopy := goodIn_r _ [29, 16, 17, 18, 19, 14, 20, 21, 22, 23, 24, 25, 46, 47] (by decide +kernel) (by decide +kernel)
set_option maxRecDepth 20000 in
theorem gX3_back_X0_setCopy : GoodIn wsX3_back (wsV RX3 96 RX0 yX0_setCopy wsX0_setCopy) := goodIn_app (goodIn_of _ (by decide +kernel)) ggX3_back_X0_setCopy
set_option maxRecDepth 20000 in
theorem ggX3_back_X0_rank : GoodIn wsX3_back wsX0_rank := goodIn_r _ [33, 16, 34, 35, 36, 14, 37, 17, 18, 19, 20, 21, 46, 47] (by decide +kernel) (by decide +kernel)
set_option maxRecDepth 20000 in
theorem gX3_back_X0_rank : GoodIn wsX3_back (wsV RX3 84 RX0 yX0_rank wsX0_rank) := goodIn_app (goodIn_of _ (by decide +kernel)) ggX3_back_X0_rank
theorem dX3_back_0 : decode cX3_back 0 = .ok (.aload_n 0, 1) := by decide +kernel
theorem dX3_back_1 : decode cX3_back 1 = .ok (.iload_n 1, 1) := by decide +kernel
theorem dX3_back_2 : decode cX3_back 2 = .ok (.invokevirtual 74, 3) := by decide +kernel
theorem dX3_back_5 : decode cX3_back 5 = .ok (.astore_n 2, 1) := by decide +kernel
theorem dX3_back_6 : decode cX3_back 6 = .ok (.aload_n 0, 1) := by decide +kernel
theorem dX3_back_7 : decode cX3_back 7 = .ok (.getfield 27, 3) := by decide +kernel
theorem dX3_back_10 : decode cX3_back 10 = .ok (.aload_n 2, 1) := by decide +kernel
theorem dX3_back_11 : decode cX3_back 11 = .ok (.invokevirtual 92, 3) := by decide +kernel
theorem dX3_back_14 : decode cX3_back 14 = .ok (.aload_n 2, 1) := by decide +kernel
theorem dX3_back_15 : decode cX3_back 15 = .ok (.aload_n 0, 1) := by decide +kernel
theorem dX3_back_16 : decode cX3_back 16 = .ok (.getfield 27, 3) := by decide +kernel
theorem dX3_back_19 : decode cX3_back 19 = .ok (.invokevirtual 96, 3) := by decide +kernel
theorem dX3_back_22 : decode cX3_back 22 = .ok (.aload_n 2, 1) := by decide +kernel
theorem dX3_back_23 : decode cX3_back 23 = .ok (.invokevirtual 84, 3) := by decide +kernel
theorem dX3_back_26 : decode cX3_back 26 = .ok (.ireturn, 1) := by decide +kernel
set_option maxRecDepth 20000 in
theorem ggX3_repeat_X3_find : GoodIn wsX3_repeat wsX3_find := goodIn_ca (goodIn_r _ [8, 9, 10, 11, 12, 48, 49, 50, 51, 52, 53, 54, 55] (by decide +kernel) (by decide +kernel)) (goodIn_sub (fun _ h => List.mem_cons_of_mem _ (List.mem_append_right _ h)) (by decide +kernel))
set_option maxRecDepth 20000 in
theorem gX3_repeat_X3_find : GoodIn wsX3_repeat (wsV RX3 74 RX3 yX3_find wsX3_find) := goodIn_app (goodIn_of _ (by decide +kernel)) ggX3_repeat_X3_find
set_option maxRecDepth 20000 in
theorem ggX3_repeat_X0_setRepeated : GoodIn wsX3_repeat wsX0_setRepeated := goodIn_r _ [17, 18, 19, 20, 21, 16, 22, 23, 24, 25, 26, 27, 28, 29, 30, 31, 32, 33, 34, 35, 56, 57] (by decide +kernel) (by decide +kernel)
set_option maxRecDepth 20000 in
theorem gX3_repeat_X0_setRepeated : GoodIn wsX3_repeat (wsV RX3 101 RX0 yX0_setRepeated wsX0_setRepeated) := goodIn_app (goodIn_of _ (by decide +kernel)) ggX3_repeat_X0_setRepeated
set_option maxRecDepth 20000 in
theorem ggX3_repeat_X0_setCopy : GoodIn wsX3_repeat wsX0_setCopy := goodIn_r _ [39, 18, 23, 24, 25, 16, 26, 27, 32, 33, 34, 35, 56, 57] (by decide +kernel) (by decide +kernel)
set_option maxRecDepth 20000 in
theorem gX3_repeat_X0_setCopy : GoodIn wsX3_repeat (wsV RX3 96 RX0 yX0_setCopy wsX0_setCopy) := goodIn_app (goodIn_of _ (by decide +kernel)) ggX3_repeat_X0_setCopy
set_option maxRecDepth 20000 in
theorem ggX3_repeat_X0_rank : GoodIn wsX3_repeat wsX0_rank := goodIn_r _ [43, 18, 44, 45, 46, 16, 47, 23, 24, 25, 26, 27, 56, 57] (by decide +kernel) (by decide +kernel)
set_option maxRecDepth 20000 in
theorem gX3_repeat_X0_rank : GoodIn wsX3_repeat (wsV RX3 84 RX0 yX0_rank wsX0_rank) := goodIn_app (goodIn_of _ (by decide +kernel)) ggX3_repeat_X0_rank
theorem dX3_repeat_0 : decode cX3_repeat 0 = .ok (.aload_n 0, 1) := by decide +kernel
theorem dX3_repeat_1 : decode cX3_repeat 1 = .ok (.iload_n 1, 1) := by decide +kernel
theorem dX3_repeat_2 : decode cX3_repeat 2 = .ok (.invokevirtual 74, 3) := by decide +kernel
theorem dX3_repeat_5 : decode cX3_repeat 5 = .ok (.astore_n 3, 1) := by decide +kernel
theorem dX3_repeat_6 : decode cX3_repeat 6 = .ok (.iload_n 2, 1) := by decide +kernel
theorem dX3_repeat_7 : decode cX3_repeat 7 = .ok (.ifCond .lt 10, 3) := by decide +kernel
theorem dX3_repeat_10 : decode cX3_repeat 10 = .ok (.iload_n 2, 1) := by decide +kernel
theorem dX3_repeat_11 : decode cX3_repeat 11 = .ok (.sipush 9999, 3) := by decide +kernel
theorem dX3_repeat_14 : decode cX3_repeat 14 = .ok (.if_icmp .le 13, 3) := by decide +kernel
theorem dX3_repeat_17 : decode cX3_repeat 17 = .ok (.new 47, 3) := by decide +kernel
theorem dX3_repeat_20 : decode cX3_repeat 20 = .ok (.dup, 1) := by decide +kernel
theorem dX3_repeat_21 : decode cX3_repeat 21 = .ok (.ldc 99, 2) := by decide +kernel
theorem dX3_repeat_23 : decode cX3_repeat 23 = .ok (.invokespecial 51, 3) := by decide +kernel
theorem dX3_repeat_26 : decode cX3_repeat 26 = .ok (.athrow, 1) := by decide +kernel
theorem dX3_repeat_27 : decode cX3_repeat 27 = .ok (.aload_n 0, 1) := by decide +kernel
theorem dX3_repeat_28 : decode cX3_repeat 28 = .ok (.getfield 27, 3) := by decide +kernel
theorem dX3_repeat_31 : decode cX3_repeat 31 = .ok (.aload_n 3, 1) := by decide +kernel
theorem dX3_repeat_32 : decode cX3_repeat 32 = .ok (.iload_n 2, 1) := by decide +kernel
theorem dX3_repeat_33 : decode cX3_repeat 33 = .ok (.invokevirtual 101, 3) := by decide +kernel
theorem dX3_repeat_36 : decode cX3_repeat 36 = .ok (.aload_n 3, 1) := by decide +kernel
theorem dX3_repeat_37 : decode cX3_repeat 37 = .ok (.aload_n 0, 1) := by decide +kernel
theorem dX3_repeat_38 : decode cX3_repeat 38 = .ok (.getfield 27, 3) := by decide +kernel
theorem dX3_repeat_41 : decode cX3_repeat 41 = .ok (.invokevirtual 96, 3) := by decide +kernel
theorem dX3_repeat_44 : decode cX3_repeat 44 = .ok (.aload_n 3, 1) := by decide +kernel
theorem dX3_repeat_45 : decode cX3_repeat 45 = .ok (.invokevirtual 84, 3) := by decide +kernel
theorem dX3_repeat_48 : decode cX3_repeat 48 = .ok (.ireturn, 1) := by decide +kernel
set_option maxRecDepth 20000 in
theorem ggX3_step_X1_isStep : GoodIn wsX3_step wsX1_isStep := goodIn_r _ [10, 11, 12, 9, 13] (by decide +kernel) (by decide +kernel)
set_option maxRecDepth 20000 in
theorem gX3_step_X1_isStep : GoodIn wsX3_step (va_wsS RX3 105 yX1_isStep wsX1_isStep) := goodIn_app (goodIn_of _ (by decide +kernel)) ggX3_step_X1_isStep
set_option maxRecDepth 20000 in
theorem ggX3_step_X1_length : GoodIn wsX3_step wsX1_length := goodIn_r _ [17, 18, 32, 33] (by decide +kernel) (by decide +kernel)
set_option maxRecDepth 20000 in
theorem gX3_step_X1_length : GoodIn wsX3_step (wsV RX3 111 RX1 yX1_length wsX1_length) := goodIn_app (goodIn_of _ (by decide +kernel)) ggX3_step_X1_length
set_option maxRecDepth 20000 in
theorem ggX3_step_X1_add : GoodIn wsX3_step wsX1_add := goodIn_r _ [22, 18, 23, 32, 33] (by decide +kernel) (by decide +kernel)
set_option maxRecDepth 20000 in
theorem gX3_step_X1_add : GoodIn wsX3_step (wsV RX3 119 RX1 yX1_add wsX1_add) := goodIn_app (goodIn_of _ (by decide +kernel)) ggX3_step_X1_add
theorem dX3_step_0 : decode cX3_step 0 = .ok (.iload_n 1, 1) := by decide +kernel
theorem dX3_step_1 : decode cX3_step 1 = .ok (.aload_n 0, 1) := by decide +kernel
theorem dX3_step_2 : decode cX3_step 2 = .ok (.getfield 37, 3) := by decide +kernel
theorem dX3_step_5 : decode cX3_step 5 = .ok (.invokestatic 105, 3) := by decide +kernel
theorem dX3_step_8 : decode cX3_step 8 = .ok (.ifCond .ne 13, 3) := by decide +kernel
theorem dX3_step_11 : decode cX3_step 11 = .ok (.new 47, 3) := by decide +kernel
theorem dX3_step_14 : decode cX3_step 14 = .ok (.dup, 1) := by decide +kernel
theorem dX3_step_15 : decode cX3_step 15 = .ok (.ldc 109, 2) := by decide +kernel
theorem dX3_step_17 : decode cX3_step 17 = .ok (.invokespecial 51, 3) := by decide +kernel
theorem dX3_step_20 : decode cX3_step 20 = .ok (.athrow, 1) := by decide +kernel
theorem dX3_step_21 : decode cX3_step 21 = .ok (.aload_n 0, 1) := by decide +kernel
theorem dX3_step_22 : decode cX3_step 22 = .ok (.getfield 19, 3) := by decide +kernel
theorem dX3_step_25 : decode cX3_step 25 = .ok (.invokevirtual 111, 3) := by decide +kernel
theorem dX3_step_28 : decode cX3_step 28 = .ok (.bipush 10, 2) := by decide +kernel
theorem dX3_step_30 : decode cX3_step 30 = .ok (.if_icmp .lt 13, 3) := by decide +kernel
theorem dX3_step_33 : decode cX3_step 33 = .ok (.new 114, 3) := by decide +kernel
theorem dX3_step_36 : decode cX3_step 36 = .ok (.dup, 1) := by decide +kernel
theorem dX3_step_37 : decode cX3_step 37 = .ok (.ldc 116, 2) := by decide +kernel
theorem dX3_step_39 : decode cX3_step 39 = .ok (.invokespecial 118, 3) := by decide +kernel
theorem dX3_step_42 : decode cX3_step 42 = .ok (.athrow, 1) := by decide +kernel
theorem dX3_step_43 : decode cX3_step 43 = .ok (.aload_n 0, 1) := by decide +kernel
theorem dX3_step_44 : decode cX3_step 44 = .ok (.getfield 19, 3) := by decide +kernel
theorem dX3_step_47 : decode cX3_step 47 = .ok (.iload_n 1, 1) := by decide +kernel
theorem dX3_step_48 : decode cX3_step 48 = .ok (.invokevirtual 119, 3) := by decide +kernel
theorem dX3_step_51 : decode cX3_step 51 = .ok (.aload_n 0, 1) := by decide +kernel
theorem dX3_step_52 : decode cX3_step 52 = .ok (.getfield 19, 3) := by decide +kernel
theorem dX3_step_55 : decode cX3_step 55 = .ok (.invokevirtual 111, 3) := by decide +kernel
theorem dX3_step_58 : decode cX3_step 58 = .ok (.ireturn, 1) := by decide +kernel
set_option maxRecDepth 20000 in
theorem ggX3_clear_X1_length : GoodIn wsX3_clear wsX1_length := goodIn_r _ [6, 7, 20, 21] (by decide +kernel) (by decide +kernel)
set_option maxRecDepth 20000 in
theorem gX3_clear_X1_length : GoodIn wsX3_clear (wsV RX3 111 RX1 yX1_length wsX1_length) := goodIn_app (goodIn_of _ (by decide +kernel)) ggX3_clear_X1_length
set_option maxRecDepth 20000 in
theorem ggX3_clear_X1_removeAll : GoodIn wsX3_clear wsX1_removeAll := goodIn_r _ [11, 7, 20, 21] (by decide +kernel) (by decide +kernel)
set_option maxRecDepth 20000 in
theorem gX3_clear_X1_removeAll : GoodIn wsX3_clear (wsV RX3 54 RX1 yX1_removeAll wsX1_removeAll) := goodIn_app (goodIn_of _ (by decide +kernel)) ggX3_clear_X1_removeAll
theorem dX3_clear_0 : decode cX3_clear 0 = .ok (.aload_n 0, 1) := by decide +kernel
theorem dX3_clear_1 : decode cX3_clear 1 = .ok (.getfield 19, 3) := by decide +kernel
theorem dX3_clear_4 : decode cX3_clear 4 = .ok (.invokevirtual 111, 3) := by decide +kernel
theorem dX3_clear_7 : decode cX3_clear 7 = .ok (.istore_n 1, 1) := by decide +kernel
theorem dX3_clear_8 : decode cX3_clear 8 = .ok (.aload_n 0, 1) := by decide +kernel
theorem dX3_clear_9 : decode cX3_clear 9 = .ok (.getfield 19, 3) := by decide +kernel
theorem dX3_clear_12 : decode cX3_clear 12 = .ok (.invokevirtual 54, 3) := by decide +kernel
theorem dX3_clear_15 : decode cX3_clear 15 = .ok (.iload_n 1, 1) := by decide +kernel
theorem dX3_clear_16 : decode cX3_clear 16 = .ok (.ireturn, 1) := by decide +kernel
set_option maxRecDepth 20000 in
theorem ggX3_ring_X3_find : GoodIn wsX3_ring wsX3_find := goodIn_ca (goodIn_r _ [7, 8, 9, 10, 11, 62, 63, 64, 65, 66, 67, 68, 69] (by decide +kernel) (by decide +kernel)) (goodIn_sub (fun _ h => List.mem_cons_of_mem _ (List.mem_append_left _ (List.mem_append_right _ h))) (by decide +kernel))
set_option maxRecDepth 20000 in
theorem gX3_ring_X3_find : GoodIn wsX3_ring (wsV RX3 74 RX3 yX3_find wsX3_find) := goodIn_app (goodIn_of _ (by decide +kernel)) ggX3_ring_X3_find
set_option maxRecDepth 20000 in
theorem ggX3_ring_X3_checkSteps : GoodIn wsX3_ring wsX3_checkSteps := goodIn_ca (goodIn_r _ [14, 15, 16] (by decide +kernel) (by decide +kernel)) (goodIn_sub (fun _ h => List.mem_cons_of_mem _ (List.mem_append_right _ h)) (by decide +kernel))
set_option maxRecDepth 20000 in
theorem gX3_ring_X3_checkSteps : GoodIn wsX3_ring (va_wsS RX3 122 yX3_checkSteps wsX3_checkSteps) := goodIn_app (goodIn_of _ (by decide +kernel)) ggX3_ring_X3_checkSteps
set_option maxRecDepth 20000 in
theorem ggX3_ring_X1_length : GoodIn wsX3_ring wsX1_length := goodIn_r _ [21, 22, 70, 71] (by decide +kernel) (by decide +kernel)
set_option maxRecDepth 20000 in
theorem gX3_ring_X1_length : GoodIn wsX3_ring (wsV RX3 111 RX1 yX1_length wsX1_length) := goodIn_app (goodIn_of _ (by decide +kernel)) ggX3_ring_X1_length
set_option maxRecDepth 20000 in
theorem ggX3_ring_X1_ringOn : GoodIn wsX3_ring wsX1_ringOn := goodIn_r _ [26, 22, 27, 28, 29, 20, 30, 31, 32, 33, 34, 35, 36, 37, 38, 39, 40, 41, 42, 43, 44, 45, 46, 47, 48, 49, 50, 51, 52, 53, 70, 71, 72, 73] (by decide +kernel) (by decide +kernel)
set_option maxRecDepth 20000 in
theorem gX3_ring_X1_ringOn : GoodIn wsX3_ring (wsV RX3 125 RX1 yX1_ringOn wsX1_ringOn) := goodIn_app (goodIn_of _ (by decide +kernel)) ggX3_ring_X1_ringOn
set_option maxRecDepth 20000 in
theorem ggX3_ring_X0_rank : GoodIn wsX3_ring wsX0_rank := goodIn_r _ [57, 37, 58, 59, 60, 35, 61, 45, 46, 47, 48, 49, 72, 73] (by decide +kernel) (by decide +kernel)
set_option maxRecDepth 20000 in
theorem gX3_ring_X0_rank : GoodIn wsX3_ring (wsV RX3 84 RX0 yX0_rank wsX0_rank) := goodIn_app (goodIn_of _ (by decide +kernel)) ggX3_ring_X0_rank
theorem dX3_ring_0 : decode cX3_ring 0 = .ok (.aload_n 0, 1) := by decide +kernel
theorem dX3_ring_1 : decode cX3_ring 1 = .ok (.iload_n 1, 1) := by decide +kernel
theorem dX3_ring_2 : decode cX3_ring 2 = .ok (.invokevirtual 74, 3) := by decide +kernel
theorem dX3_ring_5 : decode cX3_ring 5 = .ok (.astore_n 3, 1) := by decide +kernel
theorem dX3_ring_6 : decode cX3_ring 6 = .ok (.iload_n 2, 1) := by decide +kernel
theorem dX3_ring_7 : decode cX3_ring 7 = .ok (.invokestatic 122, 3) := by decide +kernel
theorem dX3_ring_10 : decode cX3_ring 10 = .ok (.aload_n 0, 1) := by decide +kernel
theorem dX3_ring_11 : decode cX3_ring 11 = .ok (.getfield 19, 3) := by decide +kernel
theorem dX3_ring_14 : decode cX3_ring 14 = .ok (.invokevirtual 111, 3) := by decide +kernel
theorem dX3_ring_17 : decode cX3_ring 17 = .ok (.ifCond .le 38, 3) := by decide +kernel
theorem dX3_ring_20 : decode cX3_ring 20 = .ok (.iconst 0, 1) := by decide +kernel
theorem dX3_ring_21 : decode cX3_ring 21 = .ok (.istore 4, 2) := by decide +kernel
theorem dX3_ring_23 : decode cX3_ring 23 = .ok (.iload 4, 2) := by decide +kernel
theorem dX3_ring_25 : decode cX3_ring 25 = .ok (.iload_n 2, 1) := by decide +kernel
theorem dX3_ring_26 : decode cX3_ring 26 = .ok (.if_icmp .ge 19, 3) := by decide +kernel
theorem dX3_ring_29 : decode cX3_ring 29 = .ok (.aload_n 0, 1) := by decide +kernel
theorem dX3_ring_30 : decode cX3_ring 30 = .ok (.getfield 19, 3) := by decide +kernel
theorem dX3_ring_33 : decode cX3_ring 33 = .ok (.aload_n 3, 1) := by decide +kernel
theorem dX3_ring_34 : decode cX3_ring 34 = .ok (.iload 4, 2) := by decide +kernel
theorem dX3_ring_36 : decode cX3_ring 36 = .ok (.invokevirtual 125, 3) := by decide +kernel
theorem dX3_ring_39 : decode cX3_ring 39 = .ok (.iinc 4 1, 3) := by decide +kernel
theorem dX3_ring_42 : decode cX3_ring 42 = .ok (.goto (-19), 3) := by decide +kernel
theorem dX3_ring_45 : decode cX3_ring 45 = .ok (.aload_n 0, 1) := by decide +kernel
theorem dX3_ring_46 : decode cX3_ring 46 = .ok (.dup, 1) := by decide +kernel
theorem dX3_ring_47 : decode cX3_ring 47 = .ok (.getfield 44, 3) := by decide +kernel
theorem dX3_ring_50 : decode cX3_ring 50 = .ok (.iload_n 2, 1) := by decide +kernel
theorem dX3_ring_51 : decode cX3_ring 51 = .ok (.iadd, 1) := by decide +kernel
theorem dX3_ring_52 : decode cX3_ring 52 = .ok (.putfield 44, 3) := by decide +kernel
theorem dX3_ring_55 : decode cX3_ring 55 = .ok (.aload_n 3, 1) := by decide +kernel
theorem dX3_ring_56 : decode cX3_ring 56 = .ok (.invokevirtual 84, 3) := by decide +kernel
theorem dX3_ring_59 : decode cX3_ring 59 = .ok (.ireturn, 1) := by decide +kernel
set_option maxRecDepth 20000 in
theorem ggX3_bell_X3_find : GoodIn wsX3_bell wsX3_find := goodIn_ca (goodIn_r _ [5, 6, 7, 8, 9, 21, 22, 23, 24, 25, 26, 27, 28] (by decide +kernel) (by decide +kernel)) (goodIn_sub (fun _ h => List.mem_cons_of_mem _ (List.mem_append_right _ h)) (by decide +kernel))
set_option maxRecDepth 20000 in
theorem gX3_bell_X3_find : GoodIn wsX3_bell (wsV RX3 74 RX3 yX3_find wsX3_find) := goodIn_app (goodIn_of _ (by decide +kernel)) ggX3_bell_X3_find
set_option maxRecDepth 20000 in
theorem ggX3_bell_X3_checkPlace : GoodIn wsX3_bell wsX3_checkPlace := goodIn_ca (goodIn_r _ [13, 6, 7, 14, 21, 22, 23, 24, 25, 26, 27, 28] (by decide +kernel) (by decide +kernel)) (goodIn_sub (fun _ h => List.mem_cons_of_mem _ (List.mem_append_right _ h)) (by decide +kernel))
set_option maxRecDepth 20000 in
theorem gX3_bell_X3_checkPlace : GoodIn wsX3_bell (wsV RX3 128 RX3 yX3_checkPlace wsX3_checkPlace) := goodIn_app (goodIn_of _ (by decide +kernel)) ggX3_bell_X3_checkPlace
set_option maxRecDepth 20000 in
theorem ggX3_bell_X0_bellAt : GoodIn wsX3_bell wsX0_bellAt := goodIn_r _ [19, 20, 29, 30] (by decide +kernel) (by decide +kernel)
set_option maxRecDepth 20000 in
theorem gX3_bell_X0_bellAt : GoodIn wsX3_bell (wsV RX3 131 RX0 yX0_bellAt wsX0_bellAt) := goodIn_app (goodIn_of _ (by decide +kernel)) ggX3_bell_X0_bellAt
theorem dX3_bell_0 : decode cX3_bell 0 = .ok (.aload_n 0, 1) := by decide +kernel
theorem dX3_bell_1 : decode cX3_bell 1 = .ok (.iload_n 1, 1) := by decide +kernel
theorem dX3_bell_2 : decode cX3_bell 2 = .ok (.invokevirtual 74, 3) := by decide +kernel
theorem dX3_bell_5 : decode cX3_bell 5 = .ok (.astore_n 3, 1) := by decide +kernel
theorem dX3_bell_6 : decode cX3_bell 6 = .ok (.aload_n 0, 1) := by decide +kernel
theorem dX3_bell_7 : decode cX3_bell 7 = .ok (.iload_n 2, 1) := by decide +kernel
theorem dX3_bell_8 : decode cX3_bell 8 = .ok (.invokevirtual 128, 3) := by decide +kernel
theorem dX3_bell_11 : decode cX3_bell 11 = .ok (.aload_n 3, 1) := by decide +kernel
theorem dX3_bell_12 : decode cX3_bell 12 = .ok (.iload_n 2, 1) := by decide +kernel
theorem dX3_bell_13 : decode cX3_bell 13 = .ok (.invokevirtual 131, 3) := by decide +kernel
theorem dX3_bell_16 : decode cX3_bell 16 = .ok (.ireturn, 1) := by decide +kernel
set_option maxRecDepth 20000 in
theorem ggX3_told_X3_find : GoodIn wsX3_told wsX3_find := goodIn_ca (goodIn_r _ [7, 1, 2, 8, 9, 64, 65, 66, 67, 68, 69, 70, 71] (by decide +kernel) (by decide +kernel)) (goodIn_sub (fun _ h => List.mem_cons_of_mem _ (List.mem_append_right _ h)) (by decide +kernel))
set_option maxRecDepth 20000 in
theorem gX3_told_X3_find : GoodIn wsX3_told (wsV RX3 74 RX3 yX3_find wsX3_find) := goodIn_app (goodIn_of _ (by decide +kernel)) ggX3_told_X3_find
set_option maxRecDepth 20000 in
theorem ggX3_told_X0_rank : GoodIn wsX3_told wsX0_rank := goodIn_r _ [14, 15, 16, 17, 18, 13, 19, 20, 21, 22, 23, 24, 72, 73] (by decide +kernel) (by decide +kernel)
set_option maxRecDepth 20000 in
theorem gX3_told_X0_rank : GoodIn wsX3_told (wsV RX3 84 RX0 yX0_rank wsX0_rank) := goodIn_app (goodIn_of _ (by decide +kernel)) ggX3_told_X0_rank
set_option maxRecDepth 20000 in
theorem ggX3_told_X0_inversions : GoodIn wsX3_told wsX0_inversions := goodIn_r _ [28, 15, 16, 17, 18, 13, 19, 20, 21, 22, 23, 24, 72, 73] (by decide +kernel) (by decide +kernel)
set_option maxRecDepth 20000 in
theorem gX3_told_X0_inversions : GoodIn wsX3_told (wsV RX3 134 RX0 yX0_inversions wsX0_inversions) := goodIn_app (goodIn_of _ (by decide +kernel)) ggX3_told_X0_inversions
set_option maxRecDepth 20000 in
theorem ggX3_told_X0_ringCount : GoodIn wsX3_told wsX0_ringCount := goodIn_r _ [32, 15, 33, 34, 35, 13, 36, 20, 21, 22, 23, 24, 72, 73] (by decide +kernel) (by decide +kernel)
set_option maxRecDepth 20000 in
theorem gX3_told_X0_ringCount : GoodIn wsX3_told (wsV RX3 137 RX0 yX0_ringCount wsX0_ringCount) := goodIn_app (goodIn_of _ (by decide +kernel)) ggX3_told_X0_ringCount
set_option maxRecDepth 20000 in
theorem ggX3_told_X0_longestRing : GoodIn wsX3_told wsX0_longestRing := goodIn_r _ [40, 15, 41, 42, 43, 44, 45, 46, 47, 13, 48, 20, 21, 22, 23, 24, 72, 73] (by decide +kernel) (by decide +kernel)
set_option maxRecDepth 20000 in
theorem gX3_told_X0_longestRing : GoodIn wsX3_told (wsV RX3 140 RX0 yX0_longestRing wsX0_longestRing) := goodIn_app (goodIn_of _ (by decide +kernel)) ggX3_told_X0_longestRing
set_option maxRecDepth 20000 in
theorem ggX3_told_X0_order : GoodIn wsX3_told wsX0_order := goodIn_r _ [52, 15, 45, 46, 47, 13, 48, 20, 21, 22, 23, 24, 53, 54, 55, 72, 73] (by decide +kernel) (by decide +kernel)
set_option maxRecDepth 20000 in
theorem gX3_told_X0_order : GoodIn wsX3_told (wsV RX3 143 RX0 yX0_order wsX0_order) := goodIn_app (goodIn_of _ (by decide +kernel)) ggX3_told_X0_order
set_option maxRecDepth 20000 in
theorem ggX3_told_X0_ownPlaces : GoodIn wsX3_told wsX0_ownPlaces := goodIn_r _ [59, 15, 20, 21, 22, 13, 23, 24, 72, 73] (by decide +kernel) (by decide +kernel)
set_option maxRecDepth 20000 in
theorem gX3_told_X0_ownPlaces : GoodIn wsX3_told (wsV RX3 146 RX0 yX0_ownPlaces wsX0_ownPlaces) := goodIn_app (goodIn_of _ (by decide +kernel)) ggX3_told_X0_ownPlaces
set_option maxRecDepth 20000 in
theorem ggX3_told_X0_placeOf : GoodIn wsX3_told wsX0_placeOf := goodIn_r _ [63, 15, 20, 21, 22, 13, 23, 24, 72, 73] (by decide +kernel) (by decide +kernel)
set_option maxRecDepth 20000 in
theorem gX3_told_X0_placeOf : GoodIn wsX3_told (wsV RX3 149 RX0 yX0_placeOf wsX0_placeOf) := goodIn_app (goodIn_of _ (by decide +kernel)) ggX3_told_X0_placeOf
theorem dX3_told_0 : decode cX3_told 0 = .ok (.aload_n 0, 1) := by decide +kernel
theorem dX3_told_1 : decode cX3_told 1 = .ok (.iload_n 1, 1) := by decide +kernel
theorem dX3_told_2 : decode cX3_told 2 = .ok (.invokevirtual 74, 3) := by decide +kernel
theorem dX3_told_5 : decode cX3_told 5 = .ok (.astore_n 3, 1) := by decide +kernel
theorem dX3_told_6 : decode cX3_told 6 = .ok (.iload_n 2, 1) := by decide +kernel
theorem dX3_told_7 : decode cX3_told 7 = .ok (.tableswitch 88 0 7 #[45, 50, 55, 62, 67, 72, 77, 82], 45) := by decide +kernel
theorem dX3_told_52 : decode cX3_told 52 = .ok (.aload_n 3, 1) := by decide +kernel
theorem dX3_told_53 : decode cX3_told 53 = .ok (.invokevirtual 84, 3) := by decide +kernel
theorem dX3_told_56 : decode cX3_told 56 = .ok (.ireturn, 1) := by decide +kernel
theorem dX3_told_57 : decode cX3_told 57 = .ok (.aload_n 3, 1) := by decide +kernel
theorem dX3_told_58 : decode cX3_told 58 = .ok (.invokevirtual 134, 3) := by decide +kernel
theorem dX3_told_61 : decode cX3_told 61 = .ok (.ireturn, 1) := by decide +kernel
theorem dX3_told_62 : decode cX3_told 62 = .ok (.aload_n 3, 1) := by decide +kernel
theorem dX3_told_63 : decode cX3_told 63 = .ok (.invokevirtual 134, 3) := by decide +kernel
theorem dX3_told_66 : decode cX3_told 66 = .ok (.iconst 1, 1) := by decide +kernel
theorem dX3_told_67 : decode cX3_told 67 = .ok (.iand, 1) := by decide +kernel
theorem dX3_told_68 : decode cX3_told 68 = .ok (.ireturn, 1) := by decide +kernel
theorem dX3_told_69 : decode cX3_told 69 = .ok (.aload_n 3, 1) := by decide +kernel
theorem dX3_told_70 : decode cX3_told 70 = .ok (.invokevirtual 137, 3) := by decide +kernel
theorem dX3_told_73 : decode cX3_told 73 = .ok (.ireturn, 1) := by decide +kernel
theorem dX3_told_74 : decode cX3_told 74 = .ok (.aload_n 3, 1) := by decide +kernel
theorem dX3_told_75 : decode cX3_told 75 = .ok (.invokevirtual 140, 3) := by decide +kernel
theorem dX3_told_78 : decode cX3_told 78 = .ok (.ireturn, 1) := by decide +kernel
theorem dX3_told_79 : decode cX3_told 79 = .ok (.aload_n 3, 1) := by decide +kernel
theorem dX3_told_80 : decode cX3_told 80 = .ok (.invokevirtual 143, 3) := by decide +kernel
theorem dX3_told_83 : decode cX3_told 83 = .ok (.ireturn, 1) := by decide +kernel
theorem dX3_told_84 : decode cX3_told 84 = .ok (.aload_n 3, 1) := by decide +kernel
theorem dX3_told_85 : decode cX3_told 85 = .ok (.invokevirtual 146, 3) := by decide +kernel
theorem dX3_told_88 : decode cX3_told 88 = .ok (.ireturn, 1) := by decide +kernel
theorem dX3_told_89 : decode cX3_told 89 = .ok (.aload_n 3, 1) := by decide +kernel
theorem dX3_told_90 : decode cX3_told 90 = .ok (.iconst 0, 1) := by decide +kernel
theorem dX3_told_91 : decode cX3_told 91 = .ok (.invokevirtual 149, 3) := by decide +kernel
theorem dX3_told_94 : decode cX3_told 94 = .ok (.ireturn, 1) := by decide +kernel
theorem dX3_told_95 : decode cX3_told 95 = .ok (.new 61, 3) := by decide +kernel
theorem dX3_told_98 : decode cX3_told 98 = .ok (.dup, 1) := by decide +kernel
theorem dX3_told_99 : decode cX3_told 99 = .ok (.ldc 152, 2) := by decide +kernel
theorem dX3_told_101 : decode cX3_told 101 = .ok (.invokespecial 65, 3) := by decide +kernel
theorem dX3_told_104 : decode cX3_told 104 = .ok (.athrow, 1) := by decide +kernel
set_option maxRecDepth 20000 in
theorem ggX3_round_X3_find : GoodIn wsX3_round wsX3_find := goodIn_ca (goodIn_r _ [5, 6, 7, 8, 9, 26, 27, 28, 29, 30, 31, 32, 33] (by decide +kernel) (by decide +kernel)) (goodIn_sub (fun _ h => List.mem_cons_of_mem _ (List.mem_append_right _ h)) (by decide +kernel))
set_option maxRecDepth 20000 in
theorem gX3_round_X3_find : GoodIn wsX3_round (wsV RX3 74 RX3 yX3_find wsX3_find) := goodIn_app (goodIn_of _ (by decide +kernel)) ggX3_round_X3_find
set_option maxRecDepth 20000 in
theorem ggX3_round_X3_checkPlace : GoodIn wsX3_round wsX3_checkPlace := goodIn_ca (goodIn_r _ [13, 6, 7, 14, 26, 27, 28, 29, 30, 31, 32, 33] (by decide +kernel) (by decide +kernel)) (goodIn_sub (fun _ h => List.mem_cons_of_mem _ (List.mem_append_right _ h)) (by decide +kernel))
set_option maxRecDepth 20000 in
theorem gX3_round_X3_checkPlace : GoodIn wsX3_round (wsV RX3 128 RX3 yX3_checkPlace wsX3_checkPlace) := goodIn_app (goodIn_of _ (by decide +kernel)) ggX3_round_X3_checkPlace
set_option maxRecDepth 20000 in
theorem ggX3_round_X0_ringLength : GoodIn wsX3_round wsX0_ringLength := goodIn_r _ [19, 20, 21, 22, 23, 18, 24, 25, 34, 35] (by decide +kernel) (by decide +kernel)
set_option maxRecDepth 20000 in
theorem gX3_round_X0_ringLength : GoodIn wsX3_round (wsV RX3 154 RX0 yX0_ringLength wsX0_ringLength) := goodIn_app (goodIn_of _ (by decide +kernel)) ggX3_round_X0_ringLength
theorem dX3_round_0 : decode cX3_round 0 = .ok (.aload_n 0, 1) := by decide +kernel
theorem dX3_round_1 : decode cX3_round 1 = .ok (.iload_n 1, 1) := by decide +kernel
theorem dX3_round_2 : decode cX3_round 2 = .ok (.invokevirtual 74, 3) := by decide +kernel
theorem dX3_round_5 : decode cX3_round 5 = .ok (.astore_n 3, 1) := by decide +kernel
theorem dX3_round_6 : decode cX3_round 6 = .ok (.aload_n 0, 1) := by decide +kernel
theorem dX3_round_7 : decode cX3_round 7 = .ok (.iload_n 2, 1) := by decide +kernel
theorem dX3_round_8 : decode cX3_round 8 = .ok (.invokevirtual 128, 3) := by decide +kernel
theorem dX3_round_11 : decode cX3_round 11 = .ok (.aload_n 3, 1) := by decide +kernel
theorem dX3_round_12 : decode cX3_round 12 = .ok (.iload_n 2, 1) := by decide +kernel
theorem dX3_round_13 : decode cX3_round 13 = .ok (.invokevirtual 154, 3) := by decide +kernel
theorem dX3_round_16 : decode cX3_round 16 = .ok (.ireturn, 1) := by decide +kernel
set_option maxRecDepth 20000 in
theorem ggX3_apart_X3_find : GoodIn wsX3_apart wsX3_find := goodIn_ca (goodIn_r _ [6, 7, 8, 9, 10, 23, 24, 25, 26, 27, 28, 29, 30] (by decide +kernel) (by decide +kernel)) (goodIn_sub (fun _ h => List.mem_cons_of_mem _ (List.mem_append_right _ h)) (by decide +kernel))
set_option maxRecDepth 20000 in
theorem gX3_apart_X3_find : GoodIn wsX3_apart (wsV RX3 74 RX3 yX3_find wsX3_find) := goodIn_app (goodIn_of _ (by decide +kernel)) ggX3_apart_X3_find
set_option maxRecDepth 20000 in
theorem ggX3_apart_X0_bellAt : GoodIn wsX3_apart wsX0_bellAt := goodIn_r _ [15, 16, 31, 32] (by decide +kernel) (by decide +kernel)
set_option maxRecDepth 20000 in
theorem gX3_apart_X0_bellAt : GoodIn wsX3_apart (wsV RX3 131 RX0 yX0_bellAt wsX0_bellAt) := goodIn_app (goodIn_of _ (by decide +kernel)) ggX3_apart_X0_bellAt
set_option maxRecDepth 20000 in
theorem ggX3_apart_X0_placeOf : GoodIn wsX3_apart wsX0_placeOf := goodIn_r _ [20, 21, 22, 12, 13, 14, 15, 16, 31, 32] (by decide +kernel) (by decide +kernel)
set_option maxRecDepth 20000 in
theorem gX3_apart_X0_placeOf : GoodIn wsX3_apart (wsV RX3 149 RX0 yX0_placeOf wsX0_placeOf) := goodIn_app (goodIn_of _ (by decide +kernel)) ggX3_apart_X0_placeOf
theorem dX3_apart_0 : decode cX3_apart 0 = .ok (.aload_n 0, 1) := by decide +kernel
theorem dX3_apart_1 : decode cX3_apart 1 = .ok (.iload_n 1, 1) := by decide +kernel
theorem dX3_apart_2 : decode cX3_apart 2 = .ok (.invokevirtual 74, 3) := by decide +kernel
theorem dX3_apart_5 : decode cX3_apart 5 = .ok (.astore_n 3, 1) := by decide +kernel
theorem dX3_apart_6 : decode cX3_apart 6 = .ok (.aload_n 0, 1) := by decide +kernel
theorem dX3_apart_7 : decode cX3_apart 7 = .ok (.iload_n 2, 1) := by decide +kernel
theorem dX3_apart_8 : decode cX3_apart 8 = .ok (.invokevirtual 74, 3) := by decide +kernel
theorem dX3_apart_11 : decode cX3_apart 11 = .ok (.astore 4, 2) := by decide +kernel
theorem dX3_apart_13 : decode cX3_apart 13 = .ok (.iconst 0, 1) := by decide +kernel
theorem dX3_apart_14 : decode cX3_apart 14 = .ok (.istore 5, 2) := by decide +kernel
theorem dX3_apart_16 : decode cX3_apart 16 = .ok (.iconst 0, 1) := by decide +kernel
theorem dX3_apart_17 : decode cX3_apart 17 = .ok (.istore 6, 2) := by decide +kernel
theorem dX3_apart_19 : decode cX3_apart 19 = .ok (.iload 6, 2) := by decide +kernel
theorem dX3_apart_21 : decode cX3_apart 21 = .ok (.aload_n 0, 1) := by decide +kernel
theorem dX3_apart_22 : decode cX3_apart 22 = .ok (.getfield 37, 3) := by decide +kernel
theorem dX3_apart_25 : decode cX3_apart 25 = .ok (.if_icmp .ge 58, 3) := by decide +kernel
theorem dX3_apart_28 : decode cX3_apart 28 = .ok (.iload 6, 2) := by decide +kernel
theorem dX3_apart_30 : decode cX3_apart 30 = .ok (.iconst 1, 1) := by decide +kernel
theorem dX3_apart_31 : decode cX3_apart 31 = .ok (.iadd, 1) := by decide +kernel
theorem dX3_apart_32 : decode cX3_apart 32 = .ok (.istore 7, 2) := by decide +kernel
theorem dX3_apart_34 : decode cX3_apart 34 = .ok (.iload 7, 2) := by decide +kernel
theorem dX3_apart_36 : decode cX3_apart 36 = .ok (.aload_n 0, 1) := by decide +kernel
theorem dX3_apart_37 : decode cX3_apart 37 = .ok (.getfield 37, 3) := by decide +kernel
theorem dX3_apart_40 : decode cX3_apart 40 = .ok (.if_icmp .ge 37, 3) := by decide +kernel
theorem dX3_apart_43 : decode cX3_apart 43 = .ok (.aload 4, 2) := by decide +kernel
theorem dX3_apart_45 : decode cX3_apart 45 = .ok (.aload_n 3, 1) := by decide +kernel
theorem dX3_apart_46 : decode cX3_apart 46 = .ok (.iload 6, 2) := by decide +kernel
theorem dX3_apart_48 : decode cX3_apart 48 = .ok (.invokevirtual 131, 3) := by decide +kernel
theorem dX3_apart_51 : decode cX3_apart 51 = .ok (.invokevirtual 149, 3) := by decide +kernel
theorem dX3_apart_54 : decode cX3_apart 54 = .ok (.aload 4, 2) := by decide +kernel
theorem dX3_apart_56 : decode cX3_apart 56 = .ok (.aload_n 3, 1) := by decide +kernel
theorem dX3_apart_57 : decode cX3_apart 57 = .ok (.iload 7, 2) := by decide +kernel
theorem dX3_apart_59 : decode cX3_apart 59 = .ok (.invokevirtual 131, 3) := by decide +kernel
theorem dX3_apart_62 : decode cX3_apart 62 = .ok (.invokevirtual 149, 3) := by decide +kernel
theorem dX3_apart_65 : decode cX3_apart 65 = .ok (.if_icmp .le 6, 3) := by decide +kernel
theorem dX3_apart_68 : decode cX3_apart 68 = .ok (.iinc 5 1, 3) := by decide +kernel
theorem dX3_apart_71 : decode cX3_apart 71 = .ok (.iinc 7 1, 3) := by decide +kernel
theorem dX3_apart_74 : decode cX3_apart 74 = .ok (.goto (-40), 3) := by decide +kernel
theorem dX3_apart_77 : decode cX3_apart 77 = .ok (.iinc 6 1, 3) := by decide +kernel
theorem dX3_apart_80 : decode cX3_apart 80 = .ok (.goto (-61), 3) := by decide +kernel
theorem dX3_apart_83 : decode cX3_apart 83 = .ok (.iload 5, 2) := by decide +kernel
theorem dX3_apart_85 : decode cX3_apart 85 = .ok (.ireturn, 1) := by decide +kernel
set_option maxRecDepth 20000 in
theorem ggX3_count_X3_changesOf : GoodIn wsX3_count wsX3_changesOf := goodIn_r _ [10] (by decide +kernel) (by decide +kernel)
set_option maxRecDepth 20000 in
theorem gX3_count_X3_changesOf : GoodIn wsX3_count (va_wsS RX3 57 yX3_changesOf wsX3_changesOf) := goodIn_app (goodIn_of _ (by decide +kernel)) ggX3_count_X3_changesOf
set_option maxRecDepth 20000 in
theorem ggX3_count_X3_differentInBook : GoodIn wsX3_count wsX3_differentInBook := goodIn_r _ [14, 15, 4, 16, 17, 18, 19, 20, 21, 22, 23, 24, 25, 26, 27, 28, 29, 30, 31, 32, 33, 34, 35, 36, 37, 38, 39, 40, 41, 42, 43, 44, 45, 46, 53, 54, 55, 56, 57, 58, 59, 60, 61, 62, 63, 64] (by decide +kernel) (by decide +kernel)
set_option maxRecDepth 20000 in
theorem gX3_count_X3_differentInBook : GoodIn wsX3_count (wsV RX3 157 RX3 yX3_differentInBook wsX3_differentInBook) := goodIn_app (goodIn_of _ (by decide +kernel)) ggX3_count_X3_differentInBook
set_option maxRecDepth 20000 in
theorem ggX3_count_X1_length : GoodIn wsX3_count wsX1_length := goodIn_r _ [51, 52, 65, 66] (by decide +kernel) (by decide +kernel)
set_option maxRecDepth 20000 in
theorem gX3_count_X1_length : GoodIn wsX3_count (wsV RX3 111 RX1 yX1_length wsX1_length) := goodIn_app (goodIn_of _ (by decide +kernel)) ggX3_count_X1_length
theorem dX3_count_0 : decode cX3_count 0 = .ok (.iload_n 1, 1) := by decide +kernel
theorem dX3_count_1 : decode cX3_count 1 = .ok (.tableswitch 75 0 5 #[39, 44, 52, 57, 62, 70], 39) := by decide +kernel
theorem dX3_count_40 : decode cX3_count 40 = .ok (.aload_n 0, 1) := by decide +kernel
theorem dX3_count_41 : decode cX3_count 41 = .ok (.getfield 37, 3) := by decide +kernel
theorem dX3_count_44 : decode cX3_count 44 = .ok (.ireturn, 1) := by decide +kernel
theorem dX3_count_45 : decode cX3_count 45 = .ok (.aload_n 0, 1) := by decide +kernel
theorem dX3_count_46 : decode cX3_count 46 = .ok (.getfield 37, 3) := by decide +kernel
theorem dX3_count_49 : decode cX3_count 49 = .ok (.invokestatic 57, 3) := by decide +kernel
theorem dX3_count_52 : decode cX3_count 52 = .ok (.ireturn, 1) := by decide +kernel
theorem dX3_count_53 : decode cX3_count 53 = .ok (.aload_n 0, 1) := by decide +kernel
theorem dX3_count_54 : decode cX3_count 54 = .ok (.getfield 41, 3) := by decide +kernel
theorem dX3_count_57 : decode cX3_count 57 = .ok (.ireturn, 1) := by decide +kernel
theorem dX3_count_58 : decode cX3_count 58 = .ok (.aload_n 0, 1) := by decide +kernel
theorem dX3_count_59 : decode cX3_count 59 = .ok (.invokevirtual 157, 3) := by decide +kernel
theorem dX3_count_62 : decode cX3_count 62 = .ok (.ireturn, 1) := by decide +kernel
theorem dX3_count_63 : decode cX3_count 63 = .ok (.aload_n 0, 1) := by decide +kernel
theorem dX3_count_64 : decode cX3_count 64 = .ok (.getfield 19, 3) := by decide +kernel
theorem dX3_count_67 : decode cX3_count 67 = .ok (.invokevirtual 111, 3) := by decide +kernel
theorem dX3_count_70 : decode cX3_count 70 = .ok (.ireturn, 1) := by decide +kernel
theorem dX3_count_71 : decode cX3_count 71 = .ok (.aload_n 0, 1) := by decide +kernel
theorem dX3_count_72 : decode cX3_count 72 = .ok (.getfield 44, 3) := by decide +kernel
theorem dX3_count_75 : decode cX3_count 75 = .ok (.ireturn, 1) := by decide +kernel
theorem dX3_count_76 : decode cX3_count 76 = .ok (.new 61, 3) := by decide +kernel
theorem dX3_count_79 : decode cX3_count 79 = .ok (.dup, 1) := by decide +kernel
theorem dX3_count_80 : decode cX3_count 80 = .ok (.ldc 160, 2) := by decide +kernel
theorem dX3_count_82 : decode cX3_count 82 = .ok (.invokespecial 65, 3) := by decide +kernel
theorem dX3_count_85 : decode cX3_count 85 = .ok (.athrow, 1) := by decide +kernel
set_option maxRecDepth 20000 in
theorem ggX3_kept_X1_length : GoodIn wsX3_kept wsX1_length := goodIn_r _ [8, 9, 23, 24] (by decide +kernel) (by decide +kernel)
set_option maxRecDepth 20000 in
theorem gX3_kept_X1_length : GoodIn wsX3_kept (wsV RX3 111 RX1 yX1_length wsX1_length) := goodIn_app (goodIn_of _ (by decide +kernel)) ggX3_kept_X1_length
set_option maxRecDepth 20000 in
theorem ggX3_kept_X1_keptAt : GoodIn wsX3_kept wsX1_keptAt := goodIn_r _ [13, 14, 23, 24] (by decide +kernel) (by decide +kernel)
set_option maxRecDepth 20000 in
theorem gX3_kept_X1_keptAt : GoodIn wsX3_kept (wsV RX3 164 RX1 yX1_keptAt wsX1_keptAt) := goodIn_app (goodIn_of _ (by decide +kernel)) ggX3_kept_X1_keptAt
theorem dX3_kept_0 : decode cX3_kept 0 = .ok (.iload_n 1, 1) := by decide +kernel
theorem dX3_kept_1 : decode cX3_kept 1 = .ok (.ifCond .lt 14, 3) := by decide +kernel
theorem dX3_kept_4 : decode cX3_kept 4 = .ok (.iload_n 1, 1) := by decide +kernel
theorem dX3_kept_5 : decode cX3_kept 5 = .ok (.aload_n 0, 1) := by decide +kernel
theorem dX3_kept_6 : decode cX3_kept 6 = .ok (.getfield 19, 3) := by decide +kernel
theorem dX3_kept_9 : decode cX3_kept 9 = .ok (.invokevirtual 111, 3) := by decide +kernel
theorem dX3_kept_12 : decode cX3_kept 12 = .ok (.if_icmp .lt 13, 3) := by decide +kernel
theorem dX3_kept_15 : decode cX3_kept 15 = .ok (.new 61, 3) := by decide +kernel
theorem dX3_kept_18 : decode cX3_kept 18 = .ok (.dup, 1) := by decide +kernel
theorem dX3_kept_19 : decode cX3_kept 19 = .ok (.ldc 162, 2) := by decide +kernel
theorem dX3_kept_21 : decode cX3_kept 21 = .ok (.invokespecial 65, 3) := by decide +kernel
theorem dX3_kept_24 : decode cX3_kept 24 = .ok (.athrow, 1) := by decide +kernel
theorem dX3_kept_25 : decode cX3_kept 25 = .ok (.aload_n 0, 1) := by decide +kernel
theorem dX3_kept_26 : decode cX3_kept 26 = .ok (.getfield 19, 3) := by decide +kernel
theorem dX3_kept_29 : decode cX3_kept 29 = .ok (.iload_n 1, 1) := by decide +kernel
theorem dX3_kept_30 : decode cX3_kept 30 = .ok (.invokevirtual 164, 3) := by decide +kernel
theorem dX3_kept_33 : decode cX3_kept 33 = .ok (.ireturn, 1) := by decide +kernel
set_option maxRecDepth 20000 in
theorem ggX3_comes_X3_find : GoodIn wsX3_comes wsX3_find := goodIn_ca (goodIn_r _ [7, 8, 9, 10, 11, 57, 58, 59, 60, 61, 62, 63, 64] (by decide +kernel) (by decide +kernel)) (goodIn_sub (fun _ h => List.mem_cons_of_mem _ (List.mem_append_right _ h)) (by decide +kernel))
set_option maxRecDepth 20000 in
theorem gX3_comes_X3_find : GoodIn wsX3_comes (wsV RX3 74 RX3 yX3_find wsX3_find) := goodIn_app (goodIn_of _ (by decide +kernel)) ggX3_comes_X3_find
set_option maxRecDepth 20000 in
theorem ggX3_comes_X1_length : GoodIn wsX3_comes wsX1_length := goodIn_r _ [16, 17, 65, 66] (by decide +kernel) (by decide +kernel)
set_option maxRecDepth 20000 in
theorem gX3_comes_X1_length : GoodIn wsX3_comes (wsV RX3 111 RX1 yX1_length wsX1_length) := goodIn_app (goodIn_of _ (by decide +kernel)) ggX3_comes_X1_length
set_option maxRecDepth 20000 in
theorem ggX3_comes_X0_setCopy : GoodIn wsX3_comes wsX0_setCopy := goodIn_r _ [22, 23, 24, 25, 26, 21, 27, 28, 29, 30, 31, 32, 67, 68] (by decide +kernel) (by decide +kernel)
set_option maxRecDepth 20000 in
theorem gX3_comes_X0_setCopy : GoodIn wsX3_comes (wsV RX3 96 RX0 yX0_setCopy wsX0_setCopy) := goodIn_app (goodIn_of _ (by decide +kernel)) ggX3_comes_X0_setCopy
set_option maxRecDepth 20000 in
theorem ggX3_comes_X1_ringOn : GoodIn wsX3_comes wsX1_ringOn := goodIn_r _ [36, 17, 37, 38, 39, 15, 40, 41, 42, 43, 44, 21, 45, 23, 46, 47, 48, 49, 50, 51, 52, 24, 25, 26, 27, 28, 29, 30, 31, 32, 65, 66, 67, 68] (by decide +kernel) (by decide +kernel)
set_option maxRecDepth 20000 in
theorem gX3_comes_X1_ringOn : GoodIn wsX3_comes (wsV RX3 125 RX1 yX1_ringOn wsX1_ringOn) := goodIn_app (goodIn_of _ (by decide +kernel)) ggX3_comes_X1_ringOn
set_option maxRecDepth 20000 in
theorem ggX3_comes_X0_isSame : GoodIn wsX3_comes wsX0_isSame := goodIn_r _ [56, 23, 24, 25, 26, 21, 27, 28, 67, 68] (by decide +kernel) (by decide +kernel)
set_option maxRecDepth 20000 in
theorem gX3_comes_X0_isSame : GoodIn wsX3_comes (wsV RX3 167 RX0 yX0_isSame wsX0_isSame) := goodIn_app (goodIn_of _ (by decide +kernel)) ggX3_comes_X0_isSame
theorem dX3_comes_0 : decode cX3_comes 0 = .ok (.aload_n 0, 1) := by decide +kernel
theorem dX3_comes_1 : decode cX3_comes 1 = .ok (.iload_n 1, 1) := by decide +kernel
theorem dX3_comes_2 : decode cX3_comes 2 = .ok (.invokevirtual 74, 3) := by decide +kernel
theorem dX3_comes_5 : decode cX3_comes 5 = .ok (.astore_n 2, 1) := by decide +kernel
theorem dX3_comes_6 : decode cX3_comes 6 = .ok (.aload_n 0, 1) := by decide +kernel
theorem dX3_comes_7 : decode cX3_comes 7 = .ok (.getfield 19, 3) := by decide +kernel
theorem dX3_comes_10 : decode cX3_comes 10 = .ok (.invokevirtual 111, 3) := by decide +kernel
theorem dX3_comes_13 : decode cX3_comes 13 = .ok (.ifCond .ne 5, 3) := by decide +kernel
theorem dX3_comes_16 : decode cX3_comes 16 = .ok (.iconst (-1), 1) := by decide +kernel
theorem dX3_comes_17 : decode cX3_comes 17 = .ok (.ireturn, 1) := by decide +kernel
theorem dX3_comes_18 : decode cX3_comes 18 = .ok (.aload_n 0, 1) := by decide +kernel
theorem dX3_comes_19 : decode cX3_comes 19 = .ok (.getfield 23, 3) := by decide +kernel
theorem dX3_comes_22 : decode cX3_comes 22 = .ok (.aload_n 2, 1) := by decide +kernel
theorem dX3_comes_23 : decode cX3_comes 23 = .ok (.invokevirtual 96, 3) := by decide +kernel
theorem dX3_comes_26 : decode cX3_comes 26 = .ok (.iconst 1, 1) := by decide +kernel
theorem dX3_comes_27 : decode cX3_comes 27 = .ok (.istore_n 3, 1) := by decide +kernel
theorem dX3_comes_28 : decode cX3_comes 28 = .ok (.iload_n 3, 1) := by decide +kernel
theorem dX3_comes_29 : decode cX3_comes 29 = .ok (.sipush 400, 3) := by decide +kernel
theorem dX3_comes_32 : decode cX3_comes 32 = .ok (.if_icmp .gt 36, 3) := by decide +kernel
theorem dX3_comes_35 : decode cX3_comes 35 = .ok (.aload_n 0, 1) := by decide +kernel
theorem dX3_comes_36 : decode cX3_comes 36 = .ok (.getfield 19, 3) := by decide +kernel
theorem dX3_comes_39 : decode cX3_comes 39 = .ok (.aload_n 0, 1) := by decide +kernel
theorem dX3_comes_40 : decode cX3_comes 40 = .ok (.getfield 23, 3) := by decide +kernel
theorem dX3_comes_43 : decode cX3_comes 43 = .ok (.iload_n 3, 1) := by decide +kernel
theorem dX3_comes_44 : decode cX3_comes 44 = .ok (.iconst 1, 1) := by decide +kernel
theorem dX3_comes_45 : decode cX3_comes 45 = .ok (.isub, 1) := by decide +kernel
theorem dX3_comes_46 : decode cX3_comes 46 = .ok (.invokevirtual 125, 3) := by decide +kernel
theorem dX3_comes_49 : decode cX3_comes 49 = .ok (.aload_n 0, 1) := by decide +kernel
theorem dX3_comes_50 : decode cX3_comes 50 = .ok (.getfield 23, 3) := by decide +kernel
theorem dX3_comes_53 : decode cX3_comes 53 = .ok (.aload_n 2, 1) := by decide +kernel
theorem dX3_comes_54 : decode cX3_comes 54 = .ok (.invokevirtual 167, 3) := by decide +kernel
theorem dX3_comes_57 : decode cX3_comes 57 = .ok (.ifCond .eq 5, 3) := by decide +kernel
theorem dX3_comes_60 : decode cX3_comes 60 = .ok (.iload_n 3, 1) := by decide +kernel
theorem dX3_comes_61 : decode cX3_comes 61 = .ok (.ireturn, 1) := by decide +kernel
theorem dX3_comes_62 : decode cX3_comes 62 = .ok (.iinc 3 1, 3) := by decide +kernel
theorem dX3_comes_65 : decode cX3_comes 65 = .ok (.goto (-37), 3) := by decide +kernel
theorem dX3_comes_68 : decode cX3_comes 68 = .ok (.iconst (-1), 1) := by decide +kernel
theorem dX3_comes_69 : decode cX3_comes 69 = .ok (.ireturn, 1) := by decide +kernel
set_option maxRecDepth 20000 in
theorem ggX3_differ_X3_checkSteps : GoodIn wsX3_differ wsX3_checkSteps := goodIn_ca (goodIn_r _ [8, 9, 10] (by decide +kernel) (by decide +kernel)) (goodIn_sub (fun _ h => List.mem_cons_of_mem _ (List.mem_append_right _ h)) (by decide +kernel))
set_option maxRecDepth 20000 in
theorem gX3_differ_X3_checkSteps : GoodIn wsX3_differ (va_wsS RX3 122 yX3_checkSteps wsX3_checkSteps) := goodIn_app (goodIn_of _ (by decide +kernel)) ggX3_differ_X3_checkSteps
set_option maxRecDepth 20000 in
theorem ggX3_differ_X0_setRank : GoodIn wsX3_differ wsX0_setRank := goodIn_r _ [15, 16, 17, 18, 19, 14, 20, 21, 22, 23, 24, 25, 26, 27, 28, 29, 87, 88] (by decide +kernel) (by decide +kernel)
set_option maxRecDepth 20000 in
theorem gX3_differ_X0_setRank : GoodIn wsX3_differ (wsV RX3 70 RX0 yX0_setRank wsX0_setRank) := goodIn_app (goodIn_of _ (by decide +kernel)) ggX3_differ_X0_setRank
set_option maxRecDepth 20000 in
theorem ggX3_differ_X2_removeAll : GoodIn wsX3_differ wsX2_removeAll := goodIn_r _ [34, 35, 89, 90] (by decide +kernel) (by decide +kernel)
set_option maxRecDepth 20000 in
theorem gX3_differ_X2_removeAll : GoodIn wsX3_differ (wsV RX3 171 RX2 yX2_removeAll wsX2_removeAll) := goodIn_app (goodIn_of _ (by decide +kernel)) ggX3_differ_X2_removeAll
set_option maxRecDepth 20000 in
theorem ggX3_differ_X0_rank : GoodIn wsX3_differ wsX0_rank := goodIn_r _ [39, 16, 40, 41, 42, 14, 43, 26, 27, 28, 29, 25, 87, 88] (by decide +kernel) (by decide +kernel)
set_option maxRecDepth 20000 in
theorem gX3_differ_X0_rank : GoodIn wsX3_differ (wsV RX3 84 RX0 yX0_rank wsX0_rank) := goodIn_app (goodIn_of _ (by decide +kernel)) ggX3_differ_X0_rank
set_option maxRecDepth 20000 in
theorem ggX3_differ_X2_add : GoodIn wsX3_differ wsX2_add := goodIn_r _ [47, 35, 48, 89, 90] (by decide +kernel) (by decide +kernel)
set_option maxRecDepth 20000 in
theorem gX3_differ_X2_add : GoodIn wsX3_differ (wsV RX3 172 RX2 yX2_add wsX2_add) := goodIn_app (goodIn_of _ (by decide +kernel)) ggX3_differ_X2_add
set_option maxRecDepth 20000 in
theorem ggX3_differ_X1_length : GoodIn wsX3_differ wsX1_length := goodIn_r _ [53, 54, 91, 92] (by decide +kernel) (by decide +kernel)
set_option maxRecDepth 20000 in
theorem gX3_differ_X1_length : GoodIn wsX3_differ (wsV RX3 111 RX1 yX1_length wsX1_length) := goodIn_app (goodIn_of _ (by decide +kernel)) ggX3_differ_X1_length
set_option maxRecDepth 20000 in
theorem ggX3_differ_X1_ringOn : GoodIn wsX3_differ wsX1_ringOn := goodIn_r _ [58, 54, 59, 60, 61, 52, 62, 63, 64, 65, 66, 14, 67, 16, 68, 69, 70, 71, 72, 73, 74, 26, 27, 28, 29, 25, 21, 22, 23, 24, 91, 92, 87, 88] (by decide +kernel) (by decide +kernel)
set_option maxRecDepth 20000 in
theorem gX3_differ_X1_ringOn : GoodIn wsX3_differ (wsV RX3 125 RX1 yX1_ringOn wsX1_ringOn) := goodIn_app (goodIn_of _ (by decide +kernel)) ggX3_differ_X1_ringOn
set_option maxRecDepth 20000 in
theorem ggX3_differ_X2_size : GoodIn wsX3_differ wsX2_size := goodIn_r _ [78, 35, 89, 90] (by decide +kernel) (by decide +kernel)
set_option maxRecDepth 20000 in
theorem gX3_differ_X2_size : GoodIn wsX3_differ (wsV RX3 173 RX2 yX2_size wsX2_size) := goodIn_app (goodIn_of _ (by decide +kernel)) ggX3_differ_X2_size
theorem dX3_differ_0 : decode cX3_differ 0 = .ok (.iload_n 1, 1) := by decide +kernel
theorem dX3_differ_1 : decode cX3_differ 1 = .ok (.invokestatic 122, 3) := by decide +kernel
theorem dX3_differ_4 : decode cX3_differ 4 = .ok (.aload_n 0, 1) := by decide +kernel
theorem dX3_differ_5 : decode cX3_differ 5 = .ok (.getfield 23, 3) := by decide +kernel
theorem dX3_differ_8 : decode cX3_differ 8 = .ok (.aload_n 0, 1) := by decide +kernel
theorem dX3_differ_9 : decode cX3_differ 9 = .ok (.getfield 37, 3) := by decide +kernel
theorem dX3_differ_12 : decode cX3_differ 12 = .ok (.iconst 0, 1) := by decide +kernel
theorem dX3_differ_13 : decode cX3_differ 13 = .ok (.invokevirtual 70, 3) := by decide +kernel
theorem dX3_differ_16 : decode cX3_differ 16 = .ok (.aload_n 0, 1) := by decide +kernel
theorem dX3_differ_17 : decode cX3_differ 17 = .ok (.getfield 33, 3) := by decide +kernel
theorem dX3_differ_20 : decode cX3_differ 20 = .ok (.invokevirtual 171, 3) := by decide +kernel
theorem dX3_differ_23 : decode cX3_differ 23 = .ok (.aload_n 0, 1) := by decide +kernel
theorem dX3_differ_24 : decode cX3_differ 24 = .ok (.getfield 33, 3) := by decide +kernel
theorem dX3_differ_27 : decode cX3_differ 27 = .ok (.aload_n 0, 1) := by decide +kernel
theorem dX3_differ_28 : decode cX3_differ 28 = .ok (.getfield 23, 3) := by decide +kernel
theorem dX3_differ_31 : decode cX3_differ 31 = .ok (.invokevirtual 84, 3) := by decide +kernel
theorem dX3_differ_34 : decode cX3_differ 34 = .ok (.invokevirtual 172, 3) := by decide +kernel
theorem dX3_differ_37 : decode cX3_differ 37 = .ok (.aload_n 0, 1) := by decide +kernel
theorem dX3_differ_38 : decode cX3_differ 38 = .ok (.getfield 19, 3) := by decide +kernel
theorem dX3_differ_41 : decode cX3_differ 41 = .ok (.invokevirtual 111, 3) := by decide +kernel
theorem dX3_differ_44 : decode cX3_differ 44 = .ok (.ifCond .le 42, 3) := by decide +kernel
theorem dX3_differ_47 : decode cX3_differ 47 = .ok (.iconst 0, 1) := by decide +kernel
theorem dX3_differ_48 : decode cX3_differ 48 = .ok (.istore_n 2, 1) := by decide +kernel
theorem dX3_differ_49 : decode cX3_differ 49 = .ok (.iload_n 2, 1) := by decide +kernel
theorem dX3_differ_50 : decode cX3_differ 50 = .ok (.iload_n 1, 1) := by decide +kernel
theorem dX3_differ_51 : decode cX3_differ 51 = .ok (.if_icmp .ge 35, 3) := by decide +kernel
theorem dX3_differ_54 : decode cX3_differ 54 = .ok (.aload_n 0, 1) := by decide +kernel
theorem dX3_differ_55 : decode cX3_differ 55 = .ok (.getfield 19, 3) := by decide +kernel
theorem dX3_differ_58 : decode cX3_differ 58 = .ok (.aload_n 0, 1) := by decide +kernel
theorem dX3_differ_59 : decode cX3_differ 59 = .ok (.getfield 23, 3) := by decide +kernel
theorem dX3_differ_62 : decode cX3_differ 62 = .ok (.iload_n 2, 1) := by decide +kernel
theorem dX3_differ_63 : decode cX3_differ 63 = .ok (.invokevirtual 125, 3) := by decide +kernel
theorem dX3_differ_66 : decode cX3_differ 66 = .ok (.aload_n 0, 1) := by decide +kernel
theorem dX3_differ_67 : decode cX3_differ 67 = .ok (.getfield 33, 3) := by decide +kernel
theorem dX3_differ_70 : decode cX3_differ 70 = .ok (.aload_n 0, 1) := by decide +kernel
theorem dX3_differ_71 : decode cX3_differ 71 = .ok (.getfield 23, 3) := by decide +kernel
theorem dX3_differ_74 : decode cX3_differ 74 = .ok (.invokevirtual 84, 3) := by decide +kernel
theorem dX3_differ_77 : decode cX3_differ 77 = .ok (.invokevirtual 172, 3) := by decide +kernel
theorem dX3_differ_80 : decode cX3_differ 80 = .ok (.iinc 2 1, 3) := by decide +kernel
theorem dX3_differ_83 : decode cX3_differ 83 = .ok (.goto (-34), 3) := by decide +kernel
theorem dX3_differ_86 : decode cX3_differ 86 = .ok (.aload_n 0, 1) := by decide +kernel
theorem dX3_differ_87 : decode cX3_differ 87 = .ok (.getfield 33, 3) := by decide +kernel
theorem dX3_differ_90 : decode cX3_differ 90 = .ok (.invokevirtual 173, 3) := by decide +kernel
theorem dX3_differ_93 : decode cX3_differ 93 = .ok (.ireturn, 1) := by decide +kernel
set_option maxRecDepth 20000 in
theorem ggX3_advise_X3_find : GoodIn wsX3_advise wsX3_find := goodIn_ca (goodIn_r _ [8, 9, 10, 1, 3, 34, 35, 36, 37, 38, 39, 40, 41] (by decide +kernel) (by decide +kernel)) (goodIn_sub (fun _ h => List.mem_cons_of_mem _ (List.mem_append_right _ h)) (by decide +kernel))
set_option maxRecDepth 20000 in
theorem gX3_advise_X3_find : GoodIn wsX3_advise (wsV RX3 74 RX3 yX3_find wsX3_find) := goodIn_app (goodIn_of _ (by decide +kernel)) ggX3_advise_X3_find
set_option maxRecDepth 20000 in
theorem ggX3_advise_X0_setBehind : GoodIn wsX3_advise wsX0_setBehind := goodIn_r _ [15, 16, 17, 18, 19, 14, 20, 21, 22, 23, 24, 25, 42, 43] (by decide +kernel) (by decide +kernel)
set_option maxRecDepth 20000 in
theorem gX3_advise_X0_setBehind : GoodIn wsX3_advise (wsV RX3 88 RX0 yX0_setBehind wsX0_setBehind) := goodIn_app (goodIn_of _ (by decide +kernel)) ggX3_advise_X0_setBehind
set_option maxRecDepth 20000 in
theorem ggX3_advise_X0_inversions : GoodIn wsX3_advise wsX0_inversions := goodIn_r _ [29, 16, 30, 31, 32, 14, 33, 17, 18, 19, 20, 21, 42, 43] (by decide +kernel) (by decide +kernel)
set_option maxRecDepth 20000 in
theorem gX3_advise_X0_inversions : GoodIn wsX3_advise (wsV RX3 134 RX0 yX0_inversions wsX0_inversions) := goodIn_app (goodIn_of _ (by decide +kernel)) ggX3_advise_X0_inversions
theorem dX3_advise_0 : decode cX3_advise 0 = .ok (.aload_n 0, 1) := by decide +kernel
theorem dX3_advise_1 : decode cX3_advise 1 = .ok (.iload_n 1, 1) := by decide +kernel
theorem dX3_advise_2 : decode cX3_advise 2 = .ok (.invokevirtual 74, 3) := by decide +kernel
theorem dX3_advise_5 : decode cX3_advise 5 = .ok (.astore_n 2, 1) := by decide +kernel
theorem dX3_advise_6 : decode cX3_advise 6 = .ok (.iconst 0, 1) := by decide +kernel
theorem dX3_advise_7 : decode cX3_advise 7 = .ok (.istore_n 3, 1) := by decide +kernel
theorem dX3_advise_8 : decode cX3_advise 8 = .ok (.iconst 0, 1) := by decide +kernel
theorem dX3_advise_9 : decode cX3_advise 9 = .ok (.istore 4, 2) := by decide +kernel
theorem dX3_advise_11 : decode cX3_advise 11 = .ok (.iconst 0, 1) := by decide +kernel
theorem dX3_advise_12 : decode cX3_advise 12 = .ok (.istore 5, 2) := by decide +kernel
theorem dX3_advise_14 : decode cX3_advise 14 = .ok (.iload 5, 2) := by decide +kernel
theorem dX3_advise_16 : decode cX3_advise 16 = .ok (.aload_n 0, 1) := by decide +kernel
theorem dX3_advise_17 : decode cX3_advise 17 = .ok (.getfield 41, 3) := by decide +kernel
theorem dX3_advise_20 : decode cX3_advise 20 = .ok (.if_icmp .ge 52, 3) := by decide +kernel
theorem dX3_advise_23 : decode cX3_advise 23 = .ok (.aload_n 0, 1) := by decide +kernel
theorem dX3_advise_24 : decode cX3_advise 24 = .ok (.getfield 27, 3) := by decide +kernel
theorem dX3_advise_27 : decode cX3_advise 27 = .ok (.aload_n 2, 1) := by decide +kernel
theorem dX3_advise_28 : decode cX3_advise 28 = .ok (.aload_n 0, 1) := by decide +kernel
theorem dX3_advise_29 : decode cX3_advise 29 = .ok (.getfield 11, 3) := by decide +kernel
theorem dX3_advise_32 : decode cX3_advise 32 = .ok (.iload 5, 2) := by decide +kernel
theorem dX3_advise_34 : decode cX3_advise 34 = .ok (.aaload, 1) := by decide +kernel
theorem dX3_advise_35 : decode cX3_advise 35 = .ok (.invokevirtual 88, 3) := by decide +kernel
theorem dX3_advise_38 : decode cX3_advise 38 = .ok (.aload_n 0, 1) := by decide +kernel
theorem dX3_advise_39 : decode cX3_advise 39 = .ok (.getfield 27, 3) := by decide +kernel
theorem dX3_advise_42 : decode cX3_advise 42 = .ok (.invokevirtual 134, 3) := by decide +kernel
theorem dX3_advise_45 : decode cX3_advise 45 = .ok (.istore 6, 2) := by decide +kernel
theorem dX3_advise_47 : decode cX3_advise 47 = .ok (.iload 5, 2) := by decide +kernel
theorem dX3_advise_49 : decode cX3_advise 49 = .ok (.ifCond .eq 10, 3) := by decide +kernel
theorem dX3_advise_52 : decode cX3_advise 52 = .ok (.iload 6, 2) := by decide +kernel
theorem dX3_advise_54 : decode cX3_advise 54 = .ok (.iload 4, 2) := by decide +kernel
theorem dX3_advise_56 : decode cX3_advise 56 = .ok (.if_icmp .ge 10, 3) := by decide +kernel
theorem dX3_advise_59 : decode cX3_advise 59 = .ok (.iload 6, 2) := by decide +kernel
theorem dX3_advise_61 : decode cX3_advise 61 = .ok (.istore 4, 2) := by decide +kernel
theorem dX3_advise_63 : decode cX3_advise 63 = .ok (.iload 5, 2) := by decide +kernel
theorem dX3_advise_65 : decode cX3_advise 65 = .ok (.istore_n 3, 1) := by decide +kernel
theorem dX3_advise_66 : decode cX3_advise 66 = .ok (.iinc 5 1, 3) := by decide +kernel
theorem dX3_advise_69 : decode cX3_advise 69 = .ok (.goto (-55), 3) := by decide +kernel
theorem dX3_advise_72 : decode cX3_advise 72 = .ok (.iload_n 3, 1) := by decide +kernel
theorem dX3_advise_73 : decode cX3_advise 73 = .ok (.ireturn, 1) := by decide +kernel
set_option maxRecDepth 20000 in
theorem ggX3_mean_X0_rank : GoodIn wsX3_mean wsX0_rank := goodIn_r _ [7, 8, 9, 10, 11, 6, 12, 13, 14, 15, 16, 17, 26, 27] (by decide +kernel) (by decide +kernel)
set_option maxRecDepth 20000 in
theorem gX3_mean_X0_rank : GoodIn wsX3_mean (wsV RX3 84 RX0 yX0_rank wsX0_rank) := goodIn_app (goodIn_of _ (by decide +kernel)) ggX3_mean_X0_rank
theorem dX3_mean_0 : decode cX3_mean 0 = .ok (.aload_n 0, 1) := by decide +kernel
theorem dX3_mean_1 : decode cX3_mean 1 = .ok (.getfield 41, 3) := by decide +kernel
theorem dX3_mean_4 : decode cX3_mean 4 = .ok (.ifCond .ne 5, 3) := by decide +kernel
theorem dX3_mean_7 : decode cX3_mean 7 = .ok (.dconst 0, 1) := by decide +kernel
theorem dX3_mean_8 : decode cX3_mean 8 = .ok (.dreturn, 1) := by decide +kernel
theorem dX3_mean_9 : decode cX3_mean 9 = .ok (.iconst 0, 1) := by decide +kernel
theorem dX3_mean_10 : decode cX3_mean 10 = .ok (.istore_n 1, 1) := by decide +kernel
theorem dX3_mean_11 : decode cX3_mean 11 = .ok (.iconst 0, 1) := by decide +kernel
theorem dX3_mean_12 : decode cX3_mean 12 = .ok (.istore_n 2, 1) := by decide +kernel
theorem dX3_mean_13 : decode cX3_mean 13 = .ok (.iload_n 2, 1) := by decide +kernel
theorem dX3_mean_14 : decode cX3_mean 14 = .ok (.aload_n 0, 1) := by decide +kernel
theorem dX3_mean_15 : decode cX3_mean 15 = .ok (.getfield 41, 3) := by decide +kernel
theorem dX3_mean_18 : decode cX3_mean 18 = .ok (.if_icmp .ge 21, 3) := by decide +kernel
theorem dX3_mean_21 : decode cX3_mean 21 = .ok (.iload_n 1, 1) := by decide +kernel
theorem dX3_mean_22 : decode cX3_mean 22 = .ok (.aload_n 0, 1) := by decide +kernel
theorem dX3_mean_23 : decode cX3_mean 23 = .ok (.getfield 11, 3) := by decide +kernel
theorem dX3_mean_26 : decode cX3_mean 26 = .ok (.iload_n 2, 1) := by decide +kernel
theorem dX3_mean_27 : decode cX3_mean 27 = .ok (.aaload, 1) := by decide +kernel
theorem dX3_mean_28 : decode cX3_mean 28 = .ok (.invokevirtual 84, 3) := by decide +kernel
theorem dX3_mean_31 : decode cX3_mean 31 = .ok (.iadd, 1) := by decide +kernel
theorem dX3_mean_32 : decode cX3_mean 32 = .ok (.istore_n 1, 1) := by decide +kernel
theorem dX3_mean_33 : decode cX3_mean 33 = .ok (.iinc 2 1, 3) := by decide +kernel
theorem dX3_mean_36 : decode cX3_mean 36 = .ok (.goto (-23), 3) := by decide +kernel
theorem dX3_mean_39 : decode cX3_mean 39 = .ok (.iload_n 1, 1) := by decide +kernel
theorem dX3_mean_40 : decode cX3_mean 40 = .ok (.i2d, 1) := by decide +kernel
theorem dX3_mean_41 : decode cX3_mean 41 = .ok (.aload_n 0, 1) := by decide +kernel
theorem dX3_mean_42 : decode cX3_mean 42 = .ok (.getfield 41, 3) := by decide +kernel
theorem dX3_mean_45 : decode cX3_mean 45 = .ok (.i2d, 1) := by decide +kernel
theorem dX3_mean_46 : decode cX3_mean 46 = .ok (.ddiv, 1) := by decide +kernel
theorem dX3_mean_47 : decode cX3_mean 47 = .ok (.dreturn, 1) := by decide +kernel
set_option maxRecDepth 20000 in
theorem ggX3_digest_X3_count : GoodIn wsX3_digest wsX3_count := goodIn_ca (goodIn_r _ [10, 11, 12, 4, 3, 5, 13, 14, 15, 9, 16, 17, 18, 19, 20, 21, 22, 23, 24, 25, 26, 27, 28, 29, 30, 31, 32, 33, 34, 35, 36, 37, 38, 39, 40, 41, 42, 43, 44, 45, 46, 47, 48, 49, 50, 51, 52, 53, 54, 55, 56, 57, 58, 124, 125, 126, 127, 128, 129, 130, 131, 132, 133, 134, 135, 136, 137] (by decide +kernel) (by decide +kernel)) (goodIn_sub (fun _ h => List.mem_cons_of_mem _ (List.mem_append_right _ h)) (by decide +kernel))
set_option maxRecDepth 20000 in
theorem gX3_digest_X3_count : GoodIn wsX3_digest (wsV RX3 180 RX3 yX3_count wsX3_count) := goodIn_app (goodIn_of _ (by decide +kernel)) ggX3_digest_X3_count
set_option maxRecDepth 20000 in
theorem ggX3_digest_X3_told : GoodIn wsX3_digest wsX3_told := goodIn_ca (goodIn_r _ [62, 11, 12, 63, 64, 65, 9, 66, 3, 22, 29, 30, 31, 32, 33, 34, 35, 36, 37, 38, 39, 40, 41, 42, 43, 67, 68, 69, 70, 71, 72, 73, 74, 75, 76, 77, 78, 79, 80, 81, 82, 83, 84, 85, 86, 87, 88, 89, 90, 91, 92, 93, 94, 95, 96, 97, 98, 99, 100, 101, 102, 103, 104, 105, 124, 125, 126, 127, 128, 129, 130, 131, 134, 135] (by decide +kernel) (by decide +kernel)) (goodIn_sub (fun _ h => List.mem_cons_of_mem _ (List.mem_append_right _ h)) (by decide +kernel))
set_option maxRecDepth 20000 in
theorem gX3_digest_X3_told : GoodIn wsX3_digest (wsV RX3 183 RX3 yX3_told wsX3_told) := goodIn_app (goodIn_of _ (by decide +kernel)) ggX3_digest_X3_told
set_option maxRecDepth 20000 in
theorem ggX3_digest_X3_bell : GoodIn wsX3_digest wsX3_bell := goodIn_ca (goodIn_r _ [109, 63, 64, 65, 9, 66, 11, 12, 3, 22, 110, 111, 112, 113, 4, 114, 40, 41, 32, 42, 43, 124, 125, 126, 127, 128, 129, 130, 131, 134, 135] (by decide +kernel) (by decide +kernel)) (goodIn_sub (fun _ h => List.mem_cons_of_mem _ (List.mem_append_right _ h)) (by decide +kernel))
set_option maxRecDepth 20000 in
theorem gX3_digest_X3_bell : GoodIn wsX3_digest (wsV RX3 187 RX3 yX3_bell wsX3_bell) := goodIn_app (goodIn_of _ (by decide +kernel)) ggX3_digest_X3_bell
set_option maxRecDepth 20000 in
theorem ggX3_digest_X1_length : GoodIn wsX3_digest wsX1_length := goodIn_r _ [57, 58, 136, 137] (by decide +kernel) (by decide +kernel)
set_option maxRecDepth 20000 in
theorem gX3_digest_X1_length : GoodIn wsX3_digest (wsV RX3 111 RX1 yX1_length wsX1_length) := goodIn_app (goodIn_of _ (by decide +kernel)) ggX3_digest_X1_length
set_option maxRecDepth 20000 in
theorem ggX3_digest_X3_kept : GoodIn wsX3_digest wsX3_kept := goodIn_ca (goodIn_r _ [118, 11, 12, 5, 53, 54, 55, 56, 57, 58, 119, 120, 121, 122, 123, 124, 125, 126, 127, 128, 129, 130, 131, 136, 137] (by decide +kernel) (by decide +kernel)) (goodIn_sub (fun _ h => List.mem_cons_of_mem _ (List.mem_append_right _ h)) (by decide +kernel))
set_option maxRecDepth 20000 in
theorem gX3_digest_X3_kept : GoodIn wsX3_digest (wsV RX3 190 RX3 yX3_kept wsX3_kept) := goodIn_app (goodIn_of _ (by decide +kernel)) ggX3_digest_X3_kept
theorem dX3_digest_0 : decode cX3_digest 0 = .ok (.ldc2_w 176, 3) := by decide +kernel
theorem dX3_digest_3 : decode cX3_digest 3 = .ok (.lstore_n 1, 1) := by decide +kernel
theorem dX3_digest_4 : decode cX3_digest 4 = .ok (.iconst 0, 1) := by decide +kernel
theorem dX3_digest_5 : decode cX3_digest 5 = .ok (.istore_n 3, 1) := by decide +kernel
theorem dX3_digest_6 : decode cX3_digest 6 = .ok (.iload_n 3, 1) := by decide +kernel
theorem dX3_digest_7 : decode cX3_digest 7 = .ok (.bipush 6, 2) := by decide +kernel
theorem dX3_digest_9 : decode cX3_digest 9 = .ok (.if_icmp .ge 22, 3) := by decide +kernel
theorem dX3_digest_12 : decode cX3_digest 12 = .ok (.lload_n 1, 1) := by decide +kernel
theorem dX3_digest_13 : decode cX3_digest 13 = .ok (.ldc2_w 178, 3) := by decide +kernel
theorem dX3_digest_16 : decode cX3_digest 16 = .ok (.lmul, 1) := by decide +kernel
theorem dX3_digest_17 : decode cX3_digest 17 = .ok (.aload_n 0, 1) := by decide +kernel
theorem dX3_digest_18 : decode cX3_digest 18 = .ok (.iload_n 3, 1) := by decide +kernel
theorem dX3_digest_19 : decode cX3_digest 19 = .ok (.invokevirtual 180, 3) := by decide +kernel
theorem dX3_digest_22 : decode cX3_digest 22 = .ok (.i2l, 1) := by decide +kernel
theorem dX3_digest_23 : decode cX3_digest 23 = .ok (.ladd, 1) := by decide +kernel
theorem dX3_digest_24 : decode cX3_digest 24 = .ok (.lstore_n 1, 1) := by decide +kernel
theorem dX3_digest_25 : decode cX3_digest 25 = .ok (.iinc 3 1, 3) := by decide +kernel
theorem dX3_digest_28 : decode cX3_digest 28 = .ok (.goto (-22), 3) := by decide +kernel
theorem dX3_digest_31 : decode cX3_digest 31 = .ok (.iconst 0, 1) := by decide +kernel
theorem dX3_digest_32 : decode cX3_digest 32 = .ok (.istore_n 3, 1) := by decide +kernel
theorem dX3_digest_33 : decode cX3_digest 33 = .ok (.iload_n 3, 1) := by decide +kernel
theorem dX3_digest_34 : decode cX3_digest 34 = .ok (.aload_n 0, 1) := by decide +kernel
theorem dX3_digest_35 : decode cX3_digest 35 = .ok (.getfield 41, 3) := by decide +kernel
theorem dX3_digest_38 : decode cX3_digest 38 = .ok (.if_icmp .ge 73, 3) := by decide +kernel
theorem dX3_digest_41 : decode cX3_digest 41 = .ok (.iconst 0, 1) := by decide +kernel
theorem dX3_digest_42 : decode cX3_digest 42 = .ok (.istore 4, 2) := by decide +kernel
theorem dX3_digest_44 : decode cX3_digest 44 = .ok (.iload 4, 2) := by decide +kernel
theorem dX3_digest_46 : decode cX3_digest 46 = .ok (.bipush 8, 2) := by decide +kernel
theorem dX3_digest_48 : decode cX3_digest 48 = .ok (.if_icmp .ge 24, 3) := by decide +kernel
theorem dX3_digest_51 : decode cX3_digest 51 = .ok (.lload_n 1, 1) := by decide +kernel
theorem dX3_digest_52 : decode cX3_digest 52 = .ok (.ldc2_w 178, 3) := by decide +kernel
theorem dX3_digest_55 : decode cX3_digest 55 = .ok (.lmul, 1) := by decide +kernel
theorem dX3_digest_56 : decode cX3_digest 56 = .ok (.aload_n 0, 1) := by decide +kernel
theorem dX3_digest_57 : decode cX3_digest 57 = .ok (.iload_n 3, 1) := by decide +kernel
theorem dX3_digest_58 : decode cX3_digest 58 = .ok (.iload 4, 2) := by decide +kernel
theorem dX3_digest_60 : decode cX3_digest 60 = .ok (.invokevirtual 183, 3) := by decide +kernel
theorem dX3_digest_63 : decode cX3_digest 63 = .ok (.i2l, 1) := by decide +kernel
theorem dX3_digest_64 : decode cX3_digest 64 = .ok (.ladd, 1) := by decide +kernel
theorem dX3_digest_65 : decode cX3_digest 65 = .ok (.lstore_n 1, 1) := by decide +kernel
theorem dX3_digest_66 : decode cX3_digest 66 = .ok (.iinc 4 1, 3) := by decide +kernel
theorem dX3_digest_69 : decode cX3_digest 69 = .ok (.goto (-25), 3) := by decide +kernel
theorem dX3_digest_72 : decode cX3_digest 72 = .ok (.iconst 0, 1) := by decide +kernel
theorem dX3_digest_73 : decode cX3_digest 73 = .ok (.istore 4, 2) := by decide +kernel
theorem dX3_digest_75 : decode cX3_digest 75 = .ok (.iload 4, 2) := by decide +kernel
theorem dX3_digest_77 : decode cX3_digest 77 = .ok (.aload_n 0, 1) := by decide +kernel
theorem dX3_digest_78 : decode cX3_digest 78 = .ok (.getfield 37, 3) := by decide +kernel
theorem dX3_digest_81 : decode cX3_digest 81 = .ok (.if_icmp .ge 24, 3) := by decide +kernel
theorem dX3_digest_84 : decode cX3_digest 84 = .ok (.lload_n 1, 1) := by decide +kernel
theorem dX3_digest_85 : decode cX3_digest 85 = .ok (.ldc2_w 178, 3) := by decide +kernel
theorem dX3_digest_88 : decode cX3_digest 88 = .ok (.lmul, 1) := by decide +kernel
theorem dX3_digest_89 : decode cX3_digest 89 = .ok (.aload_n 0, 1) := by decide +kernel
theorem dX3_digest_90 : decode cX3_digest 90 = .ok (.iload_n 3, 1) := by decide +kernel
theorem dX3_digest_91 : decode cX3_digest 91 = .ok (.iload 4, 2) := by decide +kernel
theorem dX3_digest_93 : decode cX3_digest 93 = .ok (.invokevirtual 187, 3) := by decide +kernel
theorem dX3_digest_96 : decode cX3_digest 96 = .ok (.i2l, 1) := by decide +kernel
theorem dX3_digest_97 : decode cX3_digest 97 = .ok (.ladd, 1) := by decide +kernel
theorem dX3_digest_98 : decode cX3_digest 98 = .ok (.lstore_n 1, 1) := by decide +kernel
theorem dX3_digest_99 : decode cX3_digest 99 = .ok (.iinc 4 1, 3) := by decide +kernel
theorem dX3_digest_102 : decode cX3_digest 102 = .ok (.goto (-27), 3) := by decide +kernel
theorem dX3_digest_105 : decode cX3_digest 105 = .ok (.iinc 3 1, 3) := by decide +kernel
theorem dX3_digest_108 : decode cX3_digest 108 = .ok (.goto (-75), 3) := by decide +kernel
theorem dX3_digest_111 : decode cX3_digest 111 = .ok (.iconst 0, 1) := by decide +kernel
theorem dX3_digest_112 : decode cX3_digest 112 = .ok (.istore_n 3, 1) := by decide +kernel
theorem dX3_digest_113 : decode cX3_digest 113 = .ok (.iload_n 3, 1) := by decide +kernel
theorem dX3_digest_114 : decode cX3_digest 114 = .ok (.aload_n 0, 1) := by decide +kernel
theorem dX3_digest_115 : decode cX3_digest 115 = .ok (.getfield 19, 3) := by decide +kernel
theorem dX3_digest_118 : decode cX3_digest 118 = .ok (.invokevirtual 111, 3) := by decide +kernel
theorem dX3_digest_121 : decode cX3_digest 121 = .ok (.if_icmp .ge 22, 3) := by decide +kernel
theorem dX3_digest_124 : decode cX3_digest 124 = .ok (.lload_n 1, 1) := by decide +kernel
theorem dX3_digest_125 : decode cX3_digest 125 = .ok (.ldc2_w 178, 3) := by decide +kernel
theorem dX3_digest_128 : decode cX3_digest 128 = .ok (.lmul, 1) := by decide +kernel
theorem dX3_digest_129 : decode cX3_digest 129 = .ok (.aload_n 0, 1) := by decide +kernel
theorem dX3_digest_130 : decode cX3_digest 130 = .ok (.iload_n 3, 1) := by decide +kernel
theorem dX3_digest_131 : decode cX3_digest 131 = .ok (.invokevirtual 190, 3) := by decide +kernel
theorem dX3_digest_134 : decode cX3_digest 134 = .ok (.i2l, 1) := by decide +kernel
theorem dX3_digest_135 : decode cX3_digest 135 = .ok (.ladd, 1) := by decide +kernel
theorem dX3_digest_136 : decode cX3_digest 136 = .ok (.lstore_n 1, 1) := by decide +kernel
theorem dX3_digest_137 : decode cX3_digest 137 = .ok (.iinc 3 1, 3) := by decide +kernel
theorem dX3_digest_140 : decode cX3_digest 140 = .ok (.goto (-27), 3) := by decide +kernel
theorem dX3_digest_143 : decode cX3_digest 143 = .ok (.lload_n 1, 1) := by decide +kernel
theorem dX3_digest_144 : decode cX3_digest 144 = .ok (.lreturn, 1) := by decide +kernel
theorem dX3_find_0 : decode cX3_find 0 = .ok (.iload_n 1, 1) := by decide +kernel
theorem dX3_find_1 : decode cX3_find 1 = .ok (.ifCond .lt 11, 3) := by decide +kernel
theorem dX3_find_4 : decode cX3_find 4 = .ok (.iload_n 1, 1) := by decide +kernel
theorem dX3_find_5 : decode cX3_find 5 = .ok (.aload_n 0, 1) := by decide +kernel
theorem dX3_find_6 : decode cX3_find 6 = .ok (.getfield 41, 3) := by decide +kernel
theorem dX3_find_9 : decode cX3_find 9 = .ok (.if_icmp .lt 13, 3) := by decide +kernel
theorem dX3_find_12 : decode cX3_find 12 = .ok (.new 61, 3) := by decide +kernel
theorem dX3_find_15 : decode cX3_find 15 = .ok (.dup, 1) := by decide +kernel
theorem dX3_find_16 : decode cX3_find 16 = .ok (.ldc 193, 2) := by decide +kernel
theorem dX3_find_18 : decode cX3_find 18 = .ok (.invokespecial 65, 3) := by decide +kernel
theorem dX3_find_21 : decode cX3_find 21 = .ok (.athrow, 1) := by decide +kernel
theorem dX3_find_22 : decode cX3_find 22 = .ok (.aload_n 0, 1) := by decide +kernel
theorem dX3_find_23 : decode cX3_find 23 = .ok (.getfield 11, 3) := by decide +kernel
theorem dX3_find_26 : decode cX3_find 26 = .ok (.iload_n 1, 1) := by decide +kernel
theorem dX3_find_27 : decode cX3_find 27 = .ok (.aaload, 1) := by decide +kernel
theorem dX3_find_28 : decode cX3_find 28 = .ok (.areturn, 1) := by decide +kernel
theorem dX3_openPage_0 : decode cX3_openPage 0 = .ok (.aload_n 0, 1) := by decide +kernel
theorem dX3_openPage_1 : decode cX3_openPage 1 = .ok (.getfield 41, 3) := by decide +kernel
theorem dX3_openPage_4 : decode cX3_openPage 4 = .ok (.aload_n 0, 1) := by decide +kernel
theorem dX3_openPage_5 : decode cX3_openPage 5 = .ok (.getfield 11, 3) := by decide +kernel
theorem dX3_openPage_8 : decode cX3_openPage 8 = .ok (.arraylength, 1) := by decide +kernel
theorem dX3_openPage_9 : decode cX3_openPage 9 = .ok (.if_icmp .lt 13, 3) := by decide +kernel
theorem dX3_openPage_12 : decode cX3_openPage 12 = .ok (.new 114, 3) := by decide +kernel
theorem dX3_openPage_15 : decode cX3_openPage 15 = .ok (.dup, 1) := by decide +kernel
theorem dX3_openPage_16 : decode cX3_openPage 16 = .ok (.ldc 195, 2) := by decide +kernel
theorem dX3_openPage_18 : decode cX3_openPage 18 = .ok (.invokespecial 118, 3) := by decide +kernel
theorem dX3_openPage_21 : decode cX3_openPage 21 = .ok (.athrow, 1) := by decide +kernel
theorem dX3_openPage_22 : decode cX3_openPage 22 = .ok (.aload_n 0, 1) := by decide +kernel
theorem dX3_openPage_23 : decode cX3_openPage 23 = .ok (.getfield 11, 3) := by decide +kernel
theorem dX3_openPage_26 : decode cX3_openPage 26 = .ok (.aload_n 0, 1) := by decide +kernel
theorem dX3_openPage_27 : decode cX3_openPage 27 = .ok (.getfield 41, 3) := by decide +kernel
theorem dX3_openPage_30 : decode cX3_openPage 30 = .ok (.aaload, 1) := by decide +kernel
theorem dX3_openPage_31 : decode cX3_openPage 31 = .ok (.astore_n 1, 1) := by decide +kernel
theorem dX3_openPage_32 : decode cX3_openPage 32 = .ok (.aload_n 0, 1) := by decide +kernel
theorem dX3_openPage_33 : decode cX3_openPage 33 = .ok (.dup, 1) := by decide +kernel
theorem dX3_openPage_34 : decode cX3_openPage 34 = .ok (.getfield 41, 3) := by decide +kernel
theorem dX3_openPage_37 : decode cX3_openPage 37 = .ok (.iconst 1, 1) := by decide +kernel
theorem dX3_openPage_38 : decode cX3_openPage 38 = .ok (.iadd, 1) := by decide +kernel
theorem dX3_openPage_39 : decode cX3_openPage 39 = .ok (.putfield 41, 3) := by decide +kernel
theorem dX3_openPage_42 : decode cX3_openPage 42 = .ok (.aload_n 1, 1) := by decide +kernel
theorem dX3_openPage_43 : decode cX3_openPage 43 = .ok (.areturn, 1) := by decide +kernel
theorem dX3_checkPlace_0 : decode cX3_checkPlace 0 = .ok (.iload_n 1, 1) := by decide +kernel
theorem dX3_checkPlace_1 : decode cX3_checkPlace 1 = .ok (.ifCond .lt 11, 3) := by decide +kernel
theorem dX3_checkPlace_4 : decode cX3_checkPlace 4 = .ok (.iload_n 1, 1) := by decide +kernel
theorem dX3_checkPlace_5 : decode cX3_checkPlace 5 = .ok (.aload_n 0, 1) := by decide +kernel
theorem dX3_checkPlace_6 : decode cX3_checkPlace 6 = .ok (.getfield 37, 3) := by decide +kernel
theorem dX3_checkPlace_9 : decode cX3_checkPlace 9 = .ok (.if_icmp .lt 13, 3) := by decide +kernel
theorem dX3_checkPlace_12 : decode cX3_checkPlace 12 = .ok (.new 61, 3) := by decide +kernel
theorem dX3_checkPlace_15 : decode cX3_checkPlace 15 = .ok (.dup, 1) := by decide +kernel
theorem dX3_checkPlace_16 : decode cX3_checkPlace 16 = .ok (.ldc 197, 2) := by decide +kernel
theorem dX3_checkPlace_18 : decode cX3_checkPlace 18 = .ok (.invokespecial 65, 3) := by decide +kernel
theorem dX3_checkPlace_21 : decode cX3_checkPlace 21 = .ok (.athrow, 1) := by decide +kernel
theorem dX3_checkPlace_22 : decode cX3_checkPlace 22 = .ok (.return_, 1) := by decide +kernel
theorem dX3_checkSteps_0 : decode cX3_checkSteps 0 = .ok (.iload_n 0, 1) := by decide +kernel
theorem dX3_checkSteps_1 : decode cX3_checkSteps 1 = .ok (.iconst 1, 1) := by decide +kernel
theorem dX3_checkSteps_2 : decode cX3_checkSteps 2 = .ok (.if_icmp .lt 10, 3) := by decide +kernel
theorem dX3_checkSteps_5 : decode cX3_checkSteps 5 = .ok (.iload_n 0, 1) := by decide +kernel
theorem dX3_checkSteps_6 : decode cX3_checkSteps 6 = .ok (.sipush 200, 3) := by decide +kernel
theorem dX3_checkSteps_9 : decode cX3_checkSteps 9 = .ok (.if_icmp .le 13, 3) := by decide +kernel
theorem dX3_checkSteps_12 : decode cX3_checkSteps 12 = .ok (.new 47, 3) := by decide +kernel
theorem dX3_checkSteps_15 : decode cX3_checkSteps 15 = .ok (.dup, 1) := by decide +kernel
theorem dX3_checkSteps_16 : decode cX3_checkSteps 16 = .ok (.ldc 199, 2) := by decide +kernel
theorem dX3_checkSteps_18 : decode cX3_checkSteps 18 = .ok (.invokespecial 51, 3) := by decide +kernel
theorem dX3_checkSteps_21 : decode cX3_checkSteps 21 = .ok (.athrow, 1) := by decide +kernel
theorem dX3_checkSteps_22 : decode cX3_checkSteps 22 = .ok (.return_, 1) := by decide +kernel
set_option maxRecDepth 20000 in
theorem ggX3_differentInBook_X2_removeAll : GoodIn wsX3_differentInBook wsX2_removeAll := goodIn_r _ [8, 9, 42, 43] (by decide +kernel) (by decide +kernel)
set_option maxRecDepth 20000 in
theorem gX3_differentInBook_X2_removeAll : GoodIn wsX3_differentInBook (wsV RX3 171 RX2 yX2_removeAll wsX2_removeAll) := goodIn_app (goodIn_of _ (by decide +kernel)) ggX3_differentInBook_X2_removeAll
set_option maxRecDepth 20000 in
theorem ggX3_differentInBook_X0_rank : GoodIn wsX3_differentInBook wsX0_rank := goodIn_r _ [14, 15, 16, 17, 18, 13, 19, 20, 21, 22, 23, 24, 44, 45] (by decide +kernel) (by decide +kernel)
set_option maxRecDepth 20000 in
theorem gX3_differentInBook_X0_rank : GoodIn wsX3_differentInBook (wsV RX3 84 RX0 yX0_rank wsX0_rank) := goodIn_app (goodIn_of _ (by decide +kernel)) ggX3_differentInBook_X0_rank
set_option maxRecDepth 20000 in
theorem ggX3_differentInBook_X2_add : GoodIn wsX3_differentInBook wsX2_add := goodIn_r _ [28, 9, 29, 42, 43] (by decide +kernel) (by decide +kernel)
set_option maxRecDepth 20000 in
theorem gX3_differentInBook_X2_add : GoodIn wsX3_differentInBook (wsV RX3 172 RX2 yX2_add wsX2_add) := goodIn_app (goodIn_of _ (by decide +kernel)) ggX3_differentInBook_X2_add
set_option maxRecDepth 20000 in
theorem ggX3_differentInBook_X2_size : GoodIn wsX3_differentInBook wsX2_size := goodIn_r _ [33, 9, 42, 43] (by decide +kernel) (by decide +kernel)
set_option maxRecDepth 20000 in
theorem gX3_differentInBook_X2_size : GoodIn wsX3_differentInBook (wsV RX3 173 RX2 yX2_size wsX2_size) := goodIn_app (goodIn_of _ (by decide +kernel)) ggX3_differentInBook_X2_size
theorem dX3_differentInBook_0 : decode cX3_differentInBook 0 = .ok (.aload_n 0, 1) := by decide +kernel
theorem dX3_differentInBook_1 : decode cX3_differentInBook 1 = .ok (.getfield 33, 3) := by decide +kernel
theorem dX3_differentInBook_4 : decode cX3_differentInBook 4 = .ok (.invokevirtual 171, 3) := by decide +kernel
theorem dX3_differentInBook_7 : decode cX3_differentInBook 7 = .ok (.iconst 0, 1) := by decide +kernel
theorem dX3_differentInBook_8 : decode cX3_differentInBook 8 = .ok (.istore_n 1, 1) := by decide +kernel
theorem dX3_differentInBook_9 : decode cX3_differentInBook 9 = .ok (.iload_n 1, 1) := by decide +kernel
theorem dX3_differentInBook_10 : decode cX3_differentInBook 10 = .ok (.aload_n 0, 1) := by decide +kernel
theorem dX3_differentInBook_11 : decode cX3_differentInBook 11 = .ok (.getfield 41, 3) := by decide +kernel
theorem dX3_differentInBook_14 : decode cX3_differentInBook 14 = .ok (.if_icmp .ge 25, 3) := by decide +kernel
theorem dX3_differentInBook_17 : decode cX3_differentInBook 17 = .ok (.aload_n 0, 1) := by decide +kernel
theorem dX3_differentInBook_18 : decode cX3_differentInBook 18 = .ok (.getfield 33, 3) := by decide +kernel
theorem dX3_differentInBook_21 : decode cX3_differentInBook 21 = .ok (.aload_n 0, 1) := by decide +kernel
theorem dX3_differentInBook_22 : decode cX3_differentInBook 22 = .ok (.getfield 11, 3) := by decide +kernel
theorem dX3_differentInBook_25 : decode cX3_differentInBook 25 = .ok (.iload_n 1, 1) := by decide +kernel
theorem dX3_differentInBook_26 : decode cX3_differentInBook 26 = .ok (.aaload, 1) := by decide +kernel
theorem dX3_differentInBook_27 : decode cX3_differentInBook 27 = .ok (.invokevirtual 84, 3) := by decide +kernel
theorem dX3_differentInBook_30 : decode cX3_differentInBook 30 = .ok (.invokevirtual 172, 3) := by decide +kernel
theorem dX3_differentInBook_33 : decode cX3_differentInBook 33 = .ok (.iinc 1 1, 3) := by decide +kernel
theorem dX3_differentInBook_36 : decode cX3_differentInBook 36 = .ok (.goto (-27), 3) := by decide +kernel
theorem dX3_differentInBook_39 : decode cX3_differentInBook 39 = .ok (.aload_n 0, 1) := by decide +kernel
theorem dX3_differentInBook_40 : decode cX3_differentInBook 40 = .ok (.getfield 33, 3) := by decide +kernel
theorem dX3_differentInBook_43 : decode cX3_differentInBook 43 = .ok (.invokevirtual 173, 3) := by decide +kernel
theorem dX3_differentInBook_46 : decode cX3_differentInBook 46 = .ok (.ireturn, 1) := by decide +kernel
theorem dX3_changesOf_0 : decode cX3_changesOf 0 = .ok (.iconst 1, 1) := by decide +kernel
theorem dX3_changesOf_1 : decode cX3_changesOf 1 = .ok (.istore_n 1, 1) := by decide +kernel
theorem dX3_changesOf_2 : decode cX3_changesOf 2 = .ok (.iconst 2, 1) := by decide +kernel
theorem dX3_changesOf_3 : decode cX3_changesOf 3 = .ok (.istore_n 2, 1) := by decide +kernel
theorem dX3_changesOf_4 : decode cX3_changesOf 4 = .ok (.iload_n 2, 1) := by decide +kernel
theorem dX3_changesOf_5 : decode cX3_changesOf 5 = .ok (.iload_n 0, 1) := by decide +kernel
theorem dX3_changesOf_6 : decode cX3_changesOf 6 = .ok (.if_icmp .gt 13, 3) := by decide +kernel
theorem dX3_changesOf_9 : decode cX3_changesOf 9 = .ok (.iload_n 1, 1) := by decide +kernel
theorem dX3_changesOf_10 : decode cX3_changesOf 10 = .ok (.iload_n 2, 1) := by decide +kernel
theorem dX3_changesOf_11 : decode cX3_changesOf 11 = .ok (.imul, 1) := by decide +kernel
theorem dX3_changesOf_12 : decode cX3_changesOf 12 = .ok (.istore_n 1, 1) := by decide +kernel
theorem dX3_changesOf_13 : decode cX3_changesOf 13 = .ok (.iinc 2 1, 3) := by decide +kernel
theorem dX3_changesOf_16 : decode cX3_changesOf 16 = .ok (.goto (-12), 3) := by decide +kernel
theorem dX3_changesOf_19 : decode cX3_changesOf 19 = .ok (.iload_n 1, 1) := by decide +kernel
theorem dX3_changesOf_20 : decode cX3_changesOf 20 = .ok (.ireturn, 1) := by decide +kernel
theorem dX4_init_0 : decode cX4_init 0 = .ok (.aload_n 0, 1) := by decide +kernel
theorem dX4_init_1 : decode cX4_init 1 = .ok (.invokespecial 1, 3) := by decide +kernel
theorem dX4_init_4 : decode cX4_init 4 = .ok (.aload_n 0, 1) := by decide +kernel
theorem dX4_init_5 : decode cX4_init 5 = .ok (.iconst 5, 1) := by decide +kernel
theorem dX4_init_6 : decode cX4_init 6 = .ok (.putfield 7, 3) := by decide +kernel
theorem dX4_init_9 : decode cX4_init 9 = .ok (.aload_n 0, 1) := by decide +kernel
theorem dX4_init_10 : decode cX4_init 10 = .ok (.bipush 16, 2) := by decide +kernel
theorem dX4_init_12 : decode cX4_init 12 = .ok (.newarray .int, 2) := by decide +kernel
theorem dX4_init_14 : decode cX4_init 14 = .ok (.putfield 13, 3) := by decide +kernel
theorem dX4_init_17 : decode cX4_init 17 = .ok (.aload_n 0, 1) := by decide +kernel
theorem dX4_init_18 : decode cX4_init 18 = .ok (.bipush 10, 2) := by decide +kernel
theorem dX4_init_20 : decode cX4_init 20 = .ok (.newarray .int, 2) := by decide +kernel
theorem dX4_init_22 : decode cX4_init 22 = .ok (.putfield 17, 3) := by decide +kernel
theorem dX4_init_25 : decode cX4_init 25 = .ok (.return_, 1) := by decide +kernel
theorem dX4_thrown_0 : decode cX4_thrown 0 = .ok (.aload_n 0, 1) := by decide +kernel
theorem dX4_thrown_1 : decode cX4_thrown 1 = .ok (.getfield 20, 3) := by decide +kernel
theorem dX4_thrown_4 : decode cX4_thrown 4 = .ok (.ireturn, 1) := by decide +kernel
theorem dX4_no_0 : decode cX4_no 0 = .ok (.aload_n 0, 1) := by decide +kernel
theorem dX4_no_1 : decode cX4_no 1 = .ok (.iload_n 1, 1) := by decide +kernel
theorem dX4_no_2 : decode cX4_no 2 = .ok (.putfield 20, 3) := by decide +kernel
theorem dX4_no_5 : decode cX4_no 5 = .ok (.iconst 0, 1) := by decide +kernel
theorem dX4_no_6 : decode cX4_no 6 = .ok (.ireturn, 1) := by decide +kernel
theorem dX4_isIn_0 : decode cX4_isIn 0 = .ok (.iload_n 0, 1) := by decide +kernel
theorem dX4_isIn_1 : decode cX4_isIn 1 = .ok (.iload_n 1, 1) := by decide +kernel
theorem dX4_isIn_2 : decode cX4_isIn 2 = .ok (.if_icmp .lt 12, 3) := by decide +kernel
theorem dX4_isIn_5 : decode cX4_isIn 5 = .ok (.iload_n 0, 1) := by decide +kernel
theorem dX4_isIn_6 : decode cX4_isIn 6 = .ok (.iload_n 2, 1) := by decide +kernel
theorem dX4_isIn_7 : decode cX4_isIn 7 = .ok (.if_icmp .gt 7, 3) := by decide +kernel
theorem dX4_isIn_10 : decode cX4_isIn 10 = .ok (.iconst 1, 1) := by decide +kernel
theorem dX4_isIn_11 : decode cX4_isIn 11 = .ok (.goto 4, 3) := by decide +kernel
theorem dX4_isIn_14 : decode cX4_isIn 14 = .ok (.iconst 0, 1) := by decide +kernel
theorem dX4_isIn_15 : decode cX4_isIn 15 = .ok (.ireturn, 1) := by decide +kernel
set_option maxRecDepth 20000 in
theorem ggX4_isChange_X4_isIn : GoodIn wsX4_isChange wsX4_isIn := goodIn_r _ [5] (by decide +kernel) (by decide +kernel)
set_option maxRecDepth 20000 in
theorem gX4_isChange_X4_isIn : GoodIn wsX4_isChange (va_wsS RX4 26 yX4_isIn wsX4_isIn) := goodIn_app (goodIn_of _ (by decide +kernel)) ggX4_isChange_X4_isIn
theorem dX4_isChange_0 : decode cX4_isChange 0 = .ok (.iload_n 1, 1) := by decide +kernel
theorem dX4_isChange_1 : decode cX4_isChange 1 = .ok (.iconst 0, 1) := by decide +kernel
theorem dX4_isChange_2 : decode cX4_isChange 2 = .ok (.aload_n 0, 1) := by decide +kernel
theorem dX4_isChange_3 : decode cX4_isChange 3 = .ok (.getfield 23, 3) := by decide +kernel
theorem dX4_isChange_6 : decode cX4_isChange 6 = .ok (.iconst 1, 1) := by decide +kernel
theorem dX4_isChange_7 : decode cX4_isChange 7 = .ok (.isub, 1) := by decide +kernel
theorem dX4_isChange_8 : decode cX4_isChange 8 = .ok (.invokestatic 26, 3) := by decide +kernel
theorem dX4_isChange_11 : decode cX4_isChange 11 = .ok (.ireturn, 1) := by decide +kernel
set_option maxRecDepth 20000 in
theorem ggX4_isPlace_X4_isIn : GoodIn wsX4_isPlace wsX4_isIn := goodIn_r _ [5] (by decide +kernel) (by decide +kernel)
set_option maxRecDepth 20000 in
theorem gX4_isPlace_X4_isIn : GoodIn wsX4_isPlace (va_wsS RX4 26 yX4_isIn wsX4_isIn) := goodIn_app (goodIn_of _ (by decide +kernel)) ggX4_isPlace_X4_isIn
theorem dX4_isPlace_0 : decode cX4_isPlace 0 = .ok (.iload_n 1, 1) := by decide +kernel
theorem dX4_isPlace_1 : decode cX4_isPlace 1 = .ok (.iconst 0, 1) := by decide +kernel
theorem dX4_isPlace_2 : decode cX4_isPlace 2 = .ok (.aload_n 0, 1) := by decide +kernel
theorem dX4_isPlace_3 : decode cX4_isPlace 3 = .ok (.getfield 7, 3) := by decide +kernel
theorem dX4_isPlace_6 : decode cX4_isPlace 6 = .ok (.iconst 1, 1) := by decide +kernel
theorem dX4_isPlace_7 : decode cX4_isPlace 7 = .ok (.isub, 1) := by decide +kernel
theorem dX4_isPlace_8 : decode cX4_isPlace 8 = .ok (.invokestatic 26, 3) := by decide +kernel
theorem dX4_isPlace_11 : decode cX4_isPlace 11 = .ok (.ireturn, 1) := by decide +kernel
set_option maxRecDepth 20000 in
theorem ggX4_product_X4_product : GoodIn wsX4_product wsX4_product := goodIn_r _ [0, 1, 2, 3] (by decide +kernel) (by decide +kernel)
set_option maxRecDepth 20000 in
theorem gX4_product_X4_product : GoodIn wsX4_product (va_wsS RX4 30 yX4_product wsX4_product) := goodIn_app (goodIn_of _ (by decide +kernel)) ggX4_product_X4_product
theorem dX4_product_0 : decode cX4_product 0 = .ok (.iload_n 0, 1) := by decide +kernel
theorem dX4_product_1 : decode cX4_product 1 = .ok (.iconst 2, 1) := by decide +kernel
theorem dX4_product_2 : decode cX4_product 2 = .ok (.if_icmp .ge 7, 3) := by decide +kernel
theorem dX4_product_5 : decode cX4_product 5 = .ok (.iconst 1, 1) := by decide +kernel
theorem dX4_product_6 : decode cX4_product 6 = .ok (.goto 11, 3) := by decide +kernel
theorem dX4_product_9 : decode cX4_product 9 = .ok (.iload_n 0, 1) := by decide +kernel
theorem dX4_product_10 : decode cX4_product 10 = .ok (.iload_n 0, 1) := by decide +kernel
theorem dX4_product_11 : decode cX4_product 11 = .ok (.iconst 1, 1) := by decide +kernel
theorem dX4_product_12 : decode cX4_product 12 = .ok (.isub, 1) := by decide +kernel
theorem dX4_product_13 : decode cX4_product 13 = .ok (.invokestatic 30, 3) := by decide +kernel
theorem dX4_product_16 : decode cX4_product 16 = .ok (.imul, 1) := by decide +kernel
theorem dX4_product_17 : decode cX4_product 17 = .ok (.ireturn, 1) := by decide +kernel
set_option maxRecDepth 20000 in
theorem ggX4_row_X4_product : GoodIn wsX4_row wsX4_product := goodIn_r _ [6, 3, 4, 5] (by decide +kernel) (by decide +kernel)
set_option maxRecDepth 20000 in
theorem gX4_row_X4_product : GoodIn wsX4_row (va_wsS RX4 30 yX4_product wsX4_product) := goodIn_app (goodIn_of _ (by decide +kernel)) ggX4_row_X4_product
set_option maxRecDepth 20000 in
theorem ggX4_row_X4_bellAt : GoodIn wsX4_row wsX4_bellAt := goodIn_r _ [9] (by decide +kernel) (by decide +kernel)
set_option maxRecDepth 20000 in
theorem gX4_row_X4_bellAt : GoodIn wsX4_row (va_wsS RX4 34 yX4_bellAt wsX4_bellAt) := goodIn_app (goodIn_of _ (by decide +kernel)) ggX4_row_X4_bellAt
theorem dX4_row_0 : decode cX4_row 0 = .ok (.aload_n 0, 1) := by decide +kernel
theorem dX4_row_1 : decode cX4_row 1 = .ok (.getfield 7, 3) := by decide +kernel
theorem dX4_row_4 : decode cX4_row 4 = .ok (.newarray .int, 2) := by decide +kernel
theorem dX4_row_6 : decode cX4_row 6 = .ok (.astore_n 2, 1) := by decide +kernel
theorem dX4_row_7 : decode cX4_row 7 = .ok (.iconst 1, 1) := by decide +kernel
theorem dX4_row_8 : decode cX4_row 8 = .ok (.aload_n 0, 1) := by decide +kernel
theorem dX4_row_9 : decode cX4_row 9 = .ok (.getfield 7, 3) := by decide +kernel
theorem dX4_row_12 : decode cX4_row 12 = .ok (.ishl, 1) := by decide +kernel
theorem dX4_row_13 : decode cX4_row 13 = .ok (.iconst 1, 1) := by decide +kernel
theorem dX4_row_14 : decode cX4_row 14 = .ok (.isub, 1) := by decide +kernel
theorem dX4_row_15 : decode cX4_row 15 = .ok (.istore_n 3, 1) := by decide +kernel
theorem dX4_row_16 : decode cX4_row 16 = .ok (.iload_n 1, 1) := by decide +kernel
theorem dX4_row_17 : decode cX4_row 17 = .ok (.istore 4, 2) := by decide +kernel
theorem dX4_row_19 : decode cX4_row 19 = .ok (.iconst 0, 1) := by decide +kernel
theorem dX4_row_20 : decode cX4_row 20 = .ok (.istore 5, 2) := by decide +kernel
theorem dX4_row_22 : decode cX4_row 22 = .ok (.iload 5, 2) := by decide +kernel
theorem dX4_row_24 : decode cX4_row 24 = .ok (.aload_n 0, 1) := by decide +kernel
theorem dX4_row_25 : decode cX4_row 25 = .ok (.getfield 7, 3) := by decide +kernel
theorem dX4_row_28 : decode cX4_row 28 = .ok (.if_icmp .ge 56, 3) := by decide +kernel
theorem dX4_row_31 : decode cX4_row 31 = .ok (.aload_n 0, 1) := by decide +kernel
theorem dX4_row_32 : decode cX4_row 32 = .ok (.getfield 7, 3) := by decide +kernel
theorem dX4_row_35 : decode cX4_row 35 = .ok (.iconst 1, 1) := by decide +kernel
theorem dX4_row_36 : decode cX4_row 36 = .ok (.isub, 1) := by decide +kernel
theorem dX4_row_37 : decode cX4_row 37 = .ok (.iload 5, 2) := by decide +kernel
theorem dX4_row_39 : decode cX4_row 39 = .ok (.isub, 1) := by decide +kernel
theorem dX4_row_40 : decode cX4_row 40 = .ok (.invokestatic 30, 3) := by decide +kernel
theorem dX4_row_43 : decode cX4_row 43 = .ok (.istore 6, 2) := by decide +kernel
theorem dX4_row_45 : decode cX4_row 45 = .ok (.iload_n 3, 1) := by decide +kernel
theorem dX4_row_46 : decode cX4_row 46 = .ok (.iload 4, 2) := by decide +kernel
theorem dX4_row_48 : decode cX4_row 48 = .ok (.iload 6, 2) := by decide +kernel
theorem dX4_row_50 : decode cX4_row 50 = .ok (.idiv, 1) := by decide +kernel
theorem dX4_row_51 : decode cX4_row 51 = .ok (.invokestatic 34, 3) := by decide +kernel
theorem dX4_row_54 : decode cX4_row 54 = .ok (.istore 7, 2) := by decide +kernel
theorem dX4_row_56 : decode cX4_row 56 = .ok (.aload_n 2, 1) := by decide +kernel
theorem dX4_row_57 : decode cX4_row 57 = .ok (.iload 5, 2) := by decide +kernel
theorem dX4_row_59 : decode cX4_row 59 = .ok (.iload 7, 2) := by decide +kernel
theorem dX4_row_61 : decode cX4_row 61 = .ok (.iastore, 1) := by decide +kernel
theorem dX4_row_62 : decode cX4_row 62 = .ok (.iload_n 3, 1) := by decide +kernel
theorem dX4_row_63 : decode cX4_row 63 = .ok (.iconst 1, 1) := by decide +kernel
theorem dX4_row_64 : decode cX4_row 64 = .ok (.iload 7, 2) := by decide +kernel
theorem dX4_row_66 : decode cX4_row 66 = .ok (.ishl, 1) := by decide +kernel
theorem dX4_row_67 : decode cX4_row 67 = .ok (.iconst (-1), 1) := by decide +kernel
theorem dX4_row_68 : decode cX4_row 68 = .ok (.ixor, 1) := by decide +kernel
theorem dX4_row_69 : decode cX4_row 69 = .ok (.iand, 1) := by decide +kernel
theorem dX4_row_70 : decode cX4_row 70 = .ok (.istore_n 3, 1) := by decide +kernel
theorem dX4_row_71 : decode cX4_row 71 = .ok (.iload 4, 2) := by decide +kernel
theorem dX4_row_73 : decode cX4_row 73 = .ok (.iload 6, 2) := by decide +kernel
theorem dX4_row_75 : decode cX4_row 75 = .ok (.irem, 1) := by decide +kernel
theorem dX4_row_76 : decode cX4_row 76 = .ok (.istore 4, 2) := by decide +kernel
theorem dX4_row_78 : decode cX4_row 78 = .ok (.iinc 5 1, 3) := by decide +kernel
theorem dX4_row_81 : decode cX4_row 81 = .ok (.goto (-59), 3) := by decide +kernel
theorem dX4_row_84 : decode cX4_row 84 = .ok (.aload_n 2, 1) := by decide +kernel
theorem dX4_row_85 : decode cX4_row 85 = .ok (.areturn, 1) := by decide +kernel
theorem dX4_bellAt_0 : decode cX4_bellAt 0 = .ok (.iconst 0, 1) := by decide +kernel
theorem dX4_bellAt_1 : decode cX4_bellAt 1 = .ok (.istore_n 2, 1) := by decide +kernel
theorem dX4_bellAt_2 : decode cX4_bellAt 2 = .ok (.iload_n 1, 1) := by decide +kernel
theorem dX4_bellAt_3 : decode cX4_bellAt 3 = .ok (.istore_n 3, 1) := by decide +kernel
theorem dX4_bellAt_4 : decode cX4_bellAt 4 = .ok (.iload_n 3, 1) := by decide +kernel
theorem dX4_bellAt_5 : decode cX4_bellAt 5 = .ok (.ifCond .gt 11, 3) := by decide +kernel
theorem dX4_bellAt_8 : decode cX4_bellAt 8 = .ok (.iload_n 0, 1) := by decide +kernel
theorem dX4_bellAt_9 : decode cX4_bellAt 9 = .ok (.iload_n 2, 1) := by decide +kernel
theorem dX4_bellAt_10 : decode cX4_bellAt 10 = .ok (.ishr, 1) := by decide +kernel
theorem dX4_bellAt_11 : decode cX4_bellAt 11 = .ok (.iconst 1, 1) := by decide +kernel
theorem dX4_bellAt_12 : decode cX4_bellAt 12 = .ok (.iand, 1) := by decide +kernel
theorem dX4_bellAt_13 : decode cX4_bellAt 13 = .ok (.ifCond .ne 17, 3) := by decide +kernel
theorem dX4_bellAt_16 : decode cX4_bellAt 16 = .ok (.iload_n 3, 1) := by decide +kernel
theorem dX4_bellAt_17 : decode cX4_bellAt 17 = .ok (.iload_n 0, 1) := by decide +kernel
theorem dX4_bellAt_18 : decode cX4_bellAt 18 = .ok (.iload_n 2, 1) := by decide +kernel
theorem dX4_bellAt_19 : decode cX4_bellAt 19 = .ok (.ishr, 1) := by decide +kernel
theorem dX4_bellAt_20 : decode cX4_bellAt 20 = .ok (.iconst 1, 1) := by decide +kernel
theorem dX4_bellAt_21 : decode cX4_bellAt 21 = .ok (.iand, 1) := by decide +kernel
theorem dX4_bellAt_22 : decode cX4_bellAt 22 = .ok (.isub, 1) := by decide +kernel
theorem dX4_bellAt_23 : decode cX4_bellAt 23 = .ok (.istore_n 3, 1) := by decide +kernel
theorem dX4_bellAt_24 : decode cX4_bellAt 24 = .ok (.iinc 2 1, 3) := by decide +kernel
theorem dX4_bellAt_27 : decode cX4_bellAt 27 = .ok (.goto (-23), 3) := by decide +kernel
theorem dX4_bellAt_30 : decode cX4_bellAt 30 = .ok (.iload_n 2, 1) := by decide +kernel
theorem dX4_bellAt_31 : decode cX4_bellAt 31 = .ok (.ireturn, 1) := by decide +kernel
theorem dX4_less_0 : decode cX4_less 0 = .ok (.iconst 0, 1) := by decide +kernel
theorem dX4_less_1 : decode cX4_less 1 = .ok (.istore_n 3, 1) := by decide +kernel
theorem dX4_less_2 : decode cX4_less 2 = .ok (.iload_n 2, 1) := by decide +kernel
theorem dX4_less_3 : decode cX4_less 3 = .ok (.iconst 1, 1) := by decide +kernel
theorem dX4_less_4 : decode cX4_less 4 = .ok (.iadd, 1) := by decide +kernel
theorem dX4_less_5 : decode cX4_less 5 = .ok (.istore 4, 2) := by decide +kernel
theorem dX4_less_7 : decode cX4_less 7 = .ok (.iload 4, 2) := by decide +kernel
theorem dX4_less_9 : decode cX4_less 9 = .ok (.aload_n 0, 1) := by decide +kernel
theorem dX4_less_10 : decode cX4_less 10 = .ok (.getfield 7, 3) := by decide +kernel
theorem dX4_less_13 : decode cX4_less 13 = .ok (.if_icmp .ge 27, 3) := by decide +kernel
theorem dX4_less_16 : decode cX4_less 16 = .ok (.iload_n 3, 1) := by decide +kernel
theorem dX4_less_17 : decode cX4_less 17 = .ok (.aload_n 1, 1) := by decide +kernel
theorem dX4_less_18 : decode cX4_less 18 = .ok (.iload 4, 2) := by decide +kernel
theorem dX4_less_20 : decode cX4_less 20 = .ok (.iaload, 1) := by decide +kernel
theorem dX4_less_21 : decode cX4_less 21 = .ok (.aload_n 1, 1) := by decide +kernel
theorem dX4_less_22 : decode cX4_less 22 = .ok (.iload_n 2, 1) := by decide +kernel
theorem dX4_less_23 : decode cX4_less 23 = .ok (.iaload, 1) := by decide +kernel
theorem dX4_less_24 : decode cX4_less 24 = .ok (.if_icmp .ge 7, 3) := by decide +kernel
theorem dX4_less_27 : decode cX4_less 27 = .ok (.iconst 1, 1) := by decide +kernel
theorem dX4_less_28 : decode cX4_less 28 = .ok (.goto 4, 3) := by decide +kernel
theorem dX4_less_31 : decode cX4_less 31 = .ok (.iconst 0, 1) := by decide +kernel
theorem dX4_less_32 : decode cX4_less 32 = .ok (.iadd, 1) := by decide +kernel
theorem dX4_less_33 : decode cX4_less 33 = .ok (.istore_n 3, 1) := by decide +kernel
theorem dX4_less_34 : decode cX4_less 34 = .ok (.iinc 4 1, 3) := by decide +kernel
theorem dX4_less_37 : decode cX4_less 37 = .ok (.goto (-30), 3) := by decide +kernel
theorem dX4_less_40 : decode cX4_less 40 = .ok (.iload_n 3, 1) := by decide +kernel
theorem dX4_less_41 : decode cX4_less 41 = .ok (.ireturn, 1) := by decide +kernel
set_option maxRecDepth 20000 in
theorem ggX4_rank_X4_less : GoodIn wsX4_rank wsX4_less := goodIn_r _ [6, 1, 10, 11, 12, 13, 14, 15, 16] (by decide +kernel) (by decide +kernel)
set_option maxRecDepth 20000 in
theorem gX4_rank_X4_less : GoodIn wsX4_rank (wsV RX4 38 RX4 yX4_less wsX4_less) := goodIn_app (goodIn_of _ (by decide +kernel)) ggX4_rank_X4_less
set_option maxRecDepth 20000 in
theorem ggX4_rank_X4_product : GoodIn wsX4_rank wsX4_product := goodIn_r _ [9, 7, 8, 5] (by decide +kernel) (by decide +kernel)
set_option maxRecDepth 20000 in
theorem gX4_rank_X4_product : GoodIn wsX4_rank (va_wsS RX4 30 yX4_product wsX4_product) := goodIn_app (goodIn_of _ (by decide +kernel)) ggX4_rank_X4_product
theorem dX4_rank_0 : decode cX4_rank 0 = .ok (.iconst 0, 1) := by decide +kernel
theorem dX4_rank_1 : decode cX4_rank 1 = .ok (.istore_n 2, 1) := by decide +kernel
theorem dX4_rank_2 : decode cX4_rank 2 = .ok (.iconst 0, 1) := by decide +kernel
theorem dX4_rank_3 : decode cX4_rank 3 = .ok (.istore_n 3, 1) := by decide +kernel
theorem dX4_rank_4 : decode cX4_rank 4 = .ok (.iload_n 3, 1) := by decide +kernel
theorem dX4_rank_5 : decode cX4_rank 5 = .ok (.aload_n 0, 1) := by decide +kernel
theorem dX4_rank_6 : decode cX4_rank 6 = .ok (.getfield 7, 3) := by decide +kernel
theorem dX4_rank_9 : decode cX4_rank 9 = .ok (.if_icmp .ge 30, 3) := by decide +kernel
theorem dX4_rank_12 : decode cX4_rank 12 = .ok (.iload_n 2, 1) := by decide +kernel
theorem dX4_rank_13 : decode cX4_rank 13 = .ok (.aload_n 0, 1) := by decide +kernel
theorem dX4_rank_14 : decode cX4_rank 14 = .ok (.aload_n 1, 1) := by decide +kernel
theorem dX4_rank_15 : decode cX4_rank 15 = .ok (.iload_n 3, 1) := by decide +kernel
theorem dX4_rank_16 : decode cX4_rank 16 = .ok (.invokevirtual 38, 3) := by decide +kernel
theorem dX4_rank_19 : decode cX4_rank 19 = .ok (.aload_n 0, 1) := by decide +kernel
theorem dX4_rank_20 : decode cX4_rank 20 = .ok (.getfield 7, 3) := by decide +kernel
theorem dX4_rank_23 : decode cX4_rank 23 = .ok (.iconst 1, 1) := by decide +kernel
theorem dX4_rank_24 : decode cX4_rank 24 = .ok (.isub, 1) := by decide +kernel
theorem dX4_rank_25 : decode cX4_rank 25 = .ok (.iload_n 3, 1) := by decide +kernel
theorem dX4_rank_26 : decode cX4_rank 26 = .ok (.isub, 1) := by decide +kernel
theorem dX4_rank_27 : decode cX4_rank 27 = .ok (.invokestatic 30, 3) := by decide +kernel
theorem dX4_rank_30 : decode cX4_rank 30 = .ok (.imul, 1) := by decide +kernel
theorem dX4_rank_31 : decode cX4_rank 31 = .ok (.iadd, 1) := by decide +kernel
theorem dX4_rank_32 : decode cX4_rank 32 = .ok (.istore_n 2, 1) := by decide +kernel
theorem dX4_rank_33 : decode cX4_rank 33 = .ok (.iinc 3 1, 3) := by decide +kernel
theorem dX4_rank_36 : decode cX4_rank 36 = .ok (.goto (-32), 3) := by decide +kernel
theorem dX4_rank_39 : decode cX4_rank 39 = .ok (.iload_n 2, 1) := by decide +kernel
theorem dX4_rank_40 : decode cX4_rank 40 = .ok (.ireturn, 1) := by decide +kernel
set_option maxRecDepth 20000 in
theorem ggX4_inversions_X4_less : GoodIn wsX4_inversions wsX4_less := goodIn_r _ [6, 1, 7, 8, 9, 10, 11, 12, 13] (by decide +kernel) (by decide +kernel)
set_option maxRecDepth 20000 in
theorem gX4_inversions_X4_less : GoodIn wsX4_inversions (wsV RX4 38 RX4 yX4_less wsX4_less) := goodIn_app (goodIn_of _ (by decide +kernel)) ggX4_inversions_X4_less
theorem dX4_inversions_0 : decode cX4_inversions 0 = .ok (.iconst 0, 1) := by decide +kernel
theorem dX4_inversions_1 : decode cX4_inversions 1 = .ok (.istore_n 2, 1) := by decide +kernel
theorem dX4_inversions_2 : decode cX4_inversions 2 = .ok (.iconst 0, 1) := by decide +kernel
theorem dX4_inversions_3 : decode cX4_inversions 3 = .ok (.istore_n 3, 1) := by decide +kernel
theorem dX4_inversions_4 : decode cX4_inversions 4 = .ok (.iload_n 3, 1) := by decide +kernel
theorem dX4_inversions_5 : decode cX4_inversions 5 = .ok (.aload_n 0, 1) := by decide +kernel
theorem dX4_inversions_6 : decode cX4_inversions 6 = .ok (.getfield 7, 3) := by decide +kernel
theorem dX4_inversions_9 : decode cX4_inversions 9 = .ok (.if_icmp .ge 18, 3) := by decide +kernel
theorem dX4_inversions_12 : decode cX4_inversions 12 = .ok (.iload_n 2, 1) := by decide +kernel
theorem dX4_inversions_13 : decode cX4_inversions 13 = .ok (.aload_n 0, 1) := by decide +kernel
theorem dX4_inversions_14 : decode cX4_inversions 14 = .ok (.aload_n 1, 1) := by decide +kernel
theorem dX4_inversions_15 : decode cX4_inversions 15 = .ok (.iload_n 3, 1) := by decide +kernel
theorem dX4_inversions_16 : decode cX4_inversions 16 = .ok (.invokevirtual 38, 3) := by decide +kernel
theorem dX4_inversions_19 : decode cX4_inversions 19 = .ok (.iadd, 1) := by decide +kernel
theorem dX4_inversions_20 : decode cX4_inversions 20 = .ok (.istore_n 2, 1) := by decide +kernel
theorem dX4_inversions_21 : decode cX4_inversions 21 = .ok (.iinc 3 1, 3) := by decide +kernel
theorem dX4_inversions_24 : decode cX4_inversions 24 = .ok (.goto (-20), 3) := by decide +kernel
theorem dX4_inversions_27 : decode cX4_inversions 27 = .ok (.iload_n 2, 1) := by decide +kernel
theorem dX4_inversions_28 : decode cX4_inversions 28 = .ok (.ireturn, 1) := by decide +kernel
theorem dX4_behindRow_0 : decode cX4_behindRow 0 = .ok (.aload_n 0, 1) := by decide +kernel
theorem dX4_behindRow_1 : decode cX4_behindRow 1 = .ok (.getfield 7, 3) := by decide +kernel
theorem dX4_behindRow_4 : decode cX4_behindRow 4 = .ok (.newarray .int, 2) := by decide +kernel
theorem dX4_behindRow_6 : decode cX4_behindRow 6 = .ok (.astore_n 3, 1) := by decide +kernel
theorem dX4_behindRow_7 : decode cX4_behindRow 7 = .ok (.iconst 0, 1) := by decide +kernel
theorem dX4_behindRow_8 : decode cX4_behindRow 8 = .ok (.istore 4, 2) := by decide +kernel
theorem dX4_behindRow_10 : decode cX4_behindRow 10 = .ok (.iload 4, 2) := by decide +kernel
theorem dX4_behindRow_12 : decode cX4_behindRow 12 = .ok (.aload_n 0, 1) := by decide +kernel
theorem dX4_behindRow_13 : decode cX4_behindRow 13 = .ok (.getfield 7, 3) := by decide +kernel
theorem dX4_behindRow_16 : decode cX4_behindRow 16 = .ok (.if_icmp .ge 19, 3) := by decide +kernel
theorem dX4_behindRow_19 : decode cX4_behindRow 19 = .ok (.aload_n 3, 1) := by decide +kernel
theorem dX4_behindRow_20 : decode cX4_behindRow 20 = .ok (.iload 4, 2) := by decide +kernel
theorem dX4_behindRow_22 : decode cX4_behindRow 22 = .ok (.aload_n 1, 1) := by decide +kernel
theorem dX4_behindRow_23 : decode cX4_behindRow 23 = .ok (.aload_n 2, 1) := by decide +kernel
theorem dX4_behindRow_24 : decode cX4_behindRow 24 = .ok (.iload 4, 2) := by decide +kernel
theorem dX4_behindRow_26 : decode cX4_behindRow 26 = .ok (.iaload, 1) := by decide +kernel
theorem dX4_behindRow_27 : decode cX4_behindRow 27 = .ok (.iaload, 1) := by decide +kernel
theorem dX4_behindRow_28 : decode cX4_behindRow 28 = .ok (.iastore, 1) := by decide +kernel
theorem dX4_behindRow_29 : decode cX4_behindRow 29 = .ok (.iinc 4 1, 3) := by decide +kernel
theorem dX4_behindRow_32 : decode cX4_behindRow 32 = .ok (.goto (-22), 3) := by decide +kernel
theorem dX4_behindRow_35 : decode cX4_behindRow 35 = .ok (.aload_n 3, 1) := by decide +kernel
theorem dX4_behindRow_36 : decode cX4_behindRow 36 = .ok (.areturn, 1) := by decide +kernel
theorem dX4_backRow_0 : decode cX4_backRow 0 = .ok (.aload_n 0, 1) := by decide +kernel
theorem dX4_backRow_1 : decode cX4_backRow 1 = .ok (.getfield 7, 3) := by decide +kernel
theorem dX4_backRow_4 : decode cX4_backRow 4 = .ok (.newarray .int, 2) := by decide +kernel
theorem dX4_backRow_6 : decode cX4_backRow 6 = .ok (.astore_n 2, 1) := by decide +kernel
theorem dX4_backRow_7 : decode cX4_backRow 7 = .ok (.iconst 0, 1) := by decide +kernel
theorem dX4_backRow_8 : decode cX4_backRow 8 = .ok (.istore_n 3, 1) := by decide +kernel
theorem dX4_backRow_9 : decode cX4_backRow 9 = .ok (.iload_n 3, 1) := by decide +kernel
theorem dX4_backRow_10 : decode cX4_backRow 10 = .ok (.aload_n 0, 1) := by decide +kernel
theorem dX4_backRow_11 : decode cX4_backRow 11 = .ok (.getfield 7, 3) := by decide +kernel
theorem dX4_backRow_14 : decode cX4_backRow 14 = .ok (.if_icmp .ge 15, 3) := by decide +kernel
theorem dX4_backRow_17 : decode cX4_backRow 17 = .ok (.aload_n 2, 1) := by decide +kernel
theorem dX4_backRow_18 : decode cX4_backRow 18 = .ok (.aload_n 1, 1) := by decide +kernel
theorem dX4_backRow_19 : decode cX4_backRow 19 = .ok (.iload_n 3, 1) := by decide +kernel
theorem dX4_backRow_20 : decode cX4_backRow 20 = .ok (.iaload, 1) := by decide +kernel
theorem dX4_backRow_21 : decode cX4_backRow 21 = .ok (.iload_n 3, 1) := by decide +kernel
theorem dX4_backRow_22 : decode cX4_backRow 22 = .ok (.iastore, 1) := by decide +kernel
theorem dX4_backRow_23 : decode cX4_backRow 23 = .ok (.iinc 3 1, 3) := by decide +kernel
theorem dX4_backRow_26 : decode cX4_backRow 26 = .ok (.goto (-17), 3) := by decide +kernel
theorem dX4_backRow_29 : decode cX4_backRow 29 = .ok (.aload_n 2, 1) := by decide +kernel
theorem dX4_backRow_30 : decode cX4_backRow 30 = .ok (.areturn, 1) := by decide +kernel
theorem dX4_ringOf_0 : decode cX4_ringOf 0 = .ok (.iconst 1, 1) := by decide +kernel
theorem dX4_ringOf_1 : decode cX4_ringOf 1 = .ok (.istore_n 3, 1) := by decide +kernel
theorem dX4_ringOf_2 : decode cX4_ringOf 2 = .ok (.aload_n 1, 1) := by decide +kernel
theorem dX4_ringOf_3 : decode cX4_ringOf 3 = .ok (.iload_n 2, 1) := by decide +kernel
theorem dX4_ringOf_4 : decode cX4_ringOf 4 = .ok (.iaload, 1) := by decide +kernel
theorem dX4_ringOf_5 : decode cX4_ringOf 5 = .ok (.istore 4, 2) := by decide +kernel
theorem dX4_ringOf_7 : decode cX4_ringOf 7 = .ok (.iload 4, 2) := by decide +kernel
theorem dX4_ringOf_9 : decode cX4_ringOf 9 = .ok (.iload_n 2, 1) := by decide +kernel
theorem dX4_ringOf_10 : decode cX4_ringOf 10 = .ok (.if_icmp .eq 15, 3) := by decide +kernel
theorem dX4_ringOf_13 : decode cX4_ringOf 13 = .ok (.iinc 3 1, 3) := by decide +kernel
theorem dX4_ringOf_16 : decode cX4_ringOf 16 = .ok (.aload_n 1, 1) := by decide +kernel
theorem dX4_ringOf_17 : decode cX4_ringOf 17 = .ok (.iload 4, 2) := by decide +kernel
theorem dX4_ringOf_19 : decode cX4_ringOf 19 = .ok (.iaload, 1) := by decide +kernel
theorem dX4_ringOf_20 : decode cX4_ringOf 20 = .ok (.istore 4, 2) := by decide +kernel
theorem dX4_ringOf_22 : decode cX4_ringOf 22 = .ok (.goto (-15), 3) := by decide +kernel
theorem dX4_ringOf_25 : decode cX4_ringOf 25 = .ok (.iload_n 3, 1) := by decide +kernel
theorem dX4_ringOf_26 : decode cX4_ringOf 26 = .ok (.ireturn, 1) := by decide +kernel
theorem dX4_isFirst_0 : decode cX4_isFirst 0 = .ok (.iconst 1, 1) := by decide +kernel
theorem dX4_isFirst_1 : decode cX4_isFirst 1 = .ok (.istore_n 3, 1) := by decide +kernel
theorem dX4_isFirst_2 : decode cX4_isFirst 2 = .ok (.aload_n 1, 1) := by decide +kernel
theorem dX4_isFirst_3 : decode cX4_isFirst 3 = .ok (.iload_n 2, 1) := by decide +kernel
theorem dX4_isFirst_4 : decode cX4_isFirst 4 = .ok (.iaload, 1) := by decide +kernel
theorem dX4_isFirst_5 : decode cX4_isFirst 5 = .ok (.istore 4, 2) := by decide +kernel
theorem dX4_isFirst_7 : decode cX4_isFirst 7 = .ok (.iload 4, 2) := by decide +kernel
theorem dX4_isFirst_9 : decode cX4_isFirst 9 = .ok (.iload_n 2, 1) := by decide +kernel
theorem dX4_isFirst_10 : decode cX4_isFirst 10 = .ok (.if_icmp .eq 26, 3) := by decide +kernel
theorem dX4_isFirst_13 : decode cX4_isFirst 13 = .ok (.iload_n 3, 1) := by decide +kernel
theorem dX4_isFirst_14 : decode cX4_isFirst 14 = .ok (.iload 4, 2) := by decide +kernel
theorem dX4_isFirst_16 : decode cX4_isFirst 16 = .ok (.iload_n 2, 1) := by decide +kernel
theorem dX4_isFirst_17 : decode cX4_isFirst 17 = .ok (.if_icmp .le 7, 3) := by decide +kernel
theorem dX4_isFirst_20 : decode cX4_isFirst 20 = .ok (.iconst 1, 1) := by decide +kernel
theorem dX4_isFirst_21 : decode cX4_isFirst 21 = .ok (.goto 4, 3) := by decide +kernel
theorem dX4_isFirst_24 : decode cX4_isFirst 24 = .ok (.iconst 0, 1) := by decide +kernel
theorem dX4_isFirst_25 : decode cX4_isFirst 25 = .ok (.iand, 1) := by decide +kernel
theorem dX4_isFirst_26 : decode cX4_isFirst 26 = .ok (.istore_n 3, 1) := by decide +kernel
theorem dX4_isFirst_27 : decode cX4_isFirst 27 = .ok (.aload_n 1, 1) := by decide +kernel
theorem dX4_isFirst_28 : decode cX4_isFirst 28 = .ok (.iload 4, 2) := by decide +kernel
theorem dX4_isFirst_30 : decode cX4_isFirst 30 = .ok (.iaload, 1) := by decide +kernel
theorem dX4_isFirst_31 : decode cX4_isFirst 31 = .ok (.istore 4, 2) := by decide +kernel
theorem dX4_isFirst_33 : decode cX4_isFirst 33 = .ok (.goto (-26), 3) := by decide +kernel
theorem dX4_isFirst_36 : decode cX4_isFirst 36 = .ok (.iload_n 3, 1) := by decide +kernel
theorem dX4_isFirst_37 : decode cX4_isFirst 37 = .ok (.ireturn, 1) := by decide +kernel
set_option maxRecDepth 20000 in
theorem ggX4_divisor_X4_divisor : GoodIn wsX4_divisor wsX4_divisor := goodIn_r _ [0, 1, 2, 3] (by decide +kernel) (by decide +kernel)
set_option maxRecDepth 20000 in
theorem gX4_divisor_X4_divisor : GoodIn wsX4_divisor (va_wsS RX4 42 yX4_divisor wsX4_divisor) := goodIn_app (goodIn_of _ (by decide +kernel)) ggX4_divisor_X4_divisor
theorem dX4_divisor_0 : decode cX4_divisor 0 = .ok (.iload_n 1, 1) := by decide +kernel
theorem dX4_divisor_1 : decode cX4_divisor 1 = .ok (.ifCond .ne 7, 3) := by decide +kernel
theorem dX4_divisor_4 : decode cX4_divisor 4 = .ok (.iload_n 0, 1) := by decide +kernel
theorem dX4_divisor_5 : decode cX4_divisor 5 = .ok (.goto 10, 3) := by decide +kernel
theorem dX4_divisor_8 : decode cX4_divisor 8 = .ok (.iload_n 1, 1) := by decide +kernel
theorem dX4_divisor_9 : decode cX4_divisor 9 = .ok (.iload_n 0, 1) := by decide +kernel
theorem dX4_divisor_10 : decode cX4_divisor 10 = .ok (.iload_n 1, 1) := by decide +kernel
theorem dX4_divisor_11 : decode cX4_divisor 11 = .ok (.irem, 1) := by decide +kernel
theorem dX4_divisor_12 : decode cX4_divisor 12 = .ok (.invokestatic 42, 3) := by decide +kernel
theorem dX4_divisor_15 : decode cX4_divisor 15 = .ok (.ireturn, 1) := by decide +kernel
set_option maxRecDepth 20000 in
theorem ggX4_order_X4_ringOf : GoodIn wsX4_order wsX4_ringOf := goodIn_r _ [6] (by decide +kernel) (by decide +kernel)
set_option maxRecDepth 20000 in
theorem gX4_order_X4_ringOf : GoodIn wsX4_order (wsV RX4 45 RX4 yX4_ringOf wsX4_ringOf) := goodIn_app (goodIn_of _ (by decide +kernel)) ggX4_order_X4_ringOf
set_option maxRecDepth 20000 in
theorem ggX4_order_X4_divisor : GoodIn wsX4_order wsX4_divisor := goodIn_r _ [9, 7, 8, 5] (by decide +kernel) (by decide +kernel)
set_option maxRecDepth 20000 in
theorem gX4_order_X4_divisor : GoodIn wsX4_order (va_wsS RX4 42 yX4_divisor wsX4_divisor) := goodIn_app (goodIn_of _ (by decide +kernel)) ggX4_order_X4_divisor
theorem dX4_order_0 : decode cX4_order 0 = .ok (.iconst 1, 1) := by decide +kernel
theorem dX4_order_1 : decode cX4_order 1 = .ok (.istore_n 2, 1) := by decide +kernel
theorem dX4_order_2 : decode cX4_order 2 = .ok (.iconst 0, 1) := by decide +kernel
theorem dX4_order_3 : decode cX4_order 3 = .ok (.istore_n 3, 1) := by decide +kernel
theorem dX4_order_4 : decode cX4_order 4 = .ok (.iload_n 3, 1) := by decide +kernel
theorem dX4_order_5 : decode cX4_order 5 = .ok (.aload_n 0, 1) := by decide +kernel
theorem dX4_order_6 : decode cX4_order 6 = .ok (.getfield 7, 3) := by decide +kernel
theorem dX4_order_9 : decode cX4_order 9 = .ok (.if_icmp .ge 29, 3) := by decide +kernel
theorem dX4_order_12 : decode cX4_order 12 = .ok (.iload_n 2, 1) := by decide +kernel
theorem dX4_order_13 : decode cX4_order 13 = .ok (.iload_n 2, 1) := by decide +kernel
theorem dX4_order_14 : decode cX4_order 14 = .ok (.aload_n 0, 1) := by decide +kernel
theorem dX4_order_15 : decode cX4_order 15 = .ok (.aload_n 1, 1) := by decide +kernel
theorem dX4_order_16 : decode cX4_order 16 = .ok (.iload_n 3, 1) := by decide +kernel
theorem dX4_order_17 : decode cX4_order 17 = .ok (.invokevirtual 45, 3) := by decide +kernel
theorem dX4_order_20 : decode cX4_order 20 = .ok (.invokestatic 42, 3) := by decide +kernel
theorem dX4_order_23 : decode cX4_order 23 = .ok (.idiv, 1) := by decide +kernel
theorem dX4_order_24 : decode cX4_order 24 = .ok (.aload_n 0, 1) := by decide +kernel
theorem dX4_order_25 : decode cX4_order 25 = .ok (.aload_n 1, 1) := by decide +kernel
theorem dX4_order_26 : decode cX4_order 26 = .ok (.iload_n 3, 1) := by decide +kernel
theorem dX4_order_27 : decode cX4_order 27 = .ok (.invokevirtual 45, 3) := by decide +kernel
theorem dX4_order_30 : decode cX4_order 30 = .ok (.imul, 1) := by decide +kernel
theorem dX4_order_31 : decode cX4_order 31 = .ok (.istore_n 2, 1) := by decide +kernel
theorem dX4_order_32 : decode cX4_order 32 = .ok (.iinc 3 1, 3) := by decide +kernel
theorem dX4_order_35 : decode cX4_order 35 = .ok (.goto (-31), 3) := by decide +kernel
theorem dX4_order_38 : decode cX4_order 38 = .ok (.iload_n 2, 1) := by decide +kernel
theorem dX4_order_39 : decode cX4_order 39 = .ok (.ireturn, 1) := by decide +kernel
theorem dX4_ringStep_0 : decode cX4_ringStep 0 = .ok (.aload_n 0, 1) := by decide +kernel
theorem dX4_ringStep_1 : decode cX4_ringStep 1 = .ok (.getfield 17, 3) := by decide +kernel
theorem dX4_ringStep_4 : decode cX4_ringStep 4 = .ok (.iload_n 2, 1) := by decide +kernel
theorem dX4_ringStep_5 : decode cX4_ringStep 5 = .ok (.aload_n 0, 1) := by decide +kernel
theorem dX4_ringStep_6 : decode cX4_ringStep 6 = .ok (.getfield 48, 3) := by decide +kernel
theorem dX4_ringStep_9 : decode cX4_ringStep 9 = .ok (.irem, 1) := by decide +kernel
theorem dX4_ringStep_10 : decode cX4_ringStep 10 = .ok (.iaload, 1) := by decide +kernel
theorem dX4_ringStep_11 : decode cX4_ringStep 11 = .ok (.istore_n 3, 1) := by decide +kernel
theorem dX4_ringStep_12 : decode cX4_ringStep 12 = .ok (.iconst 0, 1) := by decide +kernel
theorem dX4_ringStep_13 : decode cX4_ringStep 13 = .ok (.istore 4, 2) := by decide +kernel
theorem dX4_ringStep_15 : decode cX4_ringStep 15 = .ok (.iload 4, 2) := by decide +kernel
theorem dX4_ringStep_17 : decode cX4_ringStep 17 = .ok (.aload_n 0, 1) := by decide +kernel
theorem dX4_ringStep_18 : decode cX4_ringStep 18 = .ok (.getfield 7, 3) := by decide +kernel
theorem dX4_ringStep_21 : decode cX4_ringStep 21 = .ok (.if_icmp .ge 49, 3) := by decide +kernel
theorem dX4_ringStep_24 : decode cX4_ringStep 24 = .ok (.iload_n 3, 1) := by decide +kernel
theorem dX4_ringStep_25 : decode cX4_ringStep 25 = .ok (.iload 4, 2) := by decide +kernel
theorem dX4_ringStep_27 : decode cX4_ringStep 27 = .ok (.ishr, 1) := by decide +kernel
theorem dX4_ringStep_28 : decode cX4_ringStep 28 = .ok (.iconst 1, 1) := by decide +kernel
theorem dX4_ringStep_29 : decode cX4_ringStep 29 = .ok (.iand, 1) := by decide +kernel
theorem dX4_ringStep_30 : decode cX4_ringStep 30 = .ok (.iconst 1, 1) := by decide +kernel
theorem dX4_ringStep_31 : decode cX4_ringStep 31 = .ok (.if_icmp .ne 6, 3) := by decide +kernel
theorem dX4_ringStep_34 : decode cX4_ringStep 34 = .ok (.goto 30, 3) := by decide +kernel
theorem dX4_ringStep_37 : decode cX4_ringStep 37 = .ok (.aload_n 1, 1) := by decide +kernel
theorem dX4_ringStep_38 : decode cX4_ringStep 38 = .ok (.iload 4, 2) := by decide +kernel
theorem dX4_ringStep_40 : decode cX4_ringStep 40 = .ok (.iaload, 1) := by decide +kernel
theorem dX4_ringStep_41 : decode cX4_ringStep 41 = .ok (.istore 5, 2) := by decide +kernel
theorem dX4_ringStep_43 : decode cX4_ringStep 43 = .ok (.aload_n 1, 1) := by decide +kernel
theorem dX4_ringStep_44 : decode cX4_ringStep 44 = .ok (.iload 4, 2) := by decide +kernel
theorem dX4_ringStep_46 : decode cX4_ringStep 46 = .ok (.aload_n 1, 1) := by decide +kernel
theorem dX4_ringStep_47 : decode cX4_ringStep 47 = .ok (.iload 4, 2) := by decide +kernel
theorem dX4_ringStep_49 : decode cX4_ringStep 49 = .ok (.iconst 1, 1) := by decide +kernel
theorem dX4_ringStep_50 : decode cX4_ringStep 50 = .ok (.iadd, 1) := by decide +kernel
theorem dX4_ringStep_51 : decode cX4_ringStep 51 = .ok (.iaload, 1) := by decide +kernel
theorem dX4_ringStep_52 : decode cX4_ringStep 52 = .ok (.iastore, 1) := by decide +kernel
theorem dX4_ringStep_53 : decode cX4_ringStep 53 = .ok (.aload_n 1, 1) := by decide +kernel
theorem dX4_ringStep_54 : decode cX4_ringStep 54 = .ok (.iload 4, 2) := by decide +kernel
theorem dX4_ringStep_56 : decode cX4_ringStep 56 = .ok (.iconst 1, 1) := by decide +kernel
theorem dX4_ringStep_57 : decode cX4_ringStep 57 = .ok (.iadd, 1) := by decide +kernel
theorem dX4_ringStep_58 : decode cX4_ringStep 58 = .ok (.iload 5, 2) := by decide +kernel
theorem dX4_ringStep_60 : decode cX4_ringStep 60 = .ok (.iastore, 1) := by decide +kernel
theorem dX4_ringStep_61 : decode cX4_ringStep 61 = .ok (.iinc 4 1, 3) := by decide +kernel
theorem dX4_ringStep_64 : decode cX4_ringStep 64 = .ok (.iinc 4 1, 3) := by decide +kernel
theorem dX4_ringStep_67 : decode cX4_ringStep 67 = .ok (.goto (-52), 3) := by decide +kernel
theorem dX4_ringStep_70 : decode cX4_ringStep 70 = .ok (.return_, 1) := by decide +kernel
set_option maxRecDepth 20000 in
theorem ggX4_isStep_X4_isIn : GoodIn wsX4_isStep wsX4_isIn := goodIn_r _ [5] (by decide +kernel) (by decide +kernel)
set_option maxRecDepth 20000 in
theorem gX4_isStep_X4_isIn : GoodIn wsX4_isStep (va_wsS RX4 26 yX4_isIn wsX4_isIn) := goodIn_app (goodIn_of _ (by decide +kernel)) ggX4_isStep_X4_isIn
theorem dX4_isStep_0 : decode cX4_isStep 0 = .ok (.iload_n 1, 1) := by decide +kernel
theorem dX4_isStep_1 : decode cX4_isStep 1 = .ok (.iconst 0, 1) := by decide +kernel
theorem dX4_isStep_2 : decode cX4_isStep 2 = .ok (.iconst 1, 1) := by decide +kernel
theorem dX4_isStep_3 : decode cX4_isStep 3 = .ok (.aload_n 0, 1) := by decide +kernel
theorem dX4_isStep_4 : decode cX4_isStep 4 = .ok (.getfield 7, 3) := by decide +kernel
theorem dX4_isStep_7 : decode cX4_isStep 7 = .ok (.ishl, 1) := by decide +kernel
theorem dX4_isStep_8 : decode cX4_isStep 8 = .ok (.iconst 1, 1) := by decide +kernel
theorem dX4_isStep_9 : decode cX4_isStep 9 = .ok (.isub, 1) := by decide +kernel
theorem dX4_isStep_10 : decode cX4_isStep 10 = .ok (.invokestatic 26, 3) := by decide +kernel
theorem dX4_isStep_13 : decode cX4_isStep 13 = .ok (.ifCond .ne 5, 3) := by decide +kernel
theorem dX4_isStep_16 : decode cX4_isStep 16 = .ok (.iconst 0, 1) := by decide +kernel
theorem dX4_isStep_17 : decode cX4_isStep 17 = .ok (.ireturn, 1) := by decide +kernel
theorem dX4_isStep_18 : decode cX4_isStep 18 = .ok (.iconst 0, 1) := by decide +kernel
theorem dX4_isStep_19 : decode cX4_isStep 19 = .ok (.istore_n 2, 1) := by decide +kernel
theorem dX4_isStep_20 : decode cX4_isStep 20 = .ok (.iconst 0, 1) := by decide +kernel
theorem dX4_isStep_21 : decode cX4_isStep 21 = .ok (.istore_n 3, 1) := by decide +kernel
theorem dX4_isStep_22 : decode cX4_isStep 22 = .ok (.iload_n 3, 1) := by decide +kernel
theorem dX4_isStep_23 : decode cX4_isStep 23 = .ok (.aload_n 0, 1) := by decide +kernel
theorem dX4_isStep_24 : decode cX4_isStep 24 = .ok (.getfield 7, 3) := by decide +kernel
theorem dX4_isStep_27 : decode cX4_isStep 27 = .ok (.if_icmp .ge 52, 3) := by decide +kernel
theorem dX4_isStep_30 : decode cX4_isStep 30 = .ok (.iload_n 1, 1) := by decide +kernel
theorem dX4_isStep_31 : decode cX4_isStep 31 = .ok (.iload_n 3, 1) := by decide +kernel
theorem dX4_isStep_32 : decode cX4_isStep 32 = .ok (.ishr, 1) := by decide +kernel
theorem dX4_isStep_33 : decode cX4_isStep 33 = .ok (.iconst 1, 1) := by decide +kernel
theorem dX4_isStep_34 : decode cX4_isStep 34 = .ok (.iand, 1) := by decide +kernel
theorem dX4_isStep_35 : decode cX4_isStep 35 = .ok (.iconst 1, 1) := by decide +kernel
theorem dX4_isStep_36 : decode cX4_isStep 36 = .ok (.if_icmp .ne 7, 3) := by decide +kernel
theorem dX4_isStep_39 : decode cX4_isStep 39 = .ok (.iconst 1, 1) := by decide +kernel
theorem dX4_isStep_40 : decode cX4_isStep 40 = .ok (.goto 4, 3) := by decide +kernel
theorem dX4_isStep_43 : decode cX4_isStep 43 = .ok (.iconst 0, 1) := by decide +kernel
theorem dX4_isStep_44 : decode cX4_isStep 44 = .ok (.istore 4, 2) := by decide +kernel
theorem dX4_isStep_46 : decode cX4_isStep 46 = .ok (.iload 4, 2) := by decide +kernel
theorem dX4_isStep_48 : decode cX4_isStep 48 = .ok (.ifCond .eq 12, 3) := by decide +kernel
theorem dX4_isStep_51 : decode cX4_isStep 51 = .ok (.iload_n 2, 1) := by decide +kernel
theorem dX4_isStep_52 : decode cX4_isStep 52 = .ok (.iconst 2, 1) := by decide +kernel
theorem dX4_isStep_53 : decode cX4_isStep 53 = .ok (.irem, 1) := by decide +kernel
theorem dX4_isStep_54 : decode cX4_isStep 54 = .ok (.iconst 1, 1) := by decide +kernel
theorem dX4_isStep_55 : decode cX4_isStep 55 = .ok (.if_icmp .ne 5, 3) := by decide +kernel
theorem dX4_isStep_58 : decode cX4_isStep 58 = .ok (.iconst 0, 1) := by decide +kernel
theorem dX4_isStep_59 : decode cX4_isStep 59 = .ok (.ireturn, 1) := by decide +kernel
theorem dX4_isStep_60 : decode cX4_isStep 60 = .ok (.iload 4, 2) := by decide +kernel
theorem dX4_isStep_62 : decode cX4_isStep 62 = .ok (.ifCond .eq 7, 3) := by decide +kernel
theorem dX4_isStep_65 : decode cX4_isStep 65 = .ok (.iconst 0, 1) := by decide +kernel
theorem dX4_isStep_66 : decode cX4_isStep 66 = .ok (.goto 6, 3) := by decide +kernel
theorem dX4_isStep_69 : decode cX4_isStep 69 = .ok (.iload_n 2, 1) := by decide +kernel
theorem dX4_isStep_70 : decode cX4_isStep 70 = .ok (.iconst 1, 1) := by decide +kernel
theorem dX4_isStep_71 : decode cX4_isStep 71 = .ok (.iadd, 1) := by decide +kernel
theorem dX4_isStep_72 : decode cX4_isStep 72 = .ok (.istore_n 2, 1) := by decide +kernel
theorem dX4_isStep_73 : decode cX4_isStep 73 = .ok (.iinc 3 1, 3) := by decide +kernel
theorem dX4_isStep_76 : decode cX4_isStep 76 = .ok (.goto (-54), 3) := by decide +kernel
theorem dX4_isStep_79 : decode cX4_isStep 79 = .ok (.iload_n 2, 1) := by decide +kernel
theorem dX4_isStep_80 : decode cX4_isStep 80 = .ok (.iconst 2, 1) := by decide +kernel
theorem dX4_isStep_81 : decode cX4_isStep 81 = .ok (.irem, 1) := by decide +kernel
theorem dX4_isStep_82 : decode cX4_isStep 82 = .ok (.ifCond .ne 7, 3) := by decide +kernel
theorem dX4_isStep_85 : decode cX4_isStep 85 = .ok (.iconst 1, 1) := by decide +kernel
theorem dX4_isStep_86 : decode cX4_isStep 86 = .ok (.goto 4, 3) := by decide +kernel
theorem dX4_isStep_89 : decode cX4_isStep 89 = .ok (.iconst 0, 1) := by decide +kernel
theorem dX4_isStep_90 : decode cX4_isStep 90 = .ok (.ireturn, 1) := by decide +kernel
set_option maxRecDepth 20000 in
theorem ggX4_setBells_X4_isIn : GoodIn wsX4_setBells wsX4_isIn := goodIn_r _ [8] (by decide +kernel) (by decide +kernel)
set_option maxRecDepth 20000 in
theorem gX4_setBells_X4_isIn : GoodIn wsX4_setBells (va_wsS RX4 26 yX4_isIn wsX4_isIn) := goodIn_app (goodIn_of _ (by decide +kernel)) ggX4_setBells_X4_isIn
set_option maxRecDepth 20000 in
theorem ggX4_setBells_X4_no : GoodIn wsX4_setBells wsX4_no := goodIn_r _ [12, 1, 13, 14, 15, 16, 17, 18, 19] (by decide +kernel) (by decide +kernel)
set_option maxRecDepth 20000 in
theorem gX4_setBells_X4_no : GoodIn wsX4_setBells (wsV RX4 51 RX4 yX4_no wsX4_no) := goodIn_app (goodIn_of _ (by decide +kernel)) ggX4_setBells_X4_no
theorem dX4_setBells_0 : decode cX4_setBells 0 = .ok (.aload_n 0, 1) := by decide +kernel
theorem dX4_setBells_1 : decode cX4_setBells 1 = .ok (.iconst 0, 1) := by decide +kernel
theorem dX4_setBells_2 : decode cX4_setBells 2 = .ok (.putfield 20, 3) := by decide +kernel
theorem dX4_setBells_5 : decode cX4_setBells 5 = .ok (.iload_n 1, 1) := by decide +kernel
theorem dX4_setBells_6 : decode cX4_setBells 6 = .ok (.iconst 2, 1) := by decide +kernel
theorem dX4_setBells_7 : decode cX4_setBells 7 = .ok (.bipush 8, 2) := by decide +kernel
theorem dX4_setBells_9 : decode cX4_setBells 9 = .ok (.invokestatic 26, 3) := by decide +kernel
theorem dX4_setBells_12 : decode cX4_setBells 12 = .ok (.ifCond .ne 9, 3) := by decide +kernel
theorem dX4_setBells_15 : decode cX4_setBells 15 = .ok (.aload_n 0, 1) := by decide +kernel
theorem dX4_setBells_16 : decode cX4_setBells 16 = .ok (.iconst 1, 1) := by decide +kernel
theorem dX4_setBells_17 : decode cX4_setBells 17 = .ok (.invokevirtual 51, 3) := by decide +kernel
theorem dX4_setBells_20 : decode cX4_setBells 20 = .ok (.ireturn, 1) := by decide +kernel
theorem dX4_setBells_21 : decode cX4_setBells 21 = .ok (.aload_n 0, 1) := by decide +kernel
theorem dX4_setBells_22 : decode cX4_setBells 22 = .ok (.getfield 7, 3) := by decide +kernel
theorem dX4_setBells_25 : decode cX4_setBells 25 = .ok (.istore_n 2, 1) := by decide +kernel
theorem dX4_setBells_26 : decode cX4_setBells 26 = .ok (.aload_n 0, 1) := by decide +kernel
theorem dX4_setBells_27 : decode cX4_setBells 27 = .ok (.iload_n 1, 1) := by decide +kernel
theorem dX4_setBells_28 : decode cX4_setBells 28 = .ok (.putfield 7, 3) := by decide +kernel
theorem dX4_setBells_31 : decode cX4_setBells 31 = .ok (.aload_n 0, 1) := by decide +kernel
theorem dX4_setBells_32 : decode cX4_setBells 32 = .ok (.iconst 0, 1) := by decide +kernel
theorem dX4_setBells_33 : decode cX4_setBells 33 = .ok (.putfield 23, 3) := by decide +kernel
theorem dX4_setBells_36 : decode cX4_setBells 36 = .ok (.aload_n 0, 1) := by decide +kernel
theorem dX4_setBells_37 : decode cX4_setBells 37 = .ok (.iconst 0, 1) := by decide +kernel
theorem dX4_setBells_38 : decode cX4_setBells 38 = .ok (.putfield 48, 3) := by decide +kernel
theorem dX4_setBells_41 : decode cX4_setBells 41 = .ok (.iload_n 2, 1) := by decide +kernel
theorem dX4_setBells_42 : decode cX4_setBells 42 = .ok (.ireturn, 1) := by decide +kernel
theorem dX4_add_0 : decode cX4_add 0 = .ok (.aload_n 0, 1) := by decide +kernel
theorem dX4_add_1 : decode cX4_add 1 = .ok (.getfield 13, 3) := by decide +kernel
theorem dX4_add_4 : decode cX4_add 4 = .ok (.aload_n 0, 1) := by decide +kernel
theorem dX4_add_5 : decode cX4_add 5 = .ok (.getfield 23, 3) := by decide +kernel
theorem dX4_add_8 : decode cX4_add 8 = .ok (.iload_n 1, 1) := by decide +kernel
theorem dX4_add_9 : decode cX4_add 9 = .ok (.iastore, 1) := by decide +kernel
theorem dX4_add_10 : decode cX4_add 10 = .ok (.aload_n 0, 1) := by decide +kernel
theorem dX4_add_11 : decode cX4_add 11 = .ok (.dup, 1) := by decide +kernel
theorem dX4_add_12 : decode cX4_add 12 = .ok (.getfield 23, 3) := by decide +kernel
theorem dX4_add_15 : decode cX4_add 15 = .ok (.iconst 1, 1) := by decide +kernel
theorem dX4_add_16 : decode cX4_add 16 = .ok (.iadd, 1) := by decide +kernel
theorem dX4_add_17 : decode cX4_add 17 = .ok (.putfield 23, 3) := by decide +kernel
theorem dX4_add_20 : decode cX4_add 20 = .ok (.aload_n 0, 1) := by decide +kernel
theorem dX4_add_21 : decode cX4_add 21 = .ok (.getfield 23, 3) := by decide +kernel
theorem dX4_add_24 : decode cX4_add 24 = .ok (.iconst 1, 1) := by decide +kernel
theorem dX4_add_25 : decode cX4_add 25 = .ok (.isub, 1) := by decide +kernel
theorem dX4_add_26 : decode cX4_add 26 = .ok (.ireturn, 1) := by decide +kernel
set_option maxRecDepth 20000 in
theorem ggX4_become_X4_rank : GoodIn wsX4_become wsX4_rank := goodIn_r _ [6, 7, 8, 9, 10, 5, 11, 12, 13, 14, 15, 16, 17, 18, 19, 20, 21] (by decide +kernel) (by decide +kernel)
set_option maxRecDepth 20000 in
theorem gX4_become_X4_rank : GoodIn wsX4_become (wsV RX4 54 RX4 yX4_rank wsX4_rank) := goodIn_app (goodIn_of _ (by decide +kernel)) ggX4_become_X4_rank
theorem dX4_become_0 : decode cX4_become 0 = .ok (.aload_n 0, 1) := by decide +kernel
theorem dX4_become_1 : decode cX4_become 1 = .ok (.getfield 13, 3) := by decide +kernel
theorem dX4_become_4 : decode cX4_become 4 = .ok (.iload_n 1, 1) := by decide +kernel
theorem dX4_become_5 : decode cX4_become 5 = .ok (.aload_n 0, 1) := by decide +kernel
theorem dX4_become_6 : decode cX4_become 6 = .ok (.aload_n 2, 1) := by decide +kernel
theorem dX4_become_7 : decode cX4_become 7 = .ok (.invokevirtual 54, 3) := by decide +kernel
theorem dX4_become_10 : decode cX4_become 10 = .ok (.iastore, 1) := by decide +kernel
theorem dX4_become_11 : decode cX4_become 11 = .ok (.aload_n 0, 1) := by decide +kernel
theorem dX4_become_12 : decode cX4_become 12 = .ok (.getfield 13, 3) := by decide +kernel
theorem dX4_become_15 : decode cX4_become 15 = .ok (.iload_n 1, 1) := by decide +kernel
theorem dX4_become_16 : decode cX4_become 16 = .ok (.iaload, 1) := by decide +kernel
theorem dX4_become_17 : decode cX4_become 17 = .ok (.ireturn, 1) := by decide +kernel
set_option maxRecDepth 20000 in
theorem ggX4_write_X4_product : GoodIn wsX4_write wsX4_product := goodIn_r _ [7, 4, 5, 6] (by decide +kernel) (by decide +kernel)
set_option maxRecDepth 20000 in
theorem gX4_write_X4_product : GoodIn wsX4_write (va_wsS RX4 30 yX4_product wsX4_product) := goodIn_app (goodIn_of _ (by decide +kernel)) ggX4_write_X4_product
set_option maxRecDepth 20000 in
theorem ggX4_write_X4_isIn : GoodIn wsX4_write wsX4_isIn := goodIn_r _ [10] (by decide +kernel) (by decide +kernel)
set_option maxRecDepth 20000 in
theorem gX4_write_X4_isIn : GoodIn wsX4_write (va_wsS RX4 26 yX4_isIn wsX4_isIn) := goodIn_app (goodIn_of _ (by decide +kernel)) ggX4_write_X4_isIn
set_option maxRecDepth 20000 in
theorem ggX4_write_X4_no : GoodIn wsX4_write wsX4_no := goodIn_r _ [14, 1, 20, 21, 22, 23, 24, 25, 26] (by decide +kernel) (by decide +kernel)
set_option maxRecDepth 20000 in
theorem gX4_write_X4_no : GoodIn wsX4_write (wsV RX4 51 RX4 yX4_no wsX4_no) := goodIn_app (goodIn_of _ (by decide +kernel)) ggX4_write_X4_no
set_option maxRecDepth 20000 in
theorem ggX4_write_X4_add : GoodIn wsX4_write wsX4_add := goodIn_r _ [18, 19, 3, 20, 21, 22, 23, 24, 25, 26] (by decide +kernel) (by decide +kernel)
set_option maxRecDepth 20000 in
theorem gX4_write_X4_add : GoodIn wsX4_write (wsV RX4 58 RX4 yX4_add wsX4_add) := goodIn_app (goodIn_of _ (by decide +kernel)) ggX4_write_X4_add
theorem dX4_write_0 : decode cX4_write 0 = .ok (.aload_n 0, 1) := by decide +kernel
theorem dX4_write_1 : decode cX4_write 1 = .ok (.iconst 0, 1) := by decide +kernel
theorem dX4_write_2 : decode cX4_write 2 = .ok (.putfield 20, 3) := by decide +kernel
theorem dX4_write_5 : decode cX4_write 5 = .ok (.iload_n 1, 1) := by decide +kernel
theorem dX4_write_6 : decode cX4_write 6 = .ok (.iconst 0, 1) := by decide +kernel
theorem dX4_write_7 : decode cX4_write 7 = .ok (.aload_n 0, 1) := by decide +kernel
theorem dX4_write_8 : decode cX4_write 8 = .ok (.getfield 7, 3) := by decide +kernel
theorem dX4_write_11 : decode cX4_write 11 = .ok (.invokestatic 30, 3) := by decide +kernel
theorem dX4_write_14 : decode cX4_write 14 = .ok (.iconst 1, 1) := by decide +kernel
theorem dX4_write_15 : decode cX4_write 15 = .ok (.isub, 1) := by decide +kernel
theorem dX4_write_16 : decode cX4_write 16 = .ok (.invokestatic 26, 3) := by decide +kernel
theorem dX4_write_19 : decode cX4_write 19 = .ok (.ifCond .ne 9, 3) := by decide +kernel
theorem dX4_write_22 : decode cX4_write 22 = .ok (.aload_n 0, 1) := by decide +kernel
theorem dX4_write_23 : decode cX4_write 23 = .ok (.iconst 1, 1) := by decide +kernel
theorem dX4_write_24 : decode cX4_write 24 = .ok (.invokevirtual 51, 3) := by decide +kernel
theorem dX4_write_27 : decode cX4_write 27 = .ok (.ireturn, 1) := by decide +kernel
theorem dX4_write_28 : decode cX4_write 28 = .ok (.aload_n 0, 1) := by decide +kernel
theorem dX4_write_29 : decode cX4_write 29 = .ok (.getfield 23, 3) := by decide +kernel
theorem dX4_write_32 : decode cX4_write 32 = .ok (.bipush 16, 2) := by decide +kernel
theorem dX4_write_34 : decode cX4_write 34 = .ok (.if_icmp .ne 11, 3) := by decide +kernel
theorem dX4_write_37 : decode cX4_write 37 = .ok (.aload_n 0, 1) := by decide +kernel
theorem dX4_write_38 : decode cX4_write 38 = .ok (.iconst 2, 1) := by decide +kernel
theorem dX4_write_39 : decode cX4_write 39 = .ok (.invokevirtual 51, 3) := by decide +kernel
theorem dX4_write_42 : decode cX4_write 42 = .ok (.goto 8, 3) := by decide +kernel
theorem dX4_write_45 : decode cX4_write 45 = .ok (.aload_n 0, 1) := by decide +kernel
theorem dX4_write_46 : decode cX4_write 46 = .ok (.iload_n 1, 1) := by decide +kernel
theorem dX4_write_47 : decode cX4_write 47 = .ok (.invokevirtual 58, 3) := by decide +kernel
theorem dX4_write_50 : decode cX4_write 50 = .ok (.ireturn, 1) := by decide +kernel
set_option maxRecDepth 20000 in
theorem ggX4_swap_X4_isChange : GoodIn wsX4_swap wsX4_isChange := goodIn_r _ [8, 9, 10, 11, 7, 12, 40, 41, 42, 43, 44, 45, 46] (by decide +kernel) (by decide +kernel)
set_option maxRecDepth 20000 in
theorem gX4_swap_X4_isChange : GoodIn wsX4_swap (wsV RX4 61 RX4 yX4_isChange wsX4_isChange) := goodIn_app (goodIn_of _ (by decide +kernel)) ggX4_swap_X4_isChange
set_option maxRecDepth 20000 in
theorem ggX4_swap_X4_isIn : GoodIn wsX4_swap wsX4_isIn := goodIn_r _ [12] (by decide +kernel) (by decide +kernel)
set_option maxRecDepth 20000 in
theorem gX4_swap_X4_isIn : GoodIn wsX4_swap (va_wsS RX4 26 yX4_isIn wsX4_isIn) := goodIn_app (goodIn_of _ (by decide +kernel)) ggX4_swap_X4_isIn
set_option maxRecDepth 20000 in
theorem ggX4_swap_X4_no : GoodIn wsX4_swap wsX4_no := goodIn_r _ [16, 1, 40, 41, 42, 43, 44, 45, 46] (by decide +kernel) (by decide +kernel)
set_option maxRecDepth 20000 in
theorem gX4_swap_X4_no : GoodIn wsX4_swap (wsV RX4 51 RX4 yX4_no wsX4_no) := goodIn_app (goodIn_of _ (by decide +kernel)) ggX4_swap_X4_no
set_option maxRecDepth 20000 in
theorem ggX4_swap_X4_row : GoodIn wsX4_swap wsX4_row := goodIn_r _ [20, 2, 21, 22, 23, 7, 24, 25, 26, 27, 40, 41, 42, 43, 44, 45, 46] (by decide +kernel) (by decide +kernel)
set_option maxRecDepth 20000 in
theorem gX4_swap_X4_row : GoodIn wsX4_swap (wsV RX4 65 RX4 yX4_row wsX4_row) := goodIn_app (goodIn_of _ (by decide +kernel)) ggX4_swap_X4_row
set_option maxRecDepth 20000 in
theorem ggX4_swap_X4_become : GoodIn wsX4_swap wsX4_become := goodIn_r _ [31, 3, 32, 33, 34, 7, 35, 2, 36, 37, 38, 39, 22, 23, 24, 40, 41, 42, 43, 44, 45, 46] (by decide +kernel) (by decide +kernel)
set_option maxRecDepth 20000 in
theorem gX4_swap_X4_become : GoodIn wsX4_swap (wsV RX4 69 RX4 yX4_become wsX4_become) := goodIn_app (goodIn_of _ (by decide +kernel)) ggX4_swap_X4_become
theorem dX4_swap_0 : decode cX4_swap 0 = .ok (.aload_n 0, 1) := by decide +kernel
theorem dX4_swap_1 : decode cX4_swap 1 = .ok (.iconst 0, 1) := by decide +kernel
theorem dX4_swap_2 : decode cX4_swap 2 = .ok (.putfield 20, 3) := by decide +kernel
theorem dX4_swap_5 : decode cX4_swap 5 = .ok (.aload_n 0, 1) := by decide +kernel
theorem dX4_swap_6 : decode cX4_swap 6 = .ok (.iload_n 1, 1) := by decide +kernel
theorem dX4_swap_7 : decode cX4_swap 7 = .ok (.invokevirtual 61, 3) := by decide +kernel
theorem dX4_swap_10 : decode cX4_swap 10 = .ok (.ifCond .eq 17, 3) := by decide +kernel
theorem dX4_swap_13 : decode cX4_swap 13 = .ok (.iload_n 2, 1) := by decide +kernel
theorem dX4_swap_14 : decode cX4_swap 14 = .ok (.iconst 0, 1) := by decide +kernel
theorem dX4_swap_15 : decode cX4_swap 15 = .ok (.aload_n 0, 1) := by decide +kernel
theorem dX4_swap_16 : decode cX4_swap 16 = .ok (.getfield 7, 3) := by decide +kernel
theorem dX4_swap_19 : decode cX4_swap 19 = .ok (.iconst 2, 1) := by decide +kernel
theorem dX4_swap_20 : decode cX4_swap 20 = .ok (.isub, 1) := by decide +kernel
theorem dX4_swap_21 : decode cX4_swap 21 = .ok (.invokestatic 26, 3) := by decide +kernel
theorem dX4_swap_24 : decode cX4_swap 24 = .ok (.ifCond .ne 9, 3) := by decide +kernel
theorem dX4_swap_27 : decode cX4_swap 27 = .ok (.aload_n 0, 1) := by decide +kernel
theorem dX4_swap_28 : decode cX4_swap 28 = .ok (.iconst 1, 1) := by decide +kernel
theorem dX4_swap_29 : decode cX4_swap 29 = .ok (.invokevirtual 51, 3) := by decide +kernel
theorem dX4_swap_32 : decode cX4_swap 32 = .ok (.ireturn, 1) := by decide +kernel
theorem dX4_swap_33 : decode cX4_swap 33 = .ok (.aload_n 0, 1) := by decide +kernel
theorem dX4_swap_34 : decode cX4_swap 34 = .ok (.aload_n 0, 1) := by decide +kernel
theorem dX4_swap_35 : decode cX4_swap 35 = .ok (.getfield 13, 3) := by decide +kernel
theorem dX4_swap_38 : decode cX4_swap 38 = .ok (.iload_n 1, 1) := by decide +kernel
theorem dX4_swap_39 : decode cX4_swap 39 = .ok (.iaload, 1) := by decide +kernel
theorem dX4_swap_40 : decode cX4_swap 40 = .ok (.invokevirtual 65, 3) := by decide +kernel
theorem dX4_swap_43 : decode cX4_swap 43 = .ok (.astore_n 3, 1) := by decide +kernel
theorem dX4_swap_44 : decode cX4_swap 44 = .ok (.aload_n 3, 1) := by decide +kernel
theorem dX4_swap_45 : decode cX4_swap 45 = .ok (.iload_n 2, 1) := by decide +kernel
theorem dX4_swap_46 : decode cX4_swap 46 = .ok (.iaload, 1) := by decide +kernel
theorem dX4_swap_47 : decode cX4_swap 47 = .ok (.istore 4, 2) := by decide +kernel
theorem dX4_swap_49 : decode cX4_swap 49 = .ok (.aload_n 3, 1) := by decide +kernel
theorem dX4_swap_50 : decode cX4_swap 50 = .ok (.iload_n 2, 1) := by decide +kernel
theorem dX4_swap_51 : decode cX4_swap 51 = .ok (.aload_n 3, 1) := by decide +kernel
theorem dX4_swap_52 : decode cX4_swap 52 = .ok (.iload_n 2, 1) := by decide +kernel
theorem dX4_swap_53 : decode cX4_swap 53 = .ok (.iconst 1, 1) := by decide +kernel
theorem dX4_swap_54 : decode cX4_swap 54 = .ok (.iadd, 1) := by decide +kernel
theorem dX4_swap_55 : decode cX4_swap 55 = .ok (.iaload, 1) := by decide +kernel
theorem dX4_swap_56 : decode cX4_swap 56 = .ok (.iastore, 1) := by decide +kernel
theorem dX4_swap_57 : decode cX4_swap 57 = .ok (.aload_n 3, 1) := by decide +kernel
theorem dX4_swap_58 : decode cX4_swap 58 = .ok (.iload_n 2, 1) := by decide +kernel
theorem dX4_swap_59 : decode cX4_swap 59 = .ok (.iconst 1, 1) := by decide +kernel
theorem dX4_swap_60 : decode cX4_swap 60 = .ok (.iadd, 1) := by decide +kernel
theorem dX4_swap_61 : decode cX4_swap 61 = .ok (.iload 4, 2) := by decide +kernel
theorem dX4_swap_63 : decode cX4_swap 63 = .ok (.iastore, 1) := by decide +kernel
theorem dX4_swap_64 : decode cX4_swap 64 = .ok (.aload_n 0, 1) := by decide +kernel
theorem dX4_swap_65 : decode cX4_swap 65 = .ok (.iload_n 1, 1) := by decide +kernel
theorem dX4_swap_66 : decode cX4_swap 66 = .ok (.aload_n 3, 1) := by decide +kernel
theorem dX4_swap_67 : decode cX4_swap 67 = .ok (.invokevirtual 69, 3) := by decide +kernel
theorem dX4_swap_70 : decode cX4_swap 70 = .ok (.ireturn, 1) := by decide +kernel
set_option maxRecDepth 20000 in
theorem ggX4_next_X4_isChange : GoodIn wsX4_next wsX4_isChange := goodIn_r _ [8, 9, 10, 11, 7, 12, 20, 21, 22, 23, 24, 25, 26] (by decide +kernel) (by decide +kernel)
set_option maxRecDepth 20000 in
theorem gX4_next_X4_isChange : GoodIn wsX4_next (wsV RX4 61 RX4 yX4_isChange wsX4_isChange) := goodIn_app (goodIn_of _ (by decide +kernel)) ggX4_next_X4_isChange
set_option maxRecDepth 20000 in
theorem ggX4_next_X4_no : GoodIn wsX4_next wsX4_no := goodIn_r _ [16, 1, 20, 21, 22, 23, 24, 25, 26] (by decide +kernel) (by decide +kernel)
set_option maxRecDepth 20000 in
theorem gX4_next_X4_no : GoodIn wsX4_next (wsV RX4 51 RX4 yX4_no wsX4_no) := goodIn_app (goodIn_of _ (by decide +kernel)) ggX4_next_X4_no
set_option maxRecDepth 20000 in
theorem ggX4_next_X4_product : GoodIn wsX4_next wsX4_product := goodIn_r _ [19, 17, 18, 7] (by decide +kernel) (by decide +kernel)
set_option maxRecDepth 20000 in
theorem gX4_next_X4_product : GoodIn wsX4_next (va_wsS RX4 30 yX4_product wsX4_product) := goodIn_app (goodIn_of _ (by decide +kernel)) ggX4_next_X4_product
theorem dX4_next_0 : decode cX4_next 0 = .ok (.aload_n 0, 1) := by decide +kernel
theorem dX4_next_1 : decode cX4_next 1 = .ok (.iconst 0, 1) := by decide +kernel
theorem dX4_next_2 : decode cX4_next 2 = .ok (.putfield 20, 3) := by decide +kernel
theorem dX4_next_5 : decode cX4_next 5 = .ok (.aload_n 0, 1) := by decide +kernel
theorem dX4_next_6 : decode cX4_next 6 = .ok (.iload_n 1, 1) := by decide +kernel
theorem dX4_next_7 : decode cX4_next 7 = .ok (.invokevirtual 61, 3) := by decide +kernel
theorem dX4_next_10 : decode cX4_next 10 = .ok (.ifCond .ne 9, 3) := by decide +kernel
theorem dX4_next_13 : decode cX4_next 13 = .ok (.aload_n 0, 1) := by decide +kernel
theorem dX4_next_14 : decode cX4_next 14 = .ok (.iconst 1, 1) := by decide +kernel
theorem dX4_next_15 : decode cX4_next 15 = .ok (.invokevirtual 51, 3) := by decide +kernel
theorem dX4_next_18 : decode cX4_next 18 = .ok (.ireturn, 1) := by decide +kernel
theorem dX4_next_19 : decode cX4_next 19 = .ok (.aload_n 0, 1) := by decide +kernel
theorem dX4_next_20 : decode cX4_next 20 = .ok (.getfield 13, 3) := by decide +kernel
theorem dX4_next_23 : decode cX4_next 23 = .ok (.iload_n 1, 1) := by decide +kernel
theorem dX4_next_24 : decode cX4_next 24 = .ok (.aload_n 0, 1) := by decide +kernel
theorem dX4_next_25 : decode cX4_next 25 = .ok (.getfield 13, 3) := by decide +kernel
theorem dX4_next_28 : decode cX4_next 28 = .ok (.iload_n 1, 1) := by decide +kernel
theorem dX4_next_29 : decode cX4_next 29 = .ok (.iaload, 1) := by decide +kernel
theorem dX4_next_30 : decode cX4_next 30 = .ok (.iconst 1, 1) := by decide +kernel
theorem dX4_next_31 : decode cX4_next 31 = .ok (.iadd, 1) := by decide +kernel
theorem dX4_next_32 : decode cX4_next 32 = .ok (.aload_n 0, 1) := by decide +kernel
theorem dX4_next_33 : decode cX4_next 33 = .ok (.getfield 7, 3) := by decide +kernel
theorem dX4_next_36 : decode cX4_next 36 = .ok (.invokestatic 30, 3) := by decide +kernel
theorem dX4_next_39 : decode cX4_next 39 = .ok (.irem, 1) := by decide +kernel
theorem dX4_next_40 : decode cX4_next 40 = .ok (.iastore, 1) := by decide +kernel
theorem dX4_next_41 : decode cX4_next 41 = .ok (.aload_n 0, 1) := by decide +kernel
theorem dX4_next_42 : decode cX4_next 42 = .ok (.getfield 13, 3) := by decide +kernel
theorem dX4_next_45 : decode cX4_next 45 = .ok (.iload_n 1, 1) := by decide +kernel
theorem dX4_next_46 : decode cX4_next 46 = .ok (.iaload, 1) := by decide +kernel
theorem dX4_next_47 : decode cX4_next 47 = .ok (.ireturn, 1) := by decide +kernel
set_option maxRecDepth 20000 in
theorem ggX4_behind_X4_isChange : GoodIn wsX4_behind wsX4_isChange := goodIn_r _ [8, 2, 9, 10, 7, 11, 44, 45, 46, 47, 48, 49, 50] (by decide +kernel) (by decide +kernel)
set_option maxRecDepth 20000 in
theorem gX4_behind_X4_isChange : GoodIn wsX4_behind (wsV RX4 61 RX4 yX4_isChange wsX4_isChange) := goodIn_app (goodIn_of _ (by decide +kernel)) ggX4_behind_X4_isChange
set_option maxRecDepth 20000 in
theorem ggX4_behind_X4_no : GoodIn wsX4_behind wsX4_no := goodIn_r _ [15, 1, 44, 45, 46, 47, 48, 49, 50] (by decide +kernel) (by decide +kernel)
set_option maxRecDepth 20000 in
theorem gX4_behind_X4_no : GoodIn wsX4_behind (wsV RX4 51 RX4 yX4_no wsX4_no) := goodIn_app (goodIn_of _ (by decide +kernel)) ggX4_behind_X4_no
set_option maxRecDepth 20000 in
theorem ggX4_behind_X4_row : GoodIn wsX4_behind wsX4_row := goodIn_r _ [19, 20, 21, 22, 23, 7, 24, 25, 26, 27, 44, 45, 46, 47, 48, 49, 50] (by decide +kernel) (by decide +kernel)
set_option maxRecDepth 20000 in
theorem gX4_behind_X4_row : GoodIn wsX4_behind (wsV RX4 65 RX4 yX4_row wsX4_row) := goodIn_app (goodIn_of _ (by decide +kernel)) ggX4_behind_X4_row
set_option maxRecDepth 20000 in
theorem ggX4_behind_X4_behindRow : GoodIn wsX4_behind wsX4_behindRow := goodIn_r _ [31, 20, 21, 44, 45, 46, 47, 48, 49, 50] (by decide +kernel) (by decide +kernel)
set_option maxRecDepth 20000 in
theorem gX4_behind_X4_behindRow : GoodIn wsX4_behind (wsV RX4 73 RX4 yX4_behindRow wsX4_behindRow) := goodIn_app (goodIn_of _ (by decide +kernel)) ggX4_behind_X4_behindRow
set_option maxRecDepth 20000 in
theorem ggX4_behind_X4_rank : GoodIn wsX4_behind wsX4_rank := goodIn_r _ [35, 20, 36, 37, 38, 7, 39, 22, 23, 24, 44, 45, 46, 47, 48, 49, 50] (by decide +kernel) (by decide +kernel)
set_option maxRecDepth 20000 in
theorem gX4_behind_X4_rank : GoodIn wsX4_behind (wsV RX4 54 RX4 yX4_rank wsX4_rank) := goodIn_app (goodIn_of _ (by decide +kernel)) ggX4_behind_X4_rank
set_option maxRecDepth 20000 in
theorem ggX4_behind_X4_add : GoodIn wsX4_behind wsX4_add := goodIn_r _ [43, 3, 2, 44, 45, 46, 47, 48, 49, 50] (by decide +kernel) (by decide +kernel)
set_option maxRecDepth 20000 in
theorem gX4_behind_X4_add : GoodIn wsX4_behind (wsV RX4 58 RX4 yX4_add wsX4_add) := goodIn_app (goodIn_of _ (by decide +kernel)) ggX4_behind_X4_add
theorem dX4_behind_0 : decode cX4_behind 0 = .ok (.aload_n 0, 1) := by decide +kernel
theorem dX4_behind_1 : decode cX4_behind 1 = .ok (.iconst 0, 1) := by decide +kernel
theorem dX4_behind_2 : decode cX4_behind 2 = .ok (.putfield 20, 3) := by decide +kernel
theorem dX4_behind_5 : decode cX4_behind 5 = .ok (.aload_n 0, 1) := by decide +kernel
theorem dX4_behind_6 : decode cX4_behind 6 = .ok (.iload_n 1, 1) := by decide +kernel
theorem dX4_behind_7 : decode cX4_behind 7 = .ok (.invokevirtual 61, 3) := by decide +kernel
theorem dX4_behind_10 : decode cX4_behind 10 = .ok (.ifCond .eq 11, 3) := by decide +kernel
theorem dX4_behind_13 : decode cX4_behind 13 = .ok (.aload_n 0, 1) := by decide +kernel
theorem dX4_behind_14 : decode cX4_behind 14 = .ok (.iload_n 2, 1) := by decide +kernel
theorem dX4_behind_15 : decode cX4_behind 15 = .ok (.invokevirtual 61, 3) := by decide +kernel
theorem dX4_behind_18 : decode cX4_behind 18 = .ok (.ifCond .ne 9, 3) := by decide +kernel
theorem dX4_behind_21 : decode cX4_behind 21 = .ok (.aload_n 0, 1) := by decide +kernel
theorem dX4_behind_22 : decode cX4_behind 22 = .ok (.iconst 1, 1) := by decide +kernel
theorem dX4_behind_23 : decode cX4_behind 23 = .ok (.invokevirtual 51, 3) := by decide +kernel
theorem dX4_behind_26 : decode cX4_behind 26 = .ok (.ireturn, 1) := by decide +kernel
theorem dX4_behind_27 : decode cX4_behind 27 = .ok (.aload_n 0, 1) := by decide +kernel
theorem dX4_behind_28 : decode cX4_behind 28 = .ok (.getfield 23, 3) := by decide +kernel
theorem dX4_behind_31 : decode cX4_behind 31 = .ok (.bipush 16, 2) := by decide +kernel
theorem dX4_behind_33 : decode cX4_behind 33 = .ok (.if_icmp .ne 11, 3) := by decide +kernel
theorem dX4_behind_36 : decode cX4_behind 36 = .ok (.aload_n 0, 1) := by decide +kernel
theorem dX4_behind_37 : decode cX4_behind 37 = .ok (.iconst 2, 1) := by decide +kernel
theorem dX4_behind_38 : decode cX4_behind 38 = .ok (.invokevirtual 51, 3) := by decide +kernel
theorem dX4_behind_41 : decode cX4_behind 41 = .ok (.goto 35, 3) := by decide +kernel
theorem dX4_behind_44 : decode cX4_behind 44 = .ok (.aload_n 0, 1) := by decide +kernel
theorem dX4_behind_45 : decode cX4_behind 45 = .ok (.aload_n 0, 1) := by decide +kernel
theorem dX4_behind_46 : decode cX4_behind 46 = .ok (.aload_n 0, 1) := by decide +kernel
theorem dX4_behind_47 : decode cX4_behind 47 = .ok (.aload_n 0, 1) := by decide +kernel
theorem dX4_behind_48 : decode cX4_behind 48 = .ok (.aload_n 0, 1) := by decide +kernel
theorem dX4_behind_49 : decode cX4_behind 49 = .ok (.getfield 13, 3) := by decide +kernel
theorem dX4_behind_52 : decode cX4_behind 52 = .ok (.iload_n 1, 1) := by decide +kernel
theorem dX4_behind_53 : decode cX4_behind 53 = .ok (.iaload, 1) := by decide +kernel
theorem dX4_behind_54 : decode cX4_behind 54 = .ok (.invokevirtual 65, 3) := by decide +kernel
theorem dX4_behind_57 : decode cX4_behind 57 = .ok (.aload_n 0, 1) := by decide +kernel
theorem dX4_behind_58 : decode cX4_behind 58 = .ok (.aload_n 0, 1) := by decide +kernel
theorem dX4_behind_59 : decode cX4_behind 59 = .ok (.getfield 13, 3) := by decide +kernel
theorem dX4_behind_62 : decode cX4_behind 62 = .ok (.iload_n 2, 1) := by decide +kernel
theorem dX4_behind_63 : decode cX4_behind 63 = .ok (.iaload, 1) := by decide +kernel
theorem dX4_behind_64 : decode cX4_behind 64 = .ok (.invokevirtual 65, 3) := by decide +kernel
theorem dX4_behind_67 : decode cX4_behind 67 = .ok (.invokevirtual 73, 3) := by decide +kernel
theorem dX4_behind_70 : decode cX4_behind 70 = .ok (.invokevirtual 54, 3) := by decide +kernel
theorem dX4_behind_73 : decode cX4_behind 73 = .ok (.invokevirtual 58, 3) := by decide +kernel
theorem dX4_behind_76 : decode cX4_behind 76 = .ok (.ireturn, 1) := by decide +kernel
set_option maxRecDepth 20000 in
theorem ggX4_back_X4_isChange : GoodIn wsX4_back wsX4_isChange := goodIn_r _ [7, 8, 9, 10, 6, 11, 44, 45, 46, 47, 48, 49, 50] (by decide +kernel) (by decide +kernel)
set_option maxRecDepth 20000 in
theorem gX4_back_X4_isChange : GoodIn wsX4_back (wsV RX4 61 RX4 yX4_isChange wsX4_isChange) := goodIn_app (goodIn_of _ (by decide +kernel)) ggX4_back_X4_isChange
set_option maxRecDepth 20000 in
theorem ggX4_back_X4_row : GoodIn wsX4_back wsX4_row := goodIn_r _ [15, 16, 17, 18, 19, 6, 20, 21, 22, 23, 44, 45, 46, 47, 48, 49, 50] (by decide +kernel) (by decide +kernel)
set_option maxRecDepth 20000 in
theorem gX4_back_X4_row : GoodIn wsX4_back (wsV RX4 65 RX4 yX4_row wsX4_row) := goodIn_app (goodIn_of _ (by decide +kernel)) ggX4_back_X4_row
set_option maxRecDepth 20000 in
theorem ggX4_back_X4_backRow : GoodIn wsX4_back wsX4_backRow := goodIn_r _ [27, 16, 17, 44, 45, 46, 47, 48, 49, 50] (by decide +kernel) (by decide +kernel)
set_option maxRecDepth 20000 in
theorem gX4_back_X4_backRow : GoodIn wsX4_back (wsV RX4 77 RX4 yX4_backRow wsX4_backRow) := goodIn_app (goodIn_of _ (by decide +kernel)) ggX4_back_X4_backRow
set_option maxRecDepth 20000 in
theorem ggX4_back_X4_become : GoodIn wsX4_back wsX4_become := goodIn_r _ [31, 2, 32, 33, 34, 6, 35, 16, 36, 37, 38, 39, 18, 19, 20, 44, 45, 46, 47, 48, 49, 50] (by decide +kernel) (by decide +kernel)
set_option maxRecDepth 20000 in
theorem gX4_back_X4_become : GoodIn wsX4_back (wsV RX4 69 RX4 yX4_become wsX4_become) := goodIn_app (goodIn_of _ (by decide +kernel)) ggX4_back_X4_become
set_option maxRecDepth 20000 in
theorem ggX4_back_X4_no : GoodIn wsX4_back wsX4_no := goodIn_r _ [43, 1, 44, 45, 46, 47, 48, 49, 50] (by decide +kernel) (by decide +kernel)
set_option maxRecDepth 20000 in
theorem gX4_back_X4_no : GoodIn wsX4_back (wsV RX4 51 RX4 yX4_no wsX4_no) := goodIn_app (goodIn_of _ (by decide +kernel)) ggX4_back_X4_no
theorem dX4_back_0 : decode cX4_back 0 = .ok (.aload_n 0, 1) := by decide +kernel
theorem dX4_back_1 : decode cX4_back 1 = .ok (.iconst 0, 1) := by decide +kernel
theorem dX4_back_2 : decode cX4_back 2 = .ok (.putfield 20, 3) := by decide +kernel
theorem dX4_back_5 : decode cX4_back 5 = .ok (.aload_n 0, 1) := by decide +kernel
theorem dX4_back_6 : decode cX4_back 6 = .ok (.iload_n 1, 1) := by decide +kernel
theorem dX4_back_7 : decode cX4_back 7 = .ok (.invokevirtual 61, 3) := by decide +kernel
theorem dX4_back_10 : decode cX4_back 10 = .ok (.ifCond .eq 25, 3) := by decide +kernel
theorem dX4_back_13 : decode cX4_back 13 = .ok (.aload_n 0, 1) := by decide +kernel
theorem dX4_back_14 : decode cX4_back 14 = .ok (.iload_n 1, 1) := by decide +kernel
theorem dX4_back_15 : decode cX4_back 15 = .ok (.aload_n 0, 1) := by decide +kernel
theorem dX4_back_16 : decode cX4_back 16 = .ok (.aload_n 0, 1) := by decide +kernel
theorem dX4_back_17 : decode cX4_back 17 = .ok (.aload_n 0, 1) := by decide +kernel
theorem dX4_back_18 : decode cX4_back 18 = .ok (.getfield 13, 3) := by decide +kernel
theorem dX4_back_21 : decode cX4_back 21 = .ok (.iload_n 1, 1) := by decide +kernel
theorem dX4_back_22 : decode cX4_back 22 = .ok (.iaload, 1) := by decide +kernel
theorem dX4_back_23 : decode cX4_back 23 = .ok (.invokevirtual 65, 3) := by decide +kernel
theorem dX4_back_26 : decode cX4_back 26 = .ok (.invokevirtual 77, 3) := by decide +kernel
theorem dX4_back_29 : decode cX4_back 29 = .ok (.invokevirtual 69, 3) := by decide +kernel
theorem dX4_back_32 : decode cX4_back 32 = .ok (.goto 8, 3) := by decide +kernel
theorem dX4_back_35 : decode cX4_back 35 = .ok (.aload_n 0, 1) := by decide +kernel
theorem dX4_back_36 : decode cX4_back 36 = .ok (.iconst 1, 1) := by decide +kernel
theorem dX4_back_37 : decode cX4_back 37 = .ok (.invokevirtual 51, 3) := by decide +kernel
theorem dX4_back_40 : decode cX4_back 40 = .ok (.ireturn, 1) := by decide +kernel
set_option maxRecDepth 20000 in
theorem ggX4_repeat_X4_isChange : GoodIn wsX4_repeat wsX4_isChange := goodIn_r _ [7, 8, 9, 10, 6, 11, 55, 56, 57, 58, 59, 60, 61] (by decide +kernel) (by decide +kernel)
set_option maxRecDepth 20000 in
theorem gX4_repeat_X4_isChange : GoodIn wsX4_repeat (wsV RX4 61 RX4 yX4_isChange wsX4_isChange) := goodIn_app (goodIn_of _ (by decide +kernel)) ggX4_repeat_X4_isChange
set_option maxRecDepth 20000 in
theorem ggX4_repeat_X4_no : GoodIn wsX4_repeat wsX4_no := goodIn_r _ [15, 1, 55, 56, 57, 58, 59, 60, 61] (by decide +kernel) (by decide +kernel)
set_option maxRecDepth 20000 in
theorem gX4_repeat_X4_no : GoodIn wsX4_repeat (wsV RX4 51 RX4 yX4_no wsX4_no) := goodIn_app (goodIn_of _ (by decide +kernel)) ggX4_repeat_X4_no
set_option maxRecDepth 20000 in
theorem ggX4_repeat_X4_isIn : GoodIn wsX4_repeat wsX4_isIn := goodIn_r _ [11] (by decide +kernel) (by decide +kernel)
set_option maxRecDepth 20000 in
theorem gX4_repeat_X4_isIn : GoodIn wsX4_repeat (va_wsS RX4 26 yX4_isIn wsX4_isIn) := goodIn_app (goodIn_of _ (by decide +kernel)) ggX4_repeat_X4_isIn
set_option maxRecDepth 20000 in
theorem ggX4_repeat_X4_row : GoodIn wsX4_repeat wsX4_row := goodIn_r _ [19, 20, 21, 22, 23, 6, 24, 25, 26, 27, 55, 56, 57, 58, 59, 60, 61] (by decide +kernel) (by decide +kernel)
set_option maxRecDepth 20000 in
theorem gX4_repeat_X4_row : GoodIn wsX4_repeat (wsV RX4 65 RX4 yX4_row wsX4_row) := goodIn_app (goodIn_of _ (by decide +kernel)) ggX4_repeat_X4_row
set_option maxRecDepth 20000 in
theorem ggX4_repeat_X4_order : GoodIn wsX4_repeat wsX4_order := goodIn_r _ [31, 20, 32, 33, 34, 6, 35, 36, 37, 38, 55, 56, 57, 58, 59, 60, 61] (by decide +kernel) (by decide +kernel)
set_option maxRecDepth 20000 in
theorem gX4_repeat_X4_order : GoodIn wsX4_repeat (wsV RX4 81 RX4 yX4_order wsX4_order) := goodIn_app (goodIn_of _ (by decide +kernel)) ggX4_repeat_X4_order
set_option maxRecDepth 20000 in
theorem ggX4_repeat_X4_behindRow : GoodIn wsX4_repeat wsX4_behindRow := goodIn_r _ [42, 20, 21, 55, 56, 57, 58, 59, 60, 61] (by decide +kernel) (by decide +kernel)
set_option maxRecDepth 20000 in
theorem gX4_repeat_X4_behindRow : GoodIn wsX4_repeat (wsV RX4 73 RX4 yX4_behindRow wsX4_behindRow) := goodIn_app (goodIn_of _ (by decide +kernel)) ggX4_repeat_X4_behindRow
set_option maxRecDepth 20000 in
theorem ggX4_repeat_X4_become : GoodIn wsX4_repeat wsX4_become := goodIn_r _ [46, 2, 47, 48, 49, 6, 50, 20, 51, 52, 53, 54, 22, 23, 24, 55, 56, 57, 58, 59, 60, 61] (by decide +kernel) (by decide +kernel)
set_option maxRecDepth 20000 in
theorem gX4_repeat_X4_become : GoodIn wsX4_repeat (wsV RX4 69 RX4 yX4_become wsX4_become) := goodIn_app (goodIn_of _ (by decide +kernel)) ggX4_repeat_X4_become
theorem dX4_repeat_0 : decode cX4_repeat 0 = .ok (.aload_n 0, 1) := by decide +kernel
theorem dX4_repeat_1 : decode cX4_repeat 1 = .ok (.iconst 0, 1) := by decide +kernel
theorem dX4_repeat_2 : decode cX4_repeat 2 = .ok (.putfield 20, 3) := by decide +kernel
theorem dX4_repeat_5 : decode cX4_repeat 5 = .ok (.aload_n 0, 1) := by decide +kernel
theorem dX4_repeat_6 : decode cX4_repeat 6 = .ok (.iload_n 1, 1) := by decide +kernel
theorem dX4_repeat_7 : decode cX4_repeat 7 = .ok (.invokevirtual 61, 3) := by decide +kernel
theorem dX4_repeat_10 : decode cX4_repeat 10 = .ok (.ifCond .ne 9, 3) := by decide +kernel
theorem dX4_repeat_13 : decode cX4_repeat 13 = .ok (.aload_n 0, 1) := by decide +kernel
theorem dX4_repeat_14 : decode cX4_repeat 14 = .ok (.iconst 1, 1) := by decide +kernel
theorem dX4_repeat_15 : decode cX4_repeat 15 = .ok (.invokevirtual 51, 3) := by decide +kernel
theorem dX4_repeat_18 : decode cX4_repeat 18 = .ok (.ireturn, 1) := by decide +kernel
theorem dX4_repeat_19 : decode cX4_repeat 19 = .ok (.iload_n 2, 1) := by decide +kernel
theorem dX4_repeat_20 : decode cX4_repeat 20 = .ok (.iconst 0, 1) := by decide +kernel
theorem dX4_repeat_21 : decode cX4_repeat 21 = .ok (.sipush 9999, 3) := by decide +kernel
theorem dX4_repeat_24 : decode cX4_repeat 24 = .ok (.invokestatic 26, 3) := by decide +kernel
theorem dX4_repeat_27 : decode cX4_repeat 27 = .ok (.ifCond .ne 9, 3) := by decide +kernel
theorem dX4_repeat_30 : decode cX4_repeat 30 = .ok (.aload_n 0, 1) := by decide +kernel
theorem dX4_repeat_31 : decode cX4_repeat 31 = .ok (.iconst 2, 1) := by decide +kernel
theorem dX4_repeat_32 : decode cX4_repeat 32 = .ok (.invokevirtual 51, 3) := by decide +kernel
theorem dX4_repeat_35 : decode cX4_repeat 35 = .ok (.ireturn, 1) := by decide +kernel
theorem dX4_repeat_36 : decode cX4_repeat 36 = .ok (.aload_n 0, 1) := by decide +kernel
theorem dX4_repeat_37 : decode cX4_repeat 37 = .ok (.aload_n 0, 1) := by decide +kernel
theorem dX4_repeat_38 : decode cX4_repeat 38 = .ok (.getfield 13, 3) := by decide +kernel
theorem dX4_repeat_41 : decode cX4_repeat 41 = .ok (.iload_n 1, 1) := by decide +kernel
theorem dX4_repeat_42 : decode cX4_repeat 42 = .ok (.iaload, 1) := by decide +kernel
theorem dX4_repeat_43 : decode cX4_repeat 43 = .ok (.invokevirtual 65, 3) := by decide +kernel
theorem dX4_repeat_46 : decode cX4_repeat 46 = .ok (.astore_n 3, 1) := by decide +kernel
theorem dX4_repeat_47 : decode cX4_repeat 47 = .ok (.aload_n 0, 1) := by decide +kernel
theorem dX4_repeat_48 : decode cX4_repeat 48 = .ok (.iconst 0, 1) := by decide +kernel
theorem dX4_repeat_49 : decode cX4_repeat 49 = .ok (.invokevirtual 65, 3) := by decide +kernel
theorem dX4_repeat_52 : decode cX4_repeat 52 = .ok (.astore 4, 2) := by decide +kernel
theorem dX4_repeat_54 : decode cX4_repeat 54 = .ok (.iload_n 2, 1) := by decide +kernel
theorem dX4_repeat_55 : decode cX4_repeat 55 = .ok (.aload_n 0, 1) := by decide +kernel
theorem dX4_repeat_56 : decode cX4_repeat 56 = .ok (.aload_n 3, 1) := by decide +kernel
theorem dX4_repeat_57 : decode cX4_repeat 57 = .ok (.invokevirtual 81, 3) := by decide +kernel
theorem dX4_repeat_60 : decode cX4_repeat 60 = .ok (.irem, 1) := by decide +kernel
theorem dX4_repeat_61 : decode cX4_repeat 61 = .ok (.istore 5, 2) := by decide +kernel
theorem dX4_repeat_63 : decode cX4_repeat 63 = .ok (.iload 5, 2) := by decide +kernel
theorem dX4_repeat_65 : decode cX4_repeat 65 = .ok (.ifCond .le 18, 3) := by decide +kernel
theorem dX4_repeat_68 : decode cX4_repeat 68 = .ok (.aload_n 0, 1) := by decide +kernel
theorem dX4_repeat_69 : decode cX4_repeat 69 = .ok (.aload 4, 2) := by decide +kernel
theorem dX4_repeat_71 : decode cX4_repeat 71 = .ok (.aload_n 3, 1) := by decide +kernel
theorem dX4_repeat_72 : decode cX4_repeat 72 = .ok (.invokevirtual 73, 3) := by decide +kernel
theorem dX4_repeat_75 : decode cX4_repeat 75 = .ok (.astore 4, 2) := by decide +kernel
theorem dX4_repeat_77 : decode cX4_repeat 77 = .ok (.iinc 5 (-1), 3) := by decide +kernel
theorem dX4_repeat_80 : decode cX4_repeat 80 = .ok (.goto (-17), 3) := by decide +kernel
theorem dX4_repeat_83 : decode cX4_repeat 83 = .ok (.aload_n 0, 1) := by decide +kernel
theorem dX4_repeat_84 : decode cX4_repeat 84 = .ok (.iload_n 1, 1) := by decide +kernel
theorem dX4_repeat_85 : decode cX4_repeat 85 = .ok (.aload 4, 2) := by decide +kernel
theorem dX4_repeat_87 : decode cX4_repeat 87 = .ok (.invokevirtual 69, 3) := by decide +kernel
theorem dX4_repeat_90 : decode cX4_repeat 90 = .ok (.ireturn, 1) := by decide +kernel
set_option maxRecDepth 20000 in
theorem ggX4_step_X4_isStep : GoodIn wsX4_step wsX4_isStep := goodIn_r _ [8, 9, 10, 11, 7, 12, 17, 18, 19, 20, 21, 22, 23] (by decide +kernel) (by decide +kernel)
set_option maxRecDepth 20000 in
theorem gX4_step_X4_isStep : GoodIn wsX4_step (wsV RX4 84 RX4 yX4_isStep wsX4_isStep) := goodIn_app (goodIn_of _ (by decide +kernel)) ggX4_step_X4_isStep
set_option maxRecDepth 20000 in
theorem ggX4_step_X4_no : GoodIn wsX4_step wsX4_no := goodIn_r _ [16, 1, 17, 18, 19, 20, 21, 22, 23] (by decide +kernel) (by decide +kernel)
set_option maxRecDepth 20000 in
theorem gX4_step_X4_no : GoodIn wsX4_step (wsV RX4 51 RX4 yX4_no wsX4_no) := goodIn_app (goodIn_of _ (by decide +kernel)) ggX4_step_X4_no
theorem dX4_step_0 : decode cX4_step 0 = .ok (.aload_n 0, 1) := by decide +kernel
theorem dX4_step_1 : decode cX4_step 1 = .ok (.iconst 0, 1) := by decide +kernel
theorem dX4_step_2 : decode cX4_step 2 = .ok (.putfield 20, 3) := by decide +kernel
theorem dX4_step_5 : decode cX4_step 5 = .ok (.aload_n 0, 1) := by decide +kernel
theorem dX4_step_6 : decode cX4_step 6 = .ok (.iload_n 1, 1) := by decide +kernel
theorem dX4_step_7 : decode cX4_step 7 = .ok (.invokevirtual 84, 3) := by decide +kernel
theorem dX4_step_10 : decode cX4_step 10 = .ok (.ifCond .ne 9, 3) := by decide +kernel
theorem dX4_step_13 : decode cX4_step 13 = .ok (.aload_n 0, 1) := by decide +kernel
theorem dX4_step_14 : decode cX4_step 14 = .ok (.iconst 1, 1) := by decide +kernel
theorem dX4_step_15 : decode cX4_step 15 = .ok (.invokevirtual 51, 3) := by decide +kernel
theorem dX4_step_18 : decode cX4_step 18 = .ok (.ireturn, 1) := by decide +kernel
theorem dX4_step_19 : decode cX4_step 19 = .ok (.aload_n 0, 1) := by decide +kernel
theorem dX4_step_20 : decode cX4_step 20 = .ok (.getfield 48, 3) := by decide +kernel
theorem dX4_step_23 : decode cX4_step 23 = .ok (.bipush 10, 2) := by decide +kernel
theorem dX4_step_25 : decode cX4_step 25 = .ok (.if_icmp .ne 9, 3) := by decide +kernel
theorem dX4_step_28 : decode cX4_step 28 = .ok (.aload_n 0, 1) := by decide +kernel
theorem dX4_step_29 : decode cX4_step 29 = .ok (.iconst 2, 1) := by decide +kernel
theorem dX4_step_30 : decode cX4_step 30 = .ok (.invokevirtual 51, 3) := by decide +kernel
theorem dX4_step_33 : decode cX4_step 33 = .ok (.ireturn, 1) := by decide +kernel
theorem dX4_step_34 : decode cX4_step 34 = .ok (.aload_n 0, 1) := by decide +kernel
theorem dX4_step_35 : decode cX4_step 35 = .ok (.getfield 17, 3) := by decide +kernel
theorem dX4_step_38 : decode cX4_step 38 = .ok (.aload_n 0, 1) := by decide +kernel
theorem dX4_step_39 : decode cX4_step 39 = .ok (.getfield 48, 3) := by decide +kernel
theorem dX4_step_42 : decode cX4_step 42 = .ok (.iload_n 1, 1) := by decide +kernel
theorem dX4_step_43 : decode cX4_step 43 = .ok (.iastore, 1) := by decide +kernel
theorem dX4_step_44 : decode cX4_step 44 = .ok (.aload_n 0, 1) := by decide +kernel
theorem dX4_step_45 : decode cX4_step 45 = .ok (.dup, 1) := by decide +kernel
theorem dX4_step_46 : decode cX4_step 46 = .ok (.getfield 48, 3) := by decide +kernel
theorem dX4_step_49 : decode cX4_step 49 = .ok (.iconst 1, 1) := by decide +kernel
theorem dX4_step_50 : decode cX4_step 50 = .ok (.iadd, 1) := by decide +kernel
theorem dX4_step_51 : decode cX4_step 51 = .ok (.putfield 48, 3) := by decide +kernel
theorem dX4_step_54 : decode cX4_step 54 = .ok (.aload_n 0, 1) := by decide +kernel
theorem dX4_step_55 : decode cX4_step 55 = .ok (.getfield 48, 3) := by decide +kernel
theorem dX4_step_58 : decode cX4_step 58 = .ok (.ireturn, 1) := by decide +kernel
theorem dX4_clear_0 : decode cX4_clear 0 = .ok (.aload_n 0, 1) := by decide +kernel
theorem dX4_clear_1 : decode cX4_clear 1 = .ok (.iconst 0, 1) := by decide +kernel
theorem dX4_clear_2 : decode cX4_clear 2 = .ok (.putfield 20, 3) := by decide +kernel
theorem dX4_clear_5 : decode cX4_clear 5 = .ok (.aload_n 0, 1) := by decide +kernel
theorem dX4_clear_6 : decode cX4_clear 6 = .ok (.getfield 48, 3) := by decide +kernel
theorem dX4_clear_9 : decode cX4_clear 9 = .ok (.istore_n 1, 1) := by decide +kernel
theorem dX4_clear_10 : decode cX4_clear 10 = .ok (.aload_n 0, 1) := by decide +kernel
theorem dX4_clear_11 : decode cX4_clear 11 = .ok (.iconst 0, 1) := by decide +kernel
theorem dX4_clear_12 : decode cX4_clear 12 = .ok (.putfield 48, 3) := by decide +kernel
theorem dX4_clear_15 : decode cX4_clear 15 = .ok (.iload_n 1, 1) := by decide +kernel
theorem dX4_clear_16 : decode cX4_clear 16 = .ok (.ireturn, 1) := by decide +kernel
set_option maxRecDepth 20000 in
theorem ggX4_ring_X4_isChange : GoodIn wsX4_ring wsX4_isChange := goodIn_r _ [9, 10, 11, 12, 8, 13, 47, 48, 49, 50, 51, 52, 53] (by decide +kernel) (by decide +kernel)
set_option maxRecDepth 20000 in
theorem gX4_ring_X4_isChange : GoodIn wsX4_ring (wsV RX4 61 RX4 yX4_isChange wsX4_isChange) := goodIn_app (goodIn_of _ (by decide +kernel)) ggX4_ring_X4_isChange
set_option maxRecDepth 20000 in
theorem ggX4_ring_X4_no : GoodIn wsX4_ring wsX4_no := goodIn_r _ [17, 1, 47, 48, 49, 50, 51, 52, 53] (by decide +kernel) (by decide +kernel)
set_option maxRecDepth 20000 in
theorem gX4_ring_X4_no : GoodIn wsX4_ring (wsV RX4 51 RX4 yX4_no wsX4_no) := goodIn_app (goodIn_of _ (by decide +kernel)) ggX4_ring_X4_no
set_option maxRecDepth 20000 in
theorem ggX4_ring_X4_isIn : GoodIn wsX4_ring wsX4_isIn := goodIn_r _ [13] (by decide +kernel) (by decide +kernel)
set_option maxRecDepth 20000 in
theorem gX4_ring_X4_isIn : GoodIn wsX4_ring (va_wsS RX4 26 yX4_isIn wsX4_isIn) := goodIn_app (goodIn_of _ (by decide +kernel)) ggX4_ring_X4_isIn
set_option maxRecDepth 20000 in
theorem ggX4_ring_X4_row : GoodIn wsX4_ring wsX4_row := goodIn_r _ [21, 22, 23, 24, 25, 8, 26, 27, 28, 29, 47, 48, 49, 50, 51, 52, 53] (by decide +kernel) (by decide +kernel)
set_option maxRecDepth 20000 in
theorem gX4_ring_X4_row : GoodIn wsX4_ring (wsV RX4 65 RX4 yX4_row wsX4_row) := goodIn_app (goodIn_of _ (by decide +kernel)) ggX4_ring_X4_row
set_option maxRecDepth 20000 in
theorem ggX4_ring_X4_ringStep : GoodIn wsX4_ring wsX4_ringStep := goodIn_r _ [33, 34, 2, 22, 47, 48, 49, 50, 51, 52, 53] (by decide +kernel) (by decide +kernel)
set_option maxRecDepth 20000 in
theorem gX4_ring_X4_ringStep : GoodIn wsX4_ring (wsV RX4 87 RX4 yX4_ringStep wsX4_ringStep) := goodIn_app (goodIn_of _ (by decide +kernel)) ggX4_ring_X4_ringStep
set_option maxRecDepth 20000 in
theorem ggX4_ring_X4_become : GoodIn wsX4_ring wsX4_become := goodIn_r _ [38, 3, 39, 40, 41, 8, 42, 22, 43, 44, 45, 46, 24, 25, 26, 47, 48, 49, 50, 51, 52, 53] (by decide +kernel) (by decide +kernel)
set_option maxRecDepth 20000 in
theorem gX4_ring_X4_become : GoodIn wsX4_ring (wsV RX4 69 RX4 yX4_become wsX4_become) := goodIn_app (goodIn_of _ (by decide +kernel)) ggX4_ring_X4_become
theorem dX4_ring_0 : decode cX4_ring 0 = .ok (.aload_n 0, 1) := by decide +kernel
theorem dX4_ring_1 : decode cX4_ring 1 = .ok (.iconst 0, 1) := by decide +kernel
theorem dX4_ring_2 : decode cX4_ring 2 = .ok (.putfield 20, 3) := by decide +kernel
theorem dX4_ring_5 : decode cX4_ring 5 = .ok (.aload_n 0, 1) := by decide +kernel
theorem dX4_ring_6 : decode cX4_ring 6 = .ok (.iload_n 1, 1) := by decide +kernel
theorem dX4_ring_7 : decode cX4_ring 7 = .ok (.invokevirtual 61, 3) := by decide +kernel
theorem dX4_ring_10 : decode cX4_ring 10 = .ok (.ifCond .ne 9, 3) := by decide +kernel
theorem dX4_ring_13 : decode cX4_ring 13 = .ok (.aload_n 0, 1) := by decide +kernel
theorem dX4_ring_14 : decode cX4_ring 14 = .ok (.iconst 1, 1) := by decide +kernel
theorem dX4_ring_15 : decode cX4_ring 15 = .ok (.invokevirtual 51, 3) := by decide +kernel
theorem dX4_ring_18 : decode cX4_ring 18 = .ok (.ireturn, 1) := by decide +kernel
theorem dX4_ring_19 : decode cX4_ring 19 = .ok (.iload_n 2, 1) := by decide +kernel
theorem dX4_ring_20 : decode cX4_ring 20 = .ok (.iconst 1, 1) := by decide +kernel
theorem dX4_ring_21 : decode cX4_ring 21 = .ok (.sipush 200, 3) := by decide +kernel
theorem dX4_ring_24 : decode cX4_ring 24 = .ok (.invokestatic 26, 3) := by decide +kernel
theorem dX4_ring_27 : decode cX4_ring 27 = .ok (.ifCond .ne 9, 3) := by decide +kernel
theorem dX4_ring_30 : decode cX4_ring 30 = .ok (.aload_n 0, 1) := by decide +kernel
theorem dX4_ring_31 : decode cX4_ring 31 = .ok (.iconst 2, 1) := by decide +kernel
theorem dX4_ring_32 : decode cX4_ring 32 = .ok (.invokevirtual 51, 3) := by decide +kernel
theorem dX4_ring_35 : decode cX4_ring 35 = .ok (.ireturn, 1) := by decide +kernel
theorem dX4_ring_36 : decode cX4_ring 36 = .ok (.aload_n 0, 1) := by decide +kernel
theorem dX4_ring_37 : decode cX4_ring 37 = .ok (.getfield 48, 3) := by decide +kernel
theorem dX4_ring_40 : decode cX4_ring 40 = .ok (.ifCond .ne 10, 3) := by decide +kernel
theorem dX4_ring_43 : decode cX4_ring 43 = .ok (.aload_n 0, 1) := by decide +kernel
theorem dX4_ring_44 : decode cX4_ring 44 = .ok (.getfield 13, 3) := by decide +kernel
theorem dX4_ring_47 : decode cX4_ring 47 = .ok (.iload_n 1, 1) := by decide +kernel
theorem dX4_ring_48 : decode cX4_ring 48 = .ok (.iaload, 1) := by decide +kernel
theorem dX4_ring_49 : decode cX4_ring 49 = .ok (.ireturn, 1) := by decide +kernel
theorem dX4_ring_50 : decode cX4_ring 50 = .ok (.aload_n 0, 1) := by decide +kernel
theorem dX4_ring_51 : decode cX4_ring 51 = .ok (.aload_n 0, 1) := by decide +kernel
theorem dX4_ring_52 : decode cX4_ring 52 = .ok (.getfield 13, 3) := by decide +kernel
theorem dX4_ring_55 : decode cX4_ring 55 = .ok (.iload_n 1, 1) := by decide +kernel
theorem dX4_ring_56 : decode cX4_ring 56 = .ok (.iaload, 1) := by decide +kernel
theorem dX4_ring_57 : decode cX4_ring 57 = .ok (.invokevirtual 65, 3) := by decide +kernel
theorem dX4_ring_60 : decode cX4_ring 60 = .ok (.astore_n 3, 1) := by decide +kernel
theorem dX4_ring_61 : decode cX4_ring 61 = .ok (.iconst 0, 1) := by decide +kernel
theorem dX4_ring_62 : decode cX4_ring 62 = .ok (.istore 4, 2) := by decide +kernel
theorem dX4_ring_64 : decode cX4_ring 64 = .ok (.iload 4, 2) := by decide +kernel
theorem dX4_ring_66 : decode cX4_ring 66 = .ok (.iload_n 2, 1) := by decide +kernel
theorem dX4_ring_67 : decode cX4_ring 67 = .ok (.if_icmp .ge 16, 3) := by decide +kernel
theorem dX4_ring_70 : decode cX4_ring 70 = .ok (.aload_n 0, 1) := by decide +kernel
theorem dX4_ring_71 : decode cX4_ring 71 = .ok (.aload_n 3, 1) := by decide +kernel
theorem dX4_ring_72 : decode cX4_ring 72 = .ok (.iload 4, 2) := by decide +kernel
theorem dX4_ring_74 : decode cX4_ring 74 = .ok (.invokevirtual 87, 3) := by decide +kernel
theorem dX4_ring_77 : decode cX4_ring 77 = .ok (.iinc 4 1, 3) := by decide +kernel
theorem dX4_ring_80 : decode cX4_ring 80 = .ok (.goto (-16), 3) := by decide +kernel
theorem dX4_ring_83 : decode cX4_ring 83 = .ok (.aload_n 0, 1) := by decide +kernel
theorem dX4_ring_84 : decode cX4_ring 84 = .ok (.dup, 1) := by decide +kernel
theorem dX4_ring_85 : decode cX4_ring 85 = .ok (.getfield 91, 3) := by decide +kernel
theorem dX4_ring_88 : decode cX4_ring 88 = .ok (.iload_n 2, 1) := by decide +kernel
theorem dX4_ring_89 : decode cX4_ring 89 = .ok (.iadd, 1) := by decide +kernel
theorem dX4_ring_90 : decode cX4_ring 90 = .ok (.putfield 91, 3) := by decide +kernel
theorem dX4_ring_93 : decode cX4_ring 93 = .ok (.aload_n 0, 1) := by decide +kernel
theorem dX4_ring_94 : decode cX4_ring 94 = .ok (.iload_n 1, 1) := by decide +kernel
theorem dX4_ring_95 : decode cX4_ring 95 = .ok (.aload_n 3, 1) := by decide +kernel
theorem dX4_ring_96 : decode cX4_ring 96 = .ok (.invokevirtual 69, 3) := by decide +kernel
theorem dX4_ring_99 : decode cX4_ring 99 = .ok (.ireturn, 1) := by decide +kernel
set_option maxRecDepth 20000 in
theorem ggX4_bell_X4_isChange : GoodIn wsX4_bell wsX4_isChange := goodIn_r _ [7, 8, 9, 10, 6, 11, 32, 33, 34, 35, 36, 37, 38] (by decide +kernel) (by decide +kernel)
set_option maxRecDepth 20000 in
theorem gX4_bell_X4_isChange : GoodIn wsX4_bell (wsV RX4 61 RX4 yX4_isChange wsX4_isChange) := goodIn_app (goodIn_of _ (by decide +kernel)) ggX4_bell_X4_isChange
set_option maxRecDepth 20000 in
theorem ggX4_bell_X4_isPlace : GoodIn wsX4_bell wsX4_isPlace := goodIn_r _ [15, 16, 9, 10, 6, 11, 32, 33, 34, 35, 36, 37, 38] (by decide +kernel) (by decide +kernel)
set_option maxRecDepth 20000 in
theorem gX4_bell_X4_isPlace : GoodIn wsX4_bell (wsV RX4 94 RX4 yX4_isPlace wsX4_isPlace) := goodIn_app (goodIn_of _ (by decide +kernel)) ggX4_bell_X4_isPlace
set_option maxRecDepth 20000 in
theorem ggX4_bell_X4_row : GoodIn wsX4_bell wsX4_row := goodIn_r _ [20, 16, 21, 22, 23, 6, 24, 25, 26, 27, 32, 33, 34, 35, 36, 37, 38] (by decide +kernel) (by decide +kernel)
set_option maxRecDepth 20000 in
theorem gX4_bell_X4_row : GoodIn wsX4_bell (wsV RX4 65 RX4 yX4_row wsX4_row) := goodIn_app (goodIn_of _ (by decide +kernel)) ggX4_bell_X4_row
set_option maxRecDepth 20000 in
theorem ggX4_bell_X4_no : GoodIn wsX4_bell wsX4_no := goodIn_r _ [31, 1, 32, 33, 34, 35, 36, 37, 38] (by decide +kernel) (by decide +kernel)
set_option maxRecDepth 20000 in
theorem gX4_bell_X4_no : GoodIn wsX4_bell (wsV RX4 51 RX4 yX4_no wsX4_no) := goodIn_app (goodIn_of _ (by decide +kernel)) ggX4_bell_X4_no
theorem dX4_bell_0 : decode cX4_bell 0 = .ok (.aload_n 0, 1) := by decide +kernel
theorem dX4_bell_1 : decode cX4_bell 1 = .ok (.iconst 0, 1) := by decide +kernel
theorem dX4_bell_2 : decode cX4_bell 2 = .ok (.putfield 20, 3) := by decide +kernel
theorem dX4_bell_5 : decode cX4_bell 5 = .ok (.aload_n 0, 1) := by decide +kernel
theorem dX4_bell_6 : decode cX4_bell 6 = .ok (.iload_n 1, 1) := by decide +kernel
theorem dX4_bell_7 : decode cX4_bell 7 = .ok (.invokevirtual 61, 3) := by decide +kernel
theorem dX4_bell_10 : decode cX4_bell 10 = .ok (.ifCond .eq 26, 3) := by decide +kernel
theorem dX4_bell_13 : decode cX4_bell 13 = .ok (.aload_n 0, 1) := by decide +kernel
theorem dX4_bell_14 : decode cX4_bell 14 = .ok (.iload_n 2, 1) := by decide +kernel
theorem dX4_bell_15 : decode cX4_bell 15 = .ok (.invokevirtual 94, 3) := by decide +kernel
theorem dX4_bell_18 : decode cX4_bell 18 = .ok (.ifCond .eq 18, 3) := by decide +kernel
theorem dX4_bell_21 : decode cX4_bell 21 = .ok (.aload_n 0, 1) := by decide +kernel
theorem dX4_bell_22 : decode cX4_bell 22 = .ok (.aload_n 0, 1) := by decide +kernel
theorem dX4_bell_23 : decode cX4_bell 23 = .ok (.getfield 13, 3) := by decide +kernel
theorem dX4_bell_26 : decode cX4_bell 26 = .ok (.iload_n 1, 1) := by decide +kernel
theorem dX4_bell_27 : decode cX4_bell 27 = .ok (.iaload, 1) := by decide +kernel
theorem dX4_bell_28 : decode cX4_bell 28 = .ok (.invokevirtual 65, 3) := by decide +kernel
theorem dX4_bell_31 : decode cX4_bell 31 = .ok (.iload_n 2, 1) := by decide +kernel
theorem dX4_bell_32 : decode cX4_bell 32 = .ok (.iaload, 1) := by decide +kernel
theorem dX4_bell_33 : decode cX4_bell 33 = .ok (.goto 8, 3) := by decide +kernel
theorem dX4_bell_36 : decode cX4_bell 36 = .ok (.aload_n 0, 1) := by decide +kernel
theorem dX4_bell_37 : decode cX4_bell 37 = .ok (.iconst 1, 1) := by decide +kernel
theorem dX4_bell_38 : decode cX4_bell 38 = .ok (.invokevirtual 51, 3) := by decide +kernel
theorem dX4_bell_41 : decode cX4_bell 41 = .ok (.ireturn, 1) := by decide +kernel
set_option maxRecDepth 20000 in
theorem ggX4_toldOf_X4_rank : GoodIn wsX4_toldOf wsX4_rank := goodIn_r _ [10, 1, 11, 12, 13, 9, 14, 15, 16, 17, 42, 43, 44, 45, 46, 47, 48] (by decide +kernel) (by decide +kernel)
set_option maxRecDepth 20000 in
theorem gX4_toldOf_X4_rank : GoodIn wsX4_toldOf (wsV RX4 54 RX4 yX4_rank wsX4_rank) := goodIn_app (goodIn_of _ (by decide +kernel)) ggX4_toldOf_X4_rank
set_option maxRecDepth 20000 in
theorem ggX4_toldOf_X4_inversions : GoodIn wsX4_toldOf wsX4_inversions := goodIn_r _ [21, 1, 11, 12, 13, 9, 14, 42, 43, 44, 45, 46, 47, 48] (by decide +kernel) (by decide +kernel)
set_option maxRecDepth 20000 in
theorem gX4_toldOf_X4_inversions : GoodIn wsX4_toldOf (wsV RX4 97 RX4 yX4_inversions wsX4_inversions) := goodIn_app (goodIn_of _ (by decide +kernel)) ggX4_toldOf_X4_inversions
set_option maxRecDepth 20000 in
theorem ggX4_toldOf_X4_isFirst : GoodIn wsX4_toldOf wsX4_isFirst := goodIn_r _ [25] (by decide +kernel) (by decide +kernel)
set_option maxRecDepth 20000 in
theorem gX4_toldOf_X4_isFirst : GoodIn wsX4_toldOf (wsV RX4 100 RX4 yX4_isFirst wsX4_isFirst) := goodIn_app (goodIn_of _ (by decide +kernel)) ggX4_toldOf_X4_isFirst
set_option maxRecDepth 20000 in
theorem ggX4_toldOf_X4_ringOf : GoodIn wsX4_toldOf wsX4_ringOf := goodIn_r _ [29] (by decide +kernel) (by decide +kernel)
set_option maxRecDepth 20000 in
theorem gX4_toldOf_X4_ringOf : GoodIn wsX4_toldOf (wsV RX4 45 RX4 yX4_ringOf wsX4_ringOf) := goodIn_app (goodIn_of _ (by decide +kernel)) ggX4_toldOf_X4_ringOf
set_option maxRecDepth 20000 in
theorem ggX4_toldOf_X4_order : GoodIn wsX4_toldOf wsX4_order := goodIn_r _ [33, 1, 26, 27, 28, 9, 29, 34, 35, 36, 42, 43, 44, 45, 46, 47, 48] (by decide +kernel) (by decide +kernel)
set_option maxRecDepth 20000 in
theorem gX4_toldOf_X4_order : GoodIn wsX4_toldOf (wsV RX4 81 RX4 yX4_order wsX4_order) := goodIn_app (goodIn_of _ (by decide +kernel)) ggX4_toldOf_X4_order
set_option maxRecDepth 20000 in
theorem ggX4_toldOf_X4_backRow : GoodIn wsX4_toldOf wsX4_backRow := goodIn_r _ [40, 1, 41, 42, 43, 44, 45, 46, 47, 48] (by decide +kernel) (by decide +kernel)
set_option maxRecDepth 20000 in
theorem gX4_toldOf_X4_backRow : GoodIn wsX4_toldOf (wsV RX4 77 RX4 yX4_backRow wsX4_backRow) := goodIn_app (goodIn_of _ (by decide +kernel)) ggX4_toldOf_X4_backRow
theorem dX4_toldOf_0 : decode cX4_toldOf 0 = .ok (.iconst 0, 1) := by decide +kernel
theorem dX4_toldOf_1 : decode cX4_toldOf 1 = .ok (.istore_n 3, 1) := by decide +kernel
theorem dX4_toldOf_2 : decode cX4_toldOf 2 = .ok (.iload_n 2, 1) := by decide +kernel
theorem dX4_toldOf_3 : decode cX4_toldOf 3 = .ok (.tableswitch 174 0 6 #[41, 47, 53, 61, 99, 131, 137], 41) := by decide +kernel
theorem dX4_toldOf_44 : decode cX4_toldOf 44 = .ok (.aload_n 0, 1) := by decide +kernel
theorem dX4_toldOf_45 : decode cX4_toldOf 45 = .ok (.aload_n 1, 1) := by decide +kernel
theorem dX4_toldOf_46 : decode cX4_toldOf 46 = .ok (.invokevirtual 54, 3) := by decide +kernel
theorem dX4_toldOf_49 : decode cX4_toldOf 49 = .ok (.ireturn, 1) := by decide +kernel
theorem dX4_toldOf_50 : decode cX4_toldOf 50 = .ok (.aload_n 0, 1) := by decide +kernel
theorem dX4_toldOf_51 : decode cX4_toldOf 51 = .ok (.aload_n 1, 1) := by decide +kernel
theorem dX4_toldOf_52 : decode cX4_toldOf 52 = .ok (.invokevirtual 97, 3) := by decide +kernel
theorem dX4_toldOf_55 : decode cX4_toldOf 55 = .ok (.ireturn, 1) := by decide +kernel
theorem dX4_toldOf_56 : decode cX4_toldOf 56 = .ok (.aload_n 0, 1) := by decide +kernel
theorem dX4_toldOf_57 : decode cX4_toldOf 57 = .ok (.aload_n 1, 1) := by decide +kernel
theorem dX4_toldOf_58 : decode cX4_toldOf 58 = .ok (.invokevirtual 97, 3) := by decide +kernel
theorem dX4_toldOf_61 : decode cX4_toldOf 61 = .ok (.iconst 2, 1) := by decide +kernel
theorem dX4_toldOf_62 : decode cX4_toldOf 62 = .ok (.irem, 1) := by decide +kernel
theorem dX4_toldOf_63 : decode cX4_toldOf 63 = .ok (.ireturn, 1) := by decide +kernel
theorem dX4_toldOf_64 : decode cX4_toldOf 64 = .ok (.iconst 0, 1) := by decide +kernel
theorem dX4_toldOf_65 : decode cX4_toldOf 65 = .ok (.istore 4, 2) := by decide +kernel
theorem dX4_toldOf_67 : decode cX4_toldOf 67 = .ok (.iload 4, 2) := by decide +kernel
theorem dX4_toldOf_69 : decode cX4_toldOf 69 = .ok (.aload_n 0, 1) := by decide +kernel
theorem dX4_toldOf_70 : decode cX4_toldOf 70 = .ok (.getfield 7, 3) := by decide +kernel
theorem dX4_toldOf_73 : decode cX4_toldOf 73 = .ok (.if_icmp .ge 27, 3) := by decide +kernel
theorem dX4_toldOf_76 : decode cX4_toldOf 76 = .ok (.iload_n 3, 1) := by decide +kernel
theorem dX4_toldOf_77 : decode cX4_toldOf 77 = .ok (.aload_n 0, 1) := by decide +kernel
theorem dX4_toldOf_78 : decode cX4_toldOf 78 = .ok (.aload_n 1, 1) := by decide +kernel
theorem dX4_toldOf_79 : decode cX4_toldOf 79 = .ok (.iload 4, 2) := by decide +kernel
theorem dX4_toldOf_81 : decode cX4_toldOf 81 = .ok (.invokevirtual 100, 3) := by decide +kernel
theorem dX4_toldOf_84 : decode cX4_toldOf 84 = .ok (.ifCond .eq 7, 3) := by decide +kernel
theorem dX4_toldOf_87 : decode cX4_toldOf 87 = .ok (.iconst 1, 1) := by decide +kernel
theorem dX4_toldOf_88 : decode cX4_toldOf 88 = .ok (.goto 4, 3) := by decide +kernel
theorem dX4_toldOf_91 : decode cX4_toldOf 91 = .ok (.iconst 0, 1) := by decide +kernel
theorem dX4_toldOf_92 : decode cX4_toldOf 92 = .ok (.iadd, 1) := by decide +kernel
theorem dX4_toldOf_93 : decode cX4_toldOf 93 = .ok (.istore_n 3, 1) := by decide +kernel
theorem dX4_toldOf_94 : decode cX4_toldOf 94 = .ok (.iinc 4 1, 3) := by decide +kernel
theorem dX4_toldOf_97 : decode cX4_toldOf 97 = .ok (.goto (-30), 3) := by decide +kernel
theorem dX4_toldOf_100 : decode cX4_toldOf 100 = .ok (.iload_n 3, 1) := by decide +kernel
theorem dX4_toldOf_101 : decode cX4_toldOf 101 = .ok (.ireturn, 1) := by decide +kernel
theorem dX4_toldOf_102 : decode cX4_toldOf 102 = .ok (.iconst 0, 1) := by decide +kernel
theorem dX4_toldOf_103 : decode cX4_toldOf 103 = .ok (.istore 4, 2) := by decide +kernel
theorem dX4_toldOf_105 : decode cX4_toldOf 105 = .ok (.iload 4, 2) := by decide +kernel
theorem dX4_toldOf_107 : decode cX4_toldOf 107 = .ok (.aload_n 0, 1) := by decide +kernel
theorem dX4_toldOf_108 : decode cX4_toldOf 108 = .ok (.getfield 7, 3) := by decide +kernel
theorem dX4_toldOf_111 : decode cX4_toldOf 111 = .ok (.if_icmp .ge 21, 3) := by decide +kernel
theorem dX4_toldOf_114 : decode cX4_toldOf 114 = .ok (.iload_n 3, 1) := by decide +kernel
theorem dX4_toldOf_115 : decode cX4_toldOf 115 = .ok (.aload_n 0, 1) := by decide +kernel
theorem dX4_toldOf_116 : decode cX4_toldOf 116 = .ok (.aload_n 1, 1) := by decide +kernel
theorem dX4_toldOf_117 : decode cX4_toldOf 117 = .ok (.iload 4, 2) := by decide +kernel
theorem dX4_toldOf_119 : decode cX4_toldOf 119 = .ok (.invokevirtual 45, 3) := by decide +kernel
theorem dX4_toldOf_122 : decode cX4_toldOf 122 = .ok (.invokestatic 104, 3) := by decide +kernel
theorem dX4_toldOf_125 : decode cX4_toldOf 125 = .ok (.istore_n 3, 1) := by decide +kernel
theorem dX4_toldOf_126 : decode cX4_toldOf 126 = .ok (.iinc 4 1, 3) := by decide +kernel
theorem dX4_toldOf_129 : decode cX4_toldOf 129 = .ok (.goto (-24), 3) := by decide +kernel
theorem dX4_toldOf_132 : decode cX4_toldOf 132 = .ok (.iload_n 3, 1) := by decide +kernel
theorem dX4_toldOf_133 : decode cX4_toldOf 133 = .ok (.ireturn, 1) := by decide +kernel
theorem dX4_toldOf_134 : decode cX4_toldOf 134 = .ok (.aload_n 0, 1) := by decide +kernel
theorem dX4_toldOf_135 : decode cX4_toldOf 135 = .ok (.aload_n 1, 1) := by decide +kernel
theorem dX4_toldOf_136 : decode cX4_toldOf 136 = .ok (.invokevirtual 81, 3) := by decide +kernel
theorem dX4_toldOf_139 : decode cX4_toldOf 139 = .ok (.ireturn, 1) := by decide +kernel
theorem dX4_toldOf_140 : decode cX4_toldOf 140 = .ok (.iconst 0, 1) := by decide +kernel
theorem dX4_toldOf_141 : decode cX4_toldOf 141 = .ok (.istore 4, 2) := by decide +kernel
theorem dX4_toldOf_143 : decode cX4_toldOf 143 = .ok (.iload 4, 2) := by decide +kernel
theorem dX4_toldOf_145 : decode cX4_toldOf 145 = .ok (.aload_n 0, 1) := by decide +kernel
theorem dX4_toldOf_146 : decode cX4_toldOf 146 = .ok (.getfield 7, 3) := by decide +kernel
theorem dX4_toldOf_149 : decode cX4_toldOf 149 = .ok (.if_icmp .ge 26, 3) := by decide +kernel
theorem dX4_toldOf_152 : decode cX4_toldOf 152 = .ok (.iload_n 3, 1) := by decide +kernel
theorem dX4_toldOf_153 : decode cX4_toldOf 153 = .ok (.aload_n 1, 1) := by decide +kernel
theorem dX4_toldOf_154 : decode cX4_toldOf 154 = .ok (.iload 4, 2) := by decide +kernel
theorem dX4_toldOf_156 : decode cX4_toldOf 156 = .ok (.iaload, 1) := by decide +kernel
theorem dX4_toldOf_157 : decode cX4_toldOf 157 = .ok (.iload 4, 2) := by decide +kernel
theorem dX4_toldOf_159 : decode cX4_toldOf 159 = .ok (.if_icmp .ne 7, 3) := by decide +kernel
theorem dX4_toldOf_162 : decode cX4_toldOf 162 = .ok (.iconst 1, 1) := by decide +kernel
theorem dX4_toldOf_163 : decode cX4_toldOf 163 = .ok (.goto 4, 3) := by decide +kernel
theorem dX4_toldOf_166 : decode cX4_toldOf 166 = .ok (.iconst 0, 1) := by decide +kernel
theorem dX4_toldOf_167 : decode cX4_toldOf 167 = .ok (.iadd, 1) := by decide +kernel
theorem dX4_toldOf_168 : decode cX4_toldOf 168 = .ok (.istore_n 3, 1) := by decide +kernel
theorem dX4_toldOf_169 : decode cX4_toldOf 169 = .ok (.iinc 4 1, 3) := by decide +kernel
theorem dX4_toldOf_172 : decode cX4_toldOf 172 = .ok (.goto (-29), 3) := by decide +kernel
theorem dX4_toldOf_175 : decode cX4_toldOf 175 = .ok (.iload_n 3, 1) := by decide +kernel
theorem dX4_toldOf_176 : decode cX4_toldOf 176 = .ok (.ireturn, 1) := by decide +kernel
theorem dX4_toldOf_177 : decode cX4_toldOf 177 = .ok (.aload_n 0, 1) := by decide +kernel
theorem dX4_toldOf_178 : decode cX4_toldOf 178 = .ok (.aload_n 1, 1) := by decide +kernel
theorem dX4_toldOf_179 : decode cX4_toldOf 179 = .ok (.invokevirtual 77, 3) := by decide +kernel
theorem dX4_toldOf_182 : decode cX4_toldOf 182 = .ok (.iconst 0, 1) := by decide +kernel
theorem dX4_toldOf_183 : decode cX4_toldOf 183 = .ok (.iaload, 1) := by decide +kernel
theorem dX4_toldOf_184 : decode cX4_toldOf 184 = .ok (.ireturn, 1) := by decide +kernel
set_option maxRecDepth 20000 in
theorem ggX4_told_X4_isChange : GoodIn wsX4_told wsX4_isChange := goodIn_r _ [7, 8, 9, 10, 6, 11, 67, 68, 69, 70, 71, 72, 73] (by decide +kernel) (by decide +kernel)
set_option maxRecDepth 20000 in
theorem gX4_told_X4_isChange : GoodIn wsX4_told (wsV RX4 61 RX4 yX4_isChange wsX4_isChange) := goodIn_app (goodIn_of _ (by decide +kernel)) ggX4_told_X4_isChange
set_option maxRecDepth 20000 in
theorem ggX4_told_X4_isIn : GoodIn wsX4_told wsX4_isIn := goodIn_r _ [11] (by decide +kernel) (by decide +kernel)
set_option maxRecDepth 20000 in
theorem gX4_told_X4_isIn : GoodIn wsX4_told (va_wsS RX4 26 yX4_isIn wsX4_isIn) := goodIn_app (goodIn_of _ (by decide +kernel)) ggX4_told_X4_isIn
set_option maxRecDepth 20000 in
theorem ggX4_told_X4_row : GoodIn wsX4_told wsX4_row := goodIn_r _ [15, 16, 17, 18, 19, 6, 20, 21, 22, 23, 67, 68, 69, 70, 71, 72, 73] (by decide +kernel) (by decide +kernel)
set_option maxRecDepth 20000 in
theorem gX4_told_X4_row : GoodIn wsX4_told (wsV RX4 65 RX4 yX4_row wsX4_row) := goodIn_app (goodIn_of _ (by decide +kernel)) ggX4_told_X4_row
set_option maxRecDepth 20000 in
theorem ggX4_told_X4_toldOf : GoodIn wsX4_told wsX4_toldOf := goodIn_r _ [27, 16, 28, 29, 30, 31, 32, 33, 34, 6, 35, 36, 37, 38, 39, 18, 19, 20, 40, 41, 42, 43, 44, 45, 46, 47, 48, 49, 50, 51, 52, 53, 54, 55, 56, 57, 58, 59, 60, 61, 62, 17, 67, 68, 69, 70, 71, 72, 73] (by decide +kernel) (by decide +kernel)
set_option maxRecDepth 20000 in
theorem gX4_told_X4_toldOf : GoodIn wsX4_told (wsV RX4 109 RX4 yX4_toldOf wsX4_toldOf) := goodIn_app (goodIn_of _ (by decide +kernel)) ggX4_told_X4_toldOf
set_option maxRecDepth 20000 in
theorem ggX4_told_X4_no : GoodIn wsX4_told wsX4_no := goodIn_r _ [66, 1, 67, 68, 69, 70, 71, 72, 73] (by decide +kernel) (by decide +kernel)
set_option maxRecDepth 20000 in
theorem gX4_told_X4_no : GoodIn wsX4_told (wsV RX4 51 RX4 yX4_no wsX4_no) := goodIn_app (goodIn_of _ (by decide +kernel)) ggX4_told_X4_no
theorem dX4_told_0 : decode cX4_told 0 = .ok (.aload_n 0, 1) := by decide +kernel
theorem dX4_told_1 : decode cX4_told 1 = .ok (.iconst 0, 1) := by decide +kernel
theorem dX4_told_2 : decode cX4_told 2 = .ok (.putfield 20, 3) := by decide +kernel
theorem dX4_told_5 : decode cX4_told 5 = .ok (.aload_n 0, 1) := by decide +kernel
theorem dX4_told_6 : decode cX4_told 6 = .ok (.iload_n 1, 1) := by decide +kernel
theorem dX4_told_7 : decode cX4_told 7 = .ok (.invokevirtual 61, 3) := by decide +kernel
theorem dX4_told_10 : decode cX4_told 10 = .ok (.ifCond .eq 31, 3) := by decide +kernel
theorem dX4_told_13 : decode cX4_told 13 = .ok (.iload_n 2, 1) := by decide +kernel
theorem dX4_told_14 : decode cX4_told 14 = .ok (.iconst 0, 1) := by decide +kernel
theorem dX4_told_15 : decode cX4_told 15 = .ok (.bipush 7, 2) := by decide +kernel
theorem dX4_told_17 : decode cX4_told 17 = .ok (.invokestatic 26, 3) := by decide +kernel
theorem dX4_told_20 : decode cX4_told 20 = .ok (.ifCond .eq 21, 3) := by decide +kernel
theorem dX4_told_23 : decode cX4_told 23 = .ok (.aload_n 0, 1) := by decide +kernel
theorem dX4_told_24 : decode cX4_told 24 = .ok (.aload_n 0, 1) := by decide +kernel
theorem dX4_told_25 : decode cX4_told 25 = .ok (.aload_n 0, 1) := by decide +kernel
theorem dX4_told_26 : decode cX4_told 26 = .ok (.getfield 13, 3) := by decide +kernel
theorem dX4_told_29 : decode cX4_told 29 = .ok (.iload_n 1, 1) := by decide +kernel
theorem dX4_told_30 : decode cX4_told 30 = .ok (.iaload, 1) := by decide +kernel
theorem dX4_told_31 : decode cX4_told 31 = .ok (.invokevirtual 65, 3) := by decide +kernel
theorem dX4_told_34 : decode cX4_told 34 = .ok (.iload_n 2, 1) := by decide +kernel
theorem dX4_told_35 : decode cX4_told 35 = .ok (.invokevirtual 109, 3) := by decide +kernel
theorem dX4_told_38 : decode cX4_told 38 = .ok (.goto 8, 3) := by decide +kernel
theorem dX4_told_41 : decode cX4_told 41 = .ok (.aload_n 0, 1) := by decide +kernel
theorem dX4_told_42 : decode cX4_told 42 = .ok (.iconst 1, 1) := by decide +kernel
theorem dX4_told_43 : decode cX4_told 43 = .ok (.invokevirtual 51, 3) := by decide +kernel
theorem dX4_told_46 : decode cX4_told 46 = .ok (.ireturn, 1) := by decide +kernel
set_option maxRecDepth 20000 in
theorem ggX4_round_X4_isChange : GoodIn wsX4_round wsX4_isChange := goodIn_r _ [7, 8, 9, 10, 6, 11, 36, 37, 38, 39, 40, 41, 42] (by decide +kernel) (by decide +kernel)
set_option maxRecDepth 20000 in
theorem gX4_round_X4_isChange : GoodIn wsX4_round (wsV RX4 61 RX4 yX4_isChange wsX4_isChange) := goodIn_app (goodIn_of _ (by decide +kernel)) ggX4_round_X4_isChange
set_option maxRecDepth 20000 in
theorem ggX4_round_X4_isPlace : GoodIn wsX4_round wsX4_isPlace := goodIn_r _ [15, 16, 9, 10, 6, 11, 36, 37, 38, 39, 40, 41, 42] (by decide +kernel) (by decide +kernel)
set_option maxRecDepth 20000 in
theorem gX4_round_X4_isPlace : GoodIn wsX4_round (wsV RX4 94 RX4 yX4_isPlace wsX4_isPlace) := goodIn_app (goodIn_of _ (by decide +kernel)) ggX4_round_X4_isPlace
set_option maxRecDepth 20000 in
theorem ggX4_round_X4_row : GoodIn wsX4_round wsX4_row := goodIn_r _ [20, 16, 21, 22, 23, 6, 24, 25, 26, 27, 36, 37, 38, 39, 40, 41, 42] (by decide +kernel) (by decide +kernel)
set_option maxRecDepth 20000 in
theorem gX4_round_X4_row : GoodIn wsX4_round (wsV RX4 65 RX4 yX4_row wsX4_row) := goodIn_app (goodIn_of _ (by decide +kernel)) ggX4_round_X4_row
set_option maxRecDepth 20000 in
theorem ggX4_round_X4_ringOf : GoodIn wsX4_round wsX4_ringOf := goodIn_r _ [31] (by decide +kernel) (by decide +kernel)
set_option maxRecDepth 20000 in
theorem gX4_round_X4_ringOf : GoodIn wsX4_round (wsV RX4 45 RX4 yX4_ringOf wsX4_ringOf) := goodIn_app (goodIn_of _ (by decide +kernel)) ggX4_round_X4_ringOf
set_option maxRecDepth 20000 in
theorem ggX4_round_X4_no : GoodIn wsX4_round wsX4_no := goodIn_r _ [35, 1, 36, 37, 38, 39, 40, 41, 42] (by decide +kernel) (by decide +kernel)
set_option maxRecDepth 20000 in
theorem gX4_round_X4_no : GoodIn wsX4_round (wsV RX4 51 RX4 yX4_no wsX4_no) := goodIn_app (goodIn_of _ (by decide +kernel)) ggX4_round_X4_no
theorem dX4_round_0 : decode cX4_round 0 = .ok (.aload_n 0, 1) := by decide +kernel
theorem dX4_round_1 : decode cX4_round 1 = .ok (.iconst 0, 1) := by decide +kernel
theorem dX4_round_2 : decode cX4_round 2 = .ok (.putfield 20, 3) := by decide +kernel
theorem dX4_round_5 : decode cX4_round 5 = .ok (.aload_n 0, 1) := by decide +kernel
theorem dX4_round_6 : decode cX4_round 6 = .ok (.iload_n 1, 1) := by decide +kernel
theorem dX4_round_7 : decode cX4_round 7 = .ok (.invokevirtual 61, 3) := by decide +kernel
theorem dX4_round_10 : decode cX4_round 10 = .ok (.ifCond .eq 29, 3) := by decide +kernel
theorem dX4_round_13 : decode cX4_round 13 = .ok (.aload_n 0, 1) := by decide +kernel
theorem dX4_round_14 : decode cX4_round 14 = .ok (.iload_n 2, 1) := by decide +kernel
theorem dX4_round_15 : decode cX4_round 15 = .ok (.invokevirtual 94, 3) := by decide +kernel
theorem dX4_round_18 : decode cX4_round 18 = .ok (.ifCond .eq 21, 3) := by decide +kernel
theorem dX4_round_21 : decode cX4_round 21 = .ok (.aload_n 0, 1) := by decide +kernel
theorem dX4_round_22 : decode cX4_round 22 = .ok (.aload_n 0, 1) := by decide +kernel
theorem dX4_round_23 : decode cX4_round 23 = .ok (.aload_n 0, 1) := by decide +kernel
theorem dX4_round_24 : decode cX4_round 24 = .ok (.getfield 13, 3) := by decide +kernel
theorem dX4_round_27 : decode cX4_round 27 = .ok (.iload_n 1, 1) := by decide +kernel
theorem dX4_round_28 : decode cX4_round 28 = .ok (.iaload, 1) := by decide +kernel
theorem dX4_round_29 : decode cX4_round 29 = .ok (.invokevirtual 65, 3) := by decide +kernel
theorem dX4_round_32 : decode cX4_round 32 = .ok (.iload_n 2, 1) := by decide +kernel
theorem dX4_round_33 : decode cX4_round 33 = .ok (.invokevirtual 45, 3) := by decide +kernel
theorem dX4_round_36 : decode cX4_round 36 = .ok (.goto 8, 3) := by decide +kernel
theorem dX4_round_39 : decode cX4_round 39 = .ok (.aload_n 0, 1) := by decide +kernel
theorem dX4_round_40 : decode cX4_round 40 = .ok (.iconst 1, 1) := by decide +kernel
theorem dX4_round_41 : decode cX4_round 41 = .ok (.invokevirtual 51, 3) := by decide +kernel
theorem dX4_round_44 : decode cX4_round 44 = .ok (.ireturn, 1) := by decide +kernel
set_option maxRecDepth 20000 in
theorem ggX4_apart_X4_isChange : GoodIn wsX4_apart wsX4_isChange := goodIn_r _ [7, 8, 9, 10, 6, 11, 44, 45, 46, 47, 48, 49, 50] (by decide +kernel) (by decide +kernel)
set_option maxRecDepth 20000 in
theorem gX4_apart_X4_isChange : GoodIn wsX4_apart (wsV RX4 61 RX4 yX4_isChange wsX4_isChange) := goodIn_app (goodIn_of _ (by decide +kernel)) ggX4_apart_X4_isChange
set_option maxRecDepth 20000 in
theorem ggX4_apart_X4_no : GoodIn wsX4_apart wsX4_no := goodIn_r _ [15, 1, 44, 45, 46, 47, 48, 49, 50] (by decide +kernel) (by decide +kernel)
set_option maxRecDepth 20000 in
theorem gX4_apart_X4_no : GoodIn wsX4_apart (wsV RX4 51 RX4 yX4_no wsX4_no) := goodIn_app (goodIn_of _ (by decide +kernel)) ggX4_apart_X4_no
set_option maxRecDepth 20000 in
theorem ggX4_apart_X4_row : GoodIn wsX4_apart wsX4_row := goodIn_r _ [19, 20, 21, 22, 23, 6, 24, 25, 26, 27, 44, 45, 46, 47, 48, 49, 50] (by decide +kernel) (by decide +kernel)
set_option maxRecDepth 20000 in
theorem gX4_apart_X4_row : GoodIn wsX4_apart (wsV RX4 65 RX4 yX4_row wsX4_row) := goodIn_app (goodIn_of _ (by decide +kernel)) ggX4_apart_X4_row
set_option maxRecDepth 20000 in
theorem ggX4_apart_X4_backRow : GoodIn wsX4_apart wsX4_backRow := goodIn_r _ [31, 20, 21, 44, 45, 46, 47, 48, 49, 50] (by decide +kernel) (by decide +kernel)
set_option maxRecDepth 20000 in
theorem gX4_apart_X4_backRow : GoodIn wsX4_apart (wsV RX4 77 RX4 yX4_backRow wsX4_backRow) := goodIn_app (goodIn_of _ (by decide +kernel)) ggX4_apart_X4_backRow
set_option maxRecDepth 20000 in
theorem ggX4_apart_X4_behindRow : GoodIn wsX4_apart wsX4_behindRow := goodIn_r _ [35, 20, 21, 44, 45, 46, 47, 48, 49, 50] (by decide +kernel) (by decide +kernel)
set_option maxRecDepth 20000 in
theorem gX4_apart_X4_behindRow : GoodIn wsX4_apart (wsV RX4 73 RX4 yX4_behindRow wsX4_behindRow) := goodIn_app (goodIn_of _ (by decide +kernel)) ggX4_apart_X4_behindRow
set_option maxRecDepth 20000 in
theorem ggX4_apart_X4_inversions : GoodIn wsX4_apart wsX4_inversions := goodIn_r _ [39, 20, 40, 41, 42, 6, 43, 44, 45, 46, 47, 48, 49, 50] (by decide +kernel) (by decide +kernel)
set_option maxRecDepth 20000 in
theorem gX4_apart_X4_inversions : GoodIn wsX4_apart (wsV RX4 97 RX4 yX4_inversions wsX4_inversions) := goodIn_app (goodIn_of _ (by decide +kernel)) ggX4_apart_X4_inversions
theorem dX4_apart_0 : decode cX4_apart 0 = .ok (.aload_n 0, 1) := by decide +kernel
theorem dX4_apart_1 : decode cX4_apart 1 = .ok (.iconst 0, 1) := by decide +kernel
theorem dX4_apart_2 : decode cX4_apart 2 = .ok (.putfield 20, 3) := by decide +kernel
theorem dX4_apart_5 : decode cX4_apart 5 = .ok (.aload_n 0, 1) := by decide +kernel
theorem dX4_apart_6 : decode cX4_apart 6 = .ok (.iload_n 1, 1) := by decide +kernel
theorem dX4_apart_7 : decode cX4_apart 7 = .ok (.invokevirtual 61, 3) := by decide +kernel
theorem dX4_apart_10 : decode cX4_apart 10 = .ok (.ifCond .eq 11, 3) := by decide +kernel
theorem dX4_apart_13 : decode cX4_apart 13 = .ok (.aload_n 0, 1) := by decide +kernel
theorem dX4_apart_14 : decode cX4_apart 14 = .ok (.iload_n 2, 1) := by decide +kernel
theorem dX4_apart_15 : decode cX4_apart 15 = .ok (.invokevirtual 61, 3) := by decide +kernel
theorem dX4_apart_18 : decode cX4_apart 18 = .ok (.ifCond .ne 9, 3) := by decide +kernel
theorem dX4_apart_21 : decode cX4_apart 21 = .ok (.aload_n 0, 1) := by decide +kernel
theorem dX4_apart_22 : decode cX4_apart 22 = .ok (.iconst 1, 1) := by decide +kernel
theorem dX4_apart_23 : decode cX4_apart 23 = .ok (.invokevirtual 51, 3) := by decide +kernel
theorem dX4_apart_26 : decode cX4_apart 26 = .ok (.ireturn, 1) := by decide +kernel
theorem dX4_apart_27 : decode cX4_apart 27 = .ok (.aload_n 0, 1) := by decide +kernel
theorem dX4_apart_28 : decode cX4_apart 28 = .ok (.aload_n 0, 1) := by decide +kernel
theorem dX4_apart_29 : decode cX4_apart 29 = .ok (.aload_n 0, 1) := by decide +kernel
theorem dX4_apart_30 : decode cX4_apart 30 = .ok (.aload_n 0, 1) := by decide +kernel
theorem dX4_apart_31 : decode cX4_apart 31 = .ok (.aload_n 0, 1) := by decide +kernel
theorem dX4_apart_32 : decode cX4_apart 32 = .ok (.getfield 13, 3) := by decide +kernel
theorem dX4_apart_35 : decode cX4_apart 35 = .ok (.iload_n 2, 1) := by decide +kernel
theorem dX4_apart_36 : decode cX4_apart 36 = .ok (.iaload, 1) := by decide +kernel
theorem dX4_apart_37 : decode cX4_apart 37 = .ok (.invokevirtual 65, 3) := by decide +kernel
theorem dX4_apart_40 : decode cX4_apart 40 = .ok (.invokevirtual 77, 3) := by decide +kernel
theorem dX4_apart_43 : decode cX4_apart 43 = .ok (.aload_n 0, 1) := by decide +kernel
theorem dX4_apart_44 : decode cX4_apart 44 = .ok (.aload_n 0, 1) := by decide +kernel
theorem dX4_apart_45 : decode cX4_apart 45 = .ok (.getfield 13, 3) := by decide +kernel
theorem dX4_apart_48 : decode cX4_apart 48 = .ok (.iload_n 1, 1) := by decide +kernel
theorem dX4_apart_49 : decode cX4_apart 49 = .ok (.iaload, 1) := by decide +kernel
theorem dX4_apart_50 : decode cX4_apart 50 = .ok (.invokevirtual 65, 3) := by decide +kernel
theorem dX4_apart_53 : decode cX4_apart 53 = .ok (.invokevirtual 73, 3) := by decide +kernel
theorem dX4_apart_56 : decode cX4_apart 56 = .ok (.invokevirtual 97, 3) := by decide +kernel
theorem dX4_apart_59 : decode cX4_apart 59 = .ok (.ireturn, 1) := by decide +kernel
theorem dX4_different_0 : decode cX4_different 0 = .ok (.iconst 0, 1) := by decide +kernel
theorem dX4_different_1 : decode cX4_different 1 = .ok (.istore_n 1, 1) := by decide +kernel
theorem dX4_different_2 : decode cX4_different 2 = .ok (.iconst 0, 1) := by decide +kernel
theorem dX4_different_3 : decode cX4_different 3 = .ok (.istore_n 2, 1) := by decide +kernel
theorem dX4_different_4 : decode cX4_different 4 = .ok (.iload_n 2, 1) := by decide +kernel
theorem dX4_different_5 : decode cX4_different 5 = .ok (.aload_n 0, 1) := by decide +kernel
theorem dX4_different_6 : decode cX4_different 6 = .ok (.getfield 23, 3) := by decide +kernel
theorem dX4_different_9 : decode cX4_different 9 = .ok (.if_icmp .ge 62, 3) := by decide +kernel
theorem dX4_different_12 : decode cX4_different 12 = .ok (.iconst 1, 1) := by decide +kernel
theorem dX4_different_13 : decode cX4_different 13 = .ok (.istore_n 3, 1) := by decide +kernel
theorem dX4_different_14 : decode cX4_different 14 = .ok (.iconst 0, 1) := by decide +kernel
theorem dX4_different_15 : decode cX4_different 15 = .ok (.istore 4, 2) := by decide +kernel
theorem dX4_different_17 : decode cX4_different 17 = .ok (.iload 4, 2) := by decide +kernel
theorem dX4_different_19 : decode cX4_different 19 = .ok (.iload_n 2, 1) := by decide +kernel
theorem dX4_different_20 : decode cX4_different 20 = .ok (.if_icmp .ge 33, 3) := by decide +kernel
theorem dX4_different_23 : decode cX4_different 23 = .ok (.iload_n 3, 1) := by decide +kernel
theorem dX4_different_24 : decode cX4_different 24 = .ok (.aload_n 0, 1) := by decide +kernel
theorem dX4_different_25 : decode cX4_different 25 = .ok (.getfield 13, 3) := by decide +kernel
theorem dX4_different_28 : decode cX4_different 28 = .ok (.iload 4, 2) := by decide +kernel
theorem dX4_different_30 : decode cX4_different 30 = .ok (.iaload, 1) := by decide +kernel
theorem dX4_different_31 : decode cX4_different 31 = .ok (.aload_n 0, 1) := by decide +kernel
theorem dX4_different_32 : decode cX4_different 32 = .ok (.getfield 13, 3) := by decide +kernel
theorem dX4_different_35 : decode cX4_different 35 = .ok (.iload_n 2, 1) := by decide +kernel
theorem dX4_different_36 : decode cX4_different 36 = .ok (.iaload, 1) := by decide +kernel
theorem dX4_different_37 : decode cX4_different 37 = .ok (.if_icmp .eq 7, 3) := by decide +kernel
theorem dX4_different_40 : decode cX4_different 40 = .ok (.iconst 1, 1) := by decide +kernel
theorem dX4_different_41 : decode cX4_different 41 = .ok (.goto 4, 3) := by decide +kernel
theorem dX4_different_44 : decode cX4_different 44 = .ok (.iconst 0, 1) := by decide +kernel
theorem dX4_different_45 : decode cX4_different 45 = .ok (.iand, 1) := by decide +kernel
theorem dX4_different_46 : decode cX4_different 46 = .ok (.istore_n 3, 1) := by decide +kernel
theorem dX4_different_47 : decode cX4_different 47 = .ok (.iinc 4 1, 3) := by decide +kernel
theorem dX4_different_50 : decode cX4_different 50 = .ok (.goto (-33), 3) := by decide +kernel
theorem dX4_different_53 : decode cX4_different 53 = .ok (.iload_n 1, 1) := by decide +kernel
theorem dX4_different_54 : decode cX4_different 54 = .ok (.iload_n 3, 1) := by decide +kernel
theorem dX4_different_55 : decode cX4_different 55 = .ok (.ifCond .eq 7, 3) := by decide +kernel
theorem dX4_different_58 : decode cX4_different 58 = .ok (.iconst 1, 1) := by decide +kernel
theorem dX4_different_59 : decode cX4_different 59 = .ok (.goto 4, 3) := by decide +kernel
theorem dX4_different_62 : decode cX4_different 62 = .ok (.iconst 0, 1) := by decide +kernel
theorem dX4_different_63 : decode cX4_different 63 = .ok (.iadd, 1) := by decide +kernel
theorem dX4_different_64 : decode cX4_different 64 = .ok (.istore_n 1, 1) := by decide +kernel
theorem dX4_different_65 : decode cX4_different 65 = .ok (.iinc 2 1, 3) := by decide +kernel
theorem dX4_different_68 : decode cX4_different 68 = .ok (.goto (-64), 3) := by decide +kernel
theorem dX4_different_71 : decode cX4_different 71 = .ok (.iload_n 1, 1) := by decide +kernel
theorem dX4_different_72 : decode cX4_different 72 = .ok (.ireturn, 1) := by decide +kernel
set_option maxRecDepth 20000 in
theorem ggX4_counted_X4_product : GoodIn wsX4_counted wsX4_product := goodIn_r _ [8, 5, 6, 7] (by decide +kernel) (by decide +kernel)
set_option maxRecDepth 20000 in
theorem gX4_counted_X4_product : GoodIn wsX4_counted (va_wsS RX4 30 yX4_product wsX4_product) := goodIn_app (goodIn_of _ (by decide +kernel)) ggX4_counted_X4_product
set_option maxRecDepth 20000 in
theorem ggX4_counted_X4_different : GoodIn wsX4_counted wsX4_different := goodIn_r _ [12, 2, 13, 14, 15, 16, 17, 18, 19, 20] (by decide +kernel) (by decide +kernel)
set_option maxRecDepth 20000 in
theorem gX4_counted_X4_different : GoodIn wsX4_counted (wsV RX4 112 RX4 yX4_different wsX4_different) := goodIn_app (goodIn_of _ (by decide +kernel)) ggX4_counted_X4_different
theorem dX4_counted_0 : decode cX4_counted 0 = .ok (.iload_n 1, 1) := by decide +kernel
theorem dX4_counted_1 : decode cX4_counted 1 = .ok (.tableswitch 63 0 4 #[35, 40, 48, 53, 58], 35) := by decide +kernel
theorem dX4_counted_36 : decode cX4_counted 36 = .ok (.aload_n 0, 1) := by decide +kernel
theorem dX4_counted_37 : decode cX4_counted 37 = .ok (.getfield 7, 3) := by decide +kernel
theorem dX4_counted_40 : decode cX4_counted 40 = .ok (.ireturn, 1) := by decide +kernel
theorem dX4_counted_41 : decode cX4_counted 41 = .ok (.aload_n 0, 1) := by decide +kernel
theorem dX4_counted_42 : decode cX4_counted 42 = .ok (.getfield 7, 3) := by decide +kernel
theorem dX4_counted_45 : decode cX4_counted 45 = .ok (.invokestatic 30, 3) := by decide +kernel
theorem dX4_counted_48 : decode cX4_counted 48 = .ok (.ireturn, 1) := by decide +kernel
theorem dX4_counted_49 : decode cX4_counted 49 = .ok (.aload_n 0, 1) := by decide +kernel
theorem dX4_counted_50 : decode cX4_counted 50 = .ok (.getfield 23, 3) := by decide +kernel
theorem dX4_counted_53 : decode cX4_counted 53 = .ok (.ireturn, 1) := by decide +kernel
theorem dX4_counted_54 : decode cX4_counted 54 = .ok (.aload_n 0, 1) := by decide +kernel
theorem dX4_counted_55 : decode cX4_counted 55 = .ok (.invokevirtual 112, 3) := by decide +kernel
theorem dX4_counted_58 : decode cX4_counted 58 = .ok (.ireturn, 1) := by decide +kernel
theorem dX4_counted_59 : decode cX4_counted 59 = .ok (.aload_n 0, 1) := by decide +kernel
theorem dX4_counted_60 : decode cX4_counted 60 = .ok (.getfield 48, 3) := by decide +kernel
theorem dX4_counted_63 : decode cX4_counted 63 = .ok (.ireturn, 1) := by decide +kernel
theorem dX4_counted_64 : decode cX4_counted 64 = .ok (.aload_n 0, 1) := by decide +kernel
theorem dX4_counted_65 : decode cX4_counted 65 = .ok (.getfield 91, 3) := by decide +kernel
theorem dX4_counted_68 : decode cX4_counted 68 = .ok (.ireturn, 1) := by decide +kernel
set_option maxRecDepth 20000 in
theorem ggX4_count_X4_isIn : GoodIn wsX4_count wsX4_isIn := goodIn_r _ [5] (by decide +kernel) (by decide +kernel)
set_option maxRecDepth 20000 in
theorem gX4_count_X4_isIn : GoodIn wsX4_count (va_wsS RX4 26 yX4_isIn wsX4_isIn) := goodIn_app (goodIn_of _ (by decide +kernel)) ggX4_count_X4_isIn
set_option maxRecDepth 20000 in
theorem ggX4_count_X4_counted : GoodIn wsX4_count wsX4_counted := goodIn_r _ [9, 10, 11, 12, 13, 14, 15, 4, 16, 17, 18, 19, 20, 21, 26, 27, 28, 29, 30, 31, 32] (by decide +kernel) (by decide +kernel)
set_option maxRecDepth 20000 in
theorem gX4_count_X4_counted : GoodIn wsX4_count (wsV RX4 116 RX4 yX4_counted wsX4_counted) := goodIn_app (goodIn_of _ (by decide +kernel)) ggX4_count_X4_counted
set_option maxRecDepth 20000 in
theorem ggX4_count_X4_no : GoodIn wsX4_count wsX4_no := goodIn_r _ [25, 1, 26, 27, 28, 29, 30, 31, 32] (by decide +kernel) (by decide +kernel)
set_option maxRecDepth 20000 in
theorem gX4_count_X4_no : GoodIn wsX4_count (wsV RX4 51 RX4 yX4_no wsX4_no) := goodIn_app (goodIn_of _ (by decide +kernel)) ggX4_count_X4_no
theorem dX4_count_0 : decode cX4_count 0 = .ok (.aload_n 0, 1) := by decide +kernel
theorem dX4_count_1 : decode cX4_count 1 = .ok (.iconst 0, 1) := by decide +kernel
theorem dX4_count_2 : decode cX4_count 2 = .ok (.putfield 20, 3) := by decide +kernel
theorem dX4_count_5 : decode cX4_count 5 = .ok (.iload_n 1, 1) := by decide +kernel
theorem dX4_count_6 : decode cX4_count 6 = .ok (.iconst 0, 1) := by decide +kernel
theorem dX4_count_7 : decode cX4_count 7 = .ok (.iconst 5, 1) := by decide +kernel
theorem dX4_count_8 : decode cX4_count 8 = .ok (.invokestatic 26, 3) := by decide +kernel
theorem dX4_count_11 : decode cX4_count 11 = .ok (.ifCond .eq 11, 3) := by decide +kernel
theorem dX4_count_14 : decode cX4_count 14 = .ok (.aload_n 0, 1) := by decide +kernel
theorem dX4_count_15 : decode cX4_count 15 = .ok (.iload_n 1, 1) := by decide +kernel
theorem dX4_count_16 : decode cX4_count 16 = .ok (.invokevirtual 116, 3) := by decide +kernel
theorem dX4_count_19 : decode cX4_count 19 = .ok (.goto 8, 3) := by decide +kernel
theorem dX4_count_22 : decode cX4_count 22 = .ok (.aload_n 0, 1) := by decide +kernel
theorem dX4_count_23 : decode cX4_count 23 = .ok (.iconst 1, 1) := by decide +kernel
theorem dX4_count_24 : decode cX4_count 24 = .ok (.invokevirtual 51, 3) := by decide +kernel
theorem dX4_count_27 : decode cX4_count 27 = .ok (.ireturn, 1) := by decide +kernel
set_option maxRecDepth 20000 in
theorem ggX4_kept_X4_isIn : GoodIn wsX4_kept wsX4_isIn := goodIn_r _ [7] (by decide +kernel) (by decide +kernel)
set_option maxRecDepth 20000 in
theorem gX4_kept_X4_isIn : GoodIn wsX4_kept (va_wsS RX4 26 yX4_isIn wsX4_isIn) := goodIn_app (goodIn_of _ (by decide +kernel)) ggX4_kept_X4_isIn
set_option maxRecDepth 20000 in
theorem ggX4_kept_X4_no : GoodIn wsX4_kept wsX4_no := goodIn_r _ [11, 1, 12, 13, 14, 15, 16, 17, 18] (by decide +kernel) (by decide +kernel)
set_option maxRecDepth 20000 in
theorem gX4_kept_X4_no : GoodIn wsX4_kept (wsV RX4 51 RX4 yX4_no wsX4_no) := goodIn_app (goodIn_of _ (by decide +kernel)) ggX4_kept_X4_no
theorem dX4_kept_0 : decode cX4_kept 0 = .ok (.aload_n 0, 1) := by decide +kernel
theorem dX4_kept_1 : decode cX4_kept 1 = .ok (.iconst 0, 1) := by decide +kernel
theorem dX4_kept_2 : decode cX4_kept 2 = .ok (.putfield 20, 3) := by decide +kernel
theorem dX4_kept_5 : decode cX4_kept 5 = .ok (.iload_n 1, 1) := by decide +kernel
theorem dX4_kept_6 : decode cX4_kept 6 = .ok (.iconst 0, 1) := by decide +kernel
theorem dX4_kept_7 : decode cX4_kept 7 = .ok (.aload_n 0, 1) := by decide +kernel
theorem dX4_kept_8 : decode cX4_kept 8 = .ok (.getfield 48, 3) := by decide +kernel
theorem dX4_kept_11 : decode cX4_kept 11 = .ok (.iconst 1, 1) := by decide +kernel
theorem dX4_kept_12 : decode cX4_kept 12 = .ok (.isub, 1) := by decide +kernel
theorem dX4_kept_13 : decode cX4_kept 13 = .ok (.invokestatic 26, 3) := by decide +kernel
theorem dX4_kept_16 : decode cX4_kept 16 = .ok (.ifCond .eq 12, 3) := by decide +kernel
theorem dX4_kept_19 : decode cX4_kept 19 = .ok (.aload_n 0, 1) := by decide +kernel
theorem dX4_kept_20 : decode cX4_kept 20 = .ok (.getfield 17, 3) := by decide +kernel
theorem dX4_kept_23 : decode cX4_kept 23 = .ok (.iload_n 1, 1) := by decide +kernel
theorem dX4_kept_24 : decode cX4_kept 24 = .ok (.iaload, 1) := by decide +kernel
theorem dX4_kept_25 : decode cX4_kept 25 = .ok (.goto 8, 3) := by decide +kernel
theorem dX4_kept_28 : decode cX4_kept 28 = .ok (.aload_n 0, 1) := by decide +kernel
theorem dX4_kept_29 : decode cX4_kept 29 = .ok (.iconst 1, 1) := by decide +kernel
theorem dX4_kept_30 : decode cX4_kept 30 = .ok (.invokevirtual 51, 3) := by decide +kernel
theorem dX4_kept_33 : decode cX4_kept 33 = .ok (.ireturn, 1) := by decide +kernel
set_option maxRecDepth 20000 in
theorem ggX4_comes_X4_isChange : GoodIn wsX4_comes wsX4_isChange := goodIn_r _ [8, 9, 10, 11, 7, 12, 42, 43, 44, 45, 46, 47, 48] (by decide +kernel) (by decide +kernel)
set_option maxRecDepth 20000 in
theorem gX4_comes_X4_isChange : GoodIn wsX4_comes (wsV RX4 61 RX4 yX4_isChange wsX4_isChange) := goodIn_app (goodIn_of _ (by decide +kernel)) ggX4_comes_X4_isChange
set_option maxRecDepth 20000 in
theorem ggX4_comes_X4_no : GoodIn wsX4_comes wsX4_no := goodIn_r _ [16, 1, 42, 43, 44, 45, 46, 47, 48] (by decide +kernel) (by decide +kernel)
set_option maxRecDepth 20000 in
theorem gX4_comes_X4_no : GoodIn wsX4_comes (wsV RX4 51 RX4 yX4_no wsX4_no) := goodIn_app (goodIn_of _ (by decide +kernel)) ggX4_comes_X4_no
set_option maxRecDepth 20000 in
theorem ggX4_comes_X4_row : GoodIn wsX4_comes wsX4_row := goodIn_r _ [20, 21, 22, 23, 24, 7, 25, 26, 27, 28, 42, 43, 44, 45, 46, 47, 48] (by decide +kernel) (by decide +kernel)
set_option maxRecDepth 20000 in
theorem gX4_comes_X4_row : GoodIn wsX4_comes (wsV RX4 65 RX4 yX4_row wsX4_row) := goodIn_app (goodIn_of _ (by decide +kernel)) ggX4_comes_X4_row
set_option maxRecDepth 20000 in
theorem ggX4_comes_X4_ringStep : GoodIn wsX4_comes wsX4_ringStep := goodIn_r _ [32, 33, 2, 21, 42, 43, 44, 45, 46, 47, 48] (by decide +kernel) (by decide +kernel)
set_option maxRecDepth 20000 in
theorem gX4_comes_X4_ringStep : GoodIn wsX4_comes (wsV RX4 87 RX4 yX4_ringStep wsX4_ringStep) := goodIn_app (goodIn_of _ (by decide +kernel)) ggX4_comes_X4_ringStep
set_option maxRecDepth 20000 in
theorem ggX4_comes_X4_rank : GoodIn wsX4_comes wsX4_rank := goodIn_r _ [37, 21, 38, 39, 40, 7, 41, 23, 24, 25, 42, 43, 44, 45, 46, 47, 48] (by decide +kernel) (by decide +kernel)
set_option maxRecDepth 20000 in
theorem gX4_comes_X4_rank : GoodIn wsX4_comes (wsV RX4 54 RX4 yX4_rank wsX4_rank) := goodIn_app (goodIn_of _ (by decide +kernel)) ggX4_comes_X4_rank
theorem dX4_comes_0 : decode cX4_comes 0 = .ok (.aload_n 0, 1) := by decide +kernel
theorem dX4_comes_1 : decode cX4_comes 1 = .ok (.iconst 0, 1) := by decide +kernel
theorem dX4_comes_2 : decode cX4_comes 2 = .ok (.putfield 20, 3) := by decide +kernel
theorem dX4_comes_5 : decode cX4_comes 5 = .ok (.aload_n 0, 1) := by decide +kernel
theorem dX4_comes_6 : decode cX4_comes 6 = .ok (.iload_n 1, 1) := by decide +kernel
theorem dX4_comes_7 : decode cX4_comes 7 = .ok (.invokevirtual 61, 3) := by decide +kernel
theorem dX4_comes_10 : decode cX4_comes 10 = .ok (.ifCond .ne 9, 3) := by decide +kernel
theorem dX4_comes_13 : decode cX4_comes 13 = .ok (.aload_n 0, 1) := by decide +kernel
theorem dX4_comes_14 : decode cX4_comes 14 = .ok (.iconst 1, 1) := by decide +kernel
theorem dX4_comes_15 : decode cX4_comes 15 = .ok (.invokevirtual 51, 3) := by decide +kernel
theorem dX4_comes_18 : decode cX4_comes 18 = .ok (.ireturn, 1) := by decide +kernel
theorem dX4_comes_19 : decode cX4_comes 19 = .ok (.aload_n 0, 1) := by decide +kernel
theorem dX4_comes_20 : decode cX4_comes 20 = .ok (.getfield 48, 3) := by decide +kernel
theorem dX4_comes_23 : decode cX4_comes 23 = .ok (.ifCond .ne 5, 3) := by decide +kernel
theorem dX4_comes_26 : decode cX4_comes 26 = .ok (.iconst (-1), 1) := by decide +kernel
theorem dX4_comes_27 : decode cX4_comes 27 = .ok (.ireturn, 1) := by decide +kernel
theorem dX4_comes_28 : decode cX4_comes 28 = .ok (.aload_n 0, 1) := by decide +kernel
theorem dX4_comes_29 : decode cX4_comes 29 = .ok (.aload_n 0, 1) := by decide +kernel
theorem dX4_comes_30 : decode cX4_comes 30 = .ok (.getfield 13, 3) := by decide +kernel
theorem dX4_comes_33 : decode cX4_comes 33 = .ok (.iload_n 1, 1) := by decide +kernel
theorem dX4_comes_34 : decode cX4_comes 34 = .ok (.iaload, 1) := by decide +kernel
theorem dX4_comes_35 : decode cX4_comes 35 = .ok (.invokevirtual 65, 3) := by decide +kernel
theorem dX4_comes_38 : decode cX4_comes 38 = .ok (.astore_n 2, 1) := by decide +kernel
theorem dX4_comes_39 : decode cX4_comes 39 = .ok (.iconst 0, 1) := by decide +kernel
theorem dX4_comes_40 : decode cX4_comes 40 = .ok (.istore_n 3, 1) := by decide +kernel
theorem dX4_comes_41 : decode cX4_comes 41 = .ok (.iload_n 3, 1) := by decide +kernel
theorem dX4_comes_42 : decode cX4_comes 42 = .ok (.sipush 400, 3) := by decide +kernel
theorem dX4_comes_45 : decode cX4_comes 45 = .ok (.if_icmp .ge 33, 3) := by decide +kernel
theorem dX4_comes_48 : decode cX4_comes 48 = .ok (.aload_n 0, 1) := by decide +kernel
theorem dX4_comes_49 : decode cX4_comes 49 = .ok (.aload_n 2, 1) := by decide +kernel
theorem dX4_comes_50 : decode cX4_comes 50 = .ok (.iload_n 3, 1) := by decide +kernel
theorem dX4_comes_51 : decode cX4_comes 51 = .ok (.invokevirtual 87, 3) := by decide +kernel
theorem dX4_comes_54 : decode cX4_comes 54 = .ok (.aload_n 0, 1) := by decide +kernel
theorem dX4_comes_55 : decode cX4_comes 55 = .ok (.aload_n 2, 1) := by decide +kernel
theorem dX4_comes_56 : decode cX4_comes 56 = .ok (.invokevirtual 54, 3) := by decide +kernel
theorem dX4_comes_59 : decode cX4_comes 59 = .ok (.aload_n 0, 1) := by decide +kernel
theorem dX4_comes_60 : decode cX4_comes 60 = .ok (.getfield 13, 3) := by decide +kernel
theorem dX4_comes_63 : decode cX4_comes 63 = .ok (.iload_n 1, 1) := by decide +kernel
theorem dX4_comes_64 : decode cX4_comes 64 = .ok (.iaload, 1) := by decide +kernel
theorem dX4_comes_65 : decode cX4_comes 65 = .ok (.if_icmp .ne 7, 3) := by decide +kernel
theorem dX4_comes_68 : decode cX4_comes 68 = .ok (.iload_n 3, 1) := by decide +kernel
theorem dX4_comes_69 : decode cX4_comes 69 = .ok (.iconst 1, 1) := by decide +kernel
theorem dX4_comes_70 : decode cX4_comes 70 = .ok (.iadd, 1) := by decide +kernel
theorem dX4_comes_71 : decode cX4_comes 71 = .ok (.ireturn, 1) := by decide +kernel
theorem dX4_comes_72 : decode cX4_comes 72 = .ok (.iinc 3 1, 3) := by decide +kernel
theorem dX4_comes_75 : decode cX4_comes 75 = .ok (.goto (-34), 3) := by decide +kernel
theorem dX4_comes_78 : decode cX4_comes 78 = .ok (.iconst (-1), 1) := by decide +kernel
theorem dX4_comes_79 : decode cX4_comes 79 = .ok (.ireturn, 1) := by decide +kernel
set_option maxRecDepth 20000 in
theorem ggX4_differ_X4_isIn : GoodIn wsX4_differ wsX4_isIn := goodIn_r _ [7] (by decide +kernel) (by decide +kernel)
set_option maxRecDepth 20000 in
theorem gX4_differ_X4_isIn : GoodIn wsX4_differ (va_wsS RX4 26 yX4_isIn wsX4_isIn) := goodIn_app (goodIn_of _ (by decide +kernel)) ggX4_differ_X4_isIn
set_option maxRecDepth 20000 in
theorem ggX4_differ_X4_no : GoodIn wsX4_differ wsX4_no := goodIn_r _ [11, 1, 36, 37, 38, 39, 40, 41, 42] (by decide +kernel) (by decide +kernel)
set_option maxRecDepth 20000 in
theorem gX4_differ_X4_no : GoodIn wsX4_differ (wsV RX4 51 RX4 yX4_no wsX4_no) := goodIn_app (goodIn_of _ (by decide +kernel)) ggX4_differ_X4_no
set_option maxRecDepth 20000 in
theorem ggX4_differ_X4_row : GoodIn wsX4_differ wsX4_row := goodIn_r _ [15, 16, 3, 17, 18, 6, 19, 20, 21, 22, 36, 37, 38, 39, 40, 41, 42] (by decide +kernel) (by decide +kernel)
set_option maxRecDepth 20000 in
theorem gX4_differ_X4_row : GoodIn wsX4_differ (wsV RX4 65 RX4 yX4_row wsX4_row) := goodIn_app (goodIn_of _ (by decide +kernel)) ggX4_differ_X4_row
set_option maxRecDepth 20000 in
theorem ggX4_differ_X4_ringStep : GoodIn wsX4_differ wsX4_ringStep := goodIn_r _ [26, 27, 2, 16, 36, 37, 38, 39, 40, 41, 42] (by decide +kernel) (by decide +kernel)
set_option maxRecDepth 20000 in
theorem gX4_differ_X4_ringStep : GoodIn wsX4_differ (wsV RX4 87 RX4 yX4_ringStep wsX4_ringStep) := goodIn_app (goodIn_of _ (by decide +kernel)) ggX4_differ_X4_ringStep
set_option maxRecDepth 20000 in
theorem ggX4_differ_X4_rank : GoodIn wsX4_differ wsX4_rank := goodIn_r _ [31, 16, 32, 33, 34, 6, 35, 17, 18, 19, 36, 37, 38, 39, 40, 41, 42] (by decide +kernel) (by decide +kernel)
set_option maxRecDepth 20000 in
theorem gX4_differ_X4_rank : GoodIn wsX4_differ (wsV RX4 54 RX4 yX4_rank wsX4_rank) := goodIn_app (goodIn_of _ (by decide +kernel)) ggX4_differ_X4_rank
theorem dX4_differ_0 : decode cX4_differ 0 = .ok (.aload_n 0, 1) := by decide +kernel
theorem dX4_differ_1 : decode cX4_differ 1 = .ok (.iconst 0, 1) := by decide +kernel
theorem dX4_differ_2 : decode cX4_differ 2 = .ok (.putfield 20, 3) := by decide +kernel
theorem dX4_differ_5 : decode cX4_differ 5 = .ok (.iload_n 1, 1) := by decide +kernel
theorem dX4_differ_6 : decode cX4_differ 6 = .ok (.iconst 1, 1) := by decide +kernel
theorem dX4_differ_7 : decode cX4_differ 7 = .ok (.sipush 200, 3) := by decide +kernel
theorem dX4_differ_10 : decode cX4_differ 10 = .ok (.invokestatic 26, 3) := by decide +kernel
theorem dX4_differ_13 : decode cX4_differ 13 = .ok (.ifCond .ne 9, 3) := by decide +kernel
theorem dX4_differ_16 : decode cX4_differ 16 = .ok (.aload_n 0, 1) := by decide +kernel
theorem dX4_differ_17 : decode cX4_differ 17 = .ok (.iconst 1, 1) := by decide +kernel
theorem dX4_differ_18 : decode cX4_differ 18 = .ok (.invokevirtual 51, 3) := by decide +kernel
theorem dX4_differ_21 : decode cX4_differ 21 = .ok (.ireturn, 1) := by decide +kernel
theorem dX4_differ_22 : decode cX4_differ 22 = .ok (.aload_n 0, 1) := by decide +kernel
theorem dX4_differ_23 : decode cX4_differ 23 = .ok (.getfield 48, 3) := by decide +kernel
theorem dX4_differ_26 : decode cX4_differ 26 = .ok (.ifCond .ne 5, 3) := by decide +kernel
theorem dX4_differ_29 : decode cX4_differ 29 = .ok (.iconst 1, 1) := by decide +kernel
theorem dX4_differ_30 : decode cX4_differ 30 = .ok (.ireturn, 1) := by decide +kernel
theorem dX4_differ_31 : decode cX4_differ 31 = .ok (.iload_n 1, 1) := by decide +kernel
theorem dX4_differ_32 : decode cX4_differ 32 = .ok (.iconst 1, 1) := by decide +kernel
theorem dX4_differ_33 : decode cX4_differ 33 = .ok (.iadd, 1) := by decide +kernel
theorem dX4_differ_34 : decode cX4_differ 34 = .ok (.newarray .int, 2) := by decide +kernel
theorem dX4_differ_36 : decode cX4_differ 36 = .ok (.astore_n 2, 1) := by decide +kernel
theorem dX4_differ_37 : decode cX4_differ 37 = .ok (.iconst 1, 1) := by decide +kernel
theorem dX4_differ_38 : decode cX4_differ 38 = .ok (.istore_n 3, 1) := by decide +kernel
theorem dX4_differ_39 : decode cX4_differ 39 = .ok (.aload_n 0, 1) := by decide +kernel
theorem dX4_differ_40 : decode cX4_differ 40 = .ok (.iconst 0, 1) := by decide +kernel
theorem dX4_differ_41 : decode cX4_differ 41 = .ok (.invokevirtual 65, 3) := by decide +kernel
theorem dX4_differ_44 : decode cX4_differ 44 = .ok (.astore 4, 2) := by decide +kernel
theorem dX4_differ_46 : decode cX4_differ 46 = .ok (.iconst 0, 1) := by decide +kernel
theorem dX4_differ_47 : decode cX4_differ 47 = .ok (.istore 5, 2) := by decide +kernel
theorem dX4_differ_49 : decode cX4_differ 49 = .ok (.iload 5, 2) := by decide +kernel
theorem dX4_differ_51 : decode cX4_differ 51 = .ok (.iload_n 1, 1) := by decide +kernel
theorem dX4_differ_52 : decode cX4_differ 52 = .ok (.if_icmp .ge 82, 3) := by decide +kernel
theorem dX4_differ_55 : decode cX4_differ 55 = .ok (.aload_n 0, 1) := by decide +kernel
theorem dX4_differ_56 : decode cX4_differ 56 = .ok (.aload 4, 2) := by decide +kernel
theorem dX4_differ_58 : decode cX4_differ 58 = .ok (.iload 5, 2) := by decide +kernel
theorem dX4_differ_60 : decode cX4_differ 60 = .ok (.invokevirtual 87, 3) := by decide +kernel
theorem dX4_differ_63 : decode cX4_differ 63 = .ok (.aload_n 0, 1) := by decide +kernel
theorem dX4_differ_64 : decode cX4_differ 64 = .ok (.aload 4, 2) := by decide +kernel
theorem dX4_differ_66 : decode cX4_differ 66 = .ok (.invokevirtual 54, 3) := by decide +kernel
theorem dX4_differ_69 : decode cX4_differ 69 = .ok (.istore 6, 2) := by decide +kernel
theorem dX4_differ_71 : decode cX4_differ 71 = .ok (.iconst 1, 1) := by decide +kernel
theorem dX4_differ_72 : decode cX4_differ 72 = .ok (.istore 7, 2) := by decide +kernel
theorem dX4_differ_74 : decode cX4_differ 74 = .ok (.iconst 0, 1) := by decide +kernel
theorem dX4_differ_75 : decode cX4_differ 75 = .ok (.istore 8, 2) := by decide +kernel
theorem dX4_differ_77 : decode cX4_differ 77 = .ok (.iload 8, 2) := by decide +kernel
theorem dX4_differ_79 : decode cX4_differ 79 = .ok (.iload_n 3, 1) := by decide +kernel
theorem dX4_differ_80 : decode cX4_differ 80 = .ok (.if_icmp .ge 30, 3) := by decide +kernel
theorem dX4_differ_83 : decode cX4_differ 83 = .ok (.iload 7, 2) := by decide +kernel
theorem dX4_differ_85 : decode cX4_differ 85 = .ok (.ifCond .eq 25, 3) := by decide +kernel
theorem dX4_differ_88 : decode cX4_differ 88 = .ok (.aload_n 2, 1) := by decide +kernel
theorem dX4_differ_89 : decode cX4_differ 89 = .ok (.iload 8, 2) := by decide +kernel
theorem dX4_differ_91 : decode cX4_differ 91 = .ok (.iaload, 1) := by decide +kernel
theorem dX4_differ_92 : decode cX4_differ 92 = .ok (.iload 6, 2) := by decide +kernel
theorem dX4_differ_94 : decode cX4_differ 94 = .ok (.if_icmp .eq 7, 3) := by decide +kernel
theorem dX4_differ_97 : decode cX4_differ 97 = .ok (.iconst 1, 1) := by decide +kernel
theorem dX4_differ_98 : decode cX4_differ 98 = .ok (.goto 4, 3) := by decide +kernel
theorem dX4_differ_101 : decode cX4_differ 101 = .ok (.iconst 0, 1) := by decide +kernel
theorem dX4_differ_102 : decode cX4_differ 102 = .ok (.istore 7, 2) := by decide +kernel
theorem dX4_differ_104 : decode cX4_differ 104 = .ok (.iinc 8 1, 3) := by decide +kernel
theorem dX4_differ_107 : decode cX4_differ 107 = .ok (.goto (-30), 3) := by decide +kernel
theorem dX4_differ_110 : decode cX4_differ 110 = .ok (.aload_n 2, 1) := by decide +kernel
theorem dX4_differ_111 : decode cX4_differ 111 = .ok (.iload_n 3, 1) := by decide +kernel
theorem dX4_differ_112 : decode cX4_differ 112 = .ok (.iload 6, 2) := by decide +kernel
theorem dX4_differ_114 : decode cX4_differ 114 = .ok (.iastore, 1) := by decide +kernel
theorem dX4_differ_115 : decode cX4_differ 115 = .ok (.iload_n 3, 1) := by decide +kernel
theorem dX4_differ_116 : decode cX4_differ 116 = .ok (.iload 7, 2) := by decide +kernel
theorem dX4_differ_118 : decode cX4_differ 118 = .ok (.ifCond .eq 7, 3) := by decide +kernel
theorem dX4_differ_121 : decode cX4_differ 121 = .ok (.iconst 1, 1) := by decide +kernel
theorem dX4_differ_122 : decode cX4_differ 122 = .ok (.goto 4, 3) := by decide +kernel
theorem dX4_differ_125 : decode cX4_differ 125 = .ok (.iconst 0, 1) := by decide +kernel
theorem dX4_differ_126 : decode cX4_differ 126 = .ok (.iadd, 1) := by decide +kernel
theorem dX4_differ_127 : decode cX4_differ 127 = .ok (.istore_n 3, 1) := by decide +kernel
theorem dX4_differ_128 : decode cX4_differ 128 = .ok (.iinc 5 1, 3) := by decide +kernel
theorem dX4_differ_131 : decode cX4_differ 131 = .ok (.goto (-82), 3) := by decide +kernel
theorem dX4_differ_134 : decode cX4_differ 134 = .ok (.iload_n 3, 1) := by decide +kernel
theorem dX4_differ_135 : decode cX4_differ 135 = .ok (.ireturn, 1) := by decide +kernel
set_option maxRecDepth 20000 in
theorem ggX4_advise_X4_isChange : GoodIn wsX4_advise wsX4_isChange := goodIn_r _ [8, 3, 9, 10, 7, 11, 40, 41, 42, 43, 44, 45, 46] (by decide +kernel) (by decide +kernel)
set_option maxRecDepth 20000 in
theorem gX4_advise_X4_isChange : GoodIn wsX4_advise (wsV RX4 61 RX4 yX4_isChange wsX4_isChange) := goodIn_app (goodIn_of _ (by decide +kernel)) ggX4_advise_X4_isChange
set_option maxRecDepth 20000 in
theorem ggX4_advise_X4_no : GoodIn wsX4_advise wsX4_no := goodIn_r _ [15, 1, 40, 41, 42, 43, 44, 45, 46] (by decide +kernel) (by decide +kernel)
set_option maxRecDepth 20000 in
theorem gX4_advise_X4_no : GoodIn wsX4_advise (wsV RX4 51 RX4 yX4_no wsX4_no) := goodIn_app (goodIn_of _ (by decide +kernel)) ggX4_advise_X4_no
set_option maxRecDepth 20000 in
theorem ggX4_advise_X4_row : GoodIn wsX4_advise wsX4_row := goodIn_r _ [19, 20, 21, 22, 23, 7, 24, 25, 26, 27, 40, 41, 42, 43, 44, 45, 46] (by decide +kernel) (by decide +kernel)
set_option maxRecDepth 20000 in
theorem gX4_advise_X4_row : GoodIn wsX4_advise (wsV RX4 65 RX4 yX4_row wsX4_row) := goodIn_app (goodIn_of _ (by decide +kernel)) ggX4_advise_X4_row
set_option maxRecDepth 20000 in
theorem ggX4_advise_X4_behindRow : GoodIn wsX4_advise wsX4_behindRow := goodIn_r _ [31, 20, 21, 40, 41, 42, 43, 44, 45, 46] (by decide +kernel) (by decide +kernel)
set_option maxRecDepth 20000 in
theorem gX4_advise_X4_behindRow : GoodIn wsX4_advise (wsV RX4 73 RX4 yX4_behindRow wsX4_behindRow) := goodIn_app (goodIn_of _ (by decide +kernel)) ggX4_advise_X4_behindRow
set_option maxRecDepth 20000 in
theorem ggX4_advise_X4_inversions : GoodIn wsX4_advise wsX4_inversions := goodIn_r _ [35, 20, 36, 37, 38, 7, 39, 40, 41, 42, 43, 44, 45, 46] (by decide +kernel) (by decide +kernel)
set_option maxRecDepth 20000 in
theorem gX4_advise_X4_inversions : GoodIn wsX4_advise (wsV RX4 97 RX4 yX4_inversions wsX4_inversions) := goodIn_app (goodIn_of _ (by decide +kernel)) ggX4_advise_X4_inversions
theorem dX4_advise_0 : decode cX4_advise 0 = .ok (.aload_n 0, 1) := by decide +kernel
theorem dX4_advise_1 : decode cX4_advise 1 = .ok (.iconst 0, 1) := by decide +kernel
theorem dX4_advise_2 : decode cX4_advise 2 = .ok (.putfield 20, 3) := by decide +kernel
theorem dX4_advise_5 : decode cX4_advise 5 = .ok (.aload_n 0, 1) := by decide +kernel
theorem dX4_advise_6 : decode cX4_advise 6 = .ok (.iload_n 1, 1) := by decide +kernel
theorem dX4_advise_7 : decode cX4_advise 7 = .ok (.invokevirtual 61, 3) := by decide +kernel
theorem dX4_advise_10 : decode cX4_advise 10 = .ok (.ifCond .ne 9, 3) := by decide +kernel
theorem dX4_advise_13 : decode cX4_advise 13 = .ok (.aload_n 0, 1) := by decide +kernel
theorem dX4_advise_14 : decode cX4_advise 14 = .ok (.iconst 1, 1) := by decide +kernel
theorem dX4_advise_15 : decode cX4_advise 15 = .ok (.invokevirtual 51, 3) := by decide +kernel
theorem dX4_advise_18 : decode cX4_advise 18 = .ok (.ireturn, 1) := by decide +kernel
theorem dX4_advise_19 : decode cX4_advise 19 = .ok (.aload_n 0, 1) := by decide +kernel
theorem dX4_advise_20 : decode cX4_advise 20 = .ok (.aload_n 0, 1) := by decide +kernel
theorem dX4_advise_21 : decode cX4_advise 21 = .ok (.getfield 13, 3) := by decide +kernel
theorem dX4_advise_24 : decode cX4_advise 24 = .ok (.iload_n 1, 1) := by decide +kernel
theorem dX4_advise_25 : decode cX4_advise 25 = .ok (.iaload, 1) := by decide +kernel
theorem dX4_advise_26 : decode cX4_advise 26 = .ok (.invokevirtual 65, 3) := by decide +kernel
theorem dX4_advise_29 : decode cX4_advise 29 = .ok (.astore_n 2, 1) := by decide +kernel
theorem dX4_advise_30 : decode cX4_advise 30 = .ok (.iconst (-1), 1) := by decide +kernel
theorem dX4_advise_31 : decode cX4_advise 31 = .ok (.istore_n 3, 1) := by decide +kernel
theorem dX4_advise_32 : decode cX4_advise 32 = .ok (.iconst 0, 1) := by decide +kernel
theorem dX4_advise_33 : decode cX4_advise 33 = .ok (.istore 4, 2) := by decide +kernel
theorem dX4_advise_35 : decode cX4_advise 35 = .ok (.iconst 0, 1) := by decide +kernel
theorem dX4_advise_36 : decode cX4_advise 36 = .ok (.istore 5, 2) := by decide +kernel
theorem dX4_advise_38 : decode cX4_advise 38 = .ok (.iload 5, 2) := by decide +kernel
theorem dX4_advise_40 : decode cX4_advise 40 = .ok (.aload_n 0, 1) := by decide +kernel
theorem dX4_advise_41 : decode cX4_advise 41 = .ok (.getfield 23, 3) := by decide +kernel
theorem dX4_advise_44 : decode cX4_advise 44 = .ok (.if_icmp .ge 53, 3) := by decide +kernel
theorem dX4_advise_47 : decode cX4_advise 47 = .ok (.aload_n 0, 1) := by decide +kernel
theorem dX4_advise_48 : decode cX4_advise 48 = .ok (.aload_n 0, 1) := by decide +kernel
theorem dX4_advise_49 : decode cX4_advise 49 = .ok (.aload_n 2, 1) := by decide +kernel
theorem dX4_advise_50 : decode cX4_advise 50 = .ok (.aload_n 0, 1) := by decide +kernel
theorem dX4_advise_51 : decode cX4_advise 51 = .ok (.aload_n 0, 1) := by decide +kernel
theorem dX4_advise_52 : decode cX4_advise 52 = .ok (.getfield 13, 3) := by decide +kernel
theorem dX4_advise_55 : decode cX4_advise 55 = .ok (.iload 5, 2) := by decide +kernel
theorem dX4_advise_57 : decode cX4_advise 57 = .ok (.iaload, 1) := by decide +kernel
theorem dX4_advise_58 : decode cX4_advise 58 = .ok (.invokevirtual 65, 3) := by decide +kernel
theorem dX4_advise_61 : decode cX4_advise 61 = .ok (.invokevirtual 73, 3) := by decide +kernel
theorem dX4_advise_64 : decode cX4_advise 64 = .ok (.invokevirtual 97, 3) := by decide +kernel
theorem dX4_advise_67 : decode cX4_advise 67 = .ok (.istore 6, 2) := by decide +kernel
theorem dX4_advise_69 : decode cX4_advise 69 = .ok (.iload_n 3, 1) := by decide +kernel
theorem dX4_advise_70 : decode cX4_advise 70 = .ok (.iconst (-1), 1) := by decide +kernel
theorem dX4_advise_71 : decode cX4_advise 71 = .ok (.if_icmp .eq 13, 3) := by decide +kernel
theorem dX4_advise_74 : decode cX4_advise 74 = .ok (.iload 6, 2) := by decide +kernel
theorem dX4_advise_76 : decode cX4_advise 76 = .ok (.iload 4, 2) := by decide +kernel
theorem dX4_advise_78 : decode cX4_advise 78 = .ok (.if_icmp .lt 6, 3) := by decide +kernel
theorem dX4_advise_81 : decode cX4_advise 81 = .ok (.goto 10, 3) := by decide +kernel
theorem dX4_advise_84 : decode cX4_advise 84 = .ok (.iload 5, 2) := by decide +kernel
theorem dX4_advise_86 : decode cX4_advise 86 = .ok (.istore_n 3, 1) := by decide +kernel
theorem dX4_advise_87 : decode cX4_advise 87 = .ok (.iload 6, 2) := by decide +kernel
theorem dX4_advise_89 : decode cX4_advise 89 = .ok (.istore 4, 2) := by decide +kernel
theorem dX4_advise_91 : decode cX4_advise 91 = .ok (.iinc 5 1, 3) := by decide +kernel
theorem dX4_advise_94 : decode cX4_advise 94 = .ok (.goto (-56), 3) := by decide +kernel
theorem dX4_advise_97 : decode cX4_advise 97 = .ok (.iload_n 3, 1) := by decide +kernel
theorem dX4_advise_98 : decode cX4_advise 98 = .ok (.ireturn, 1) := by decide +kernel
theorem dX4_mean_0 : decode cX4_mean 0 = .ok (.aload_n 0, 1) := by decide +kernel
theorem dX4_mean_1 : decode cX4_mean 1 = .ok (.iconst 0, 1) := by decide +kernel
theorem dX4_mean_2 : decode cX4_mean 2 = .ok (.putfield 20, 3) := by decide +kernel
theorem dX4_mean_5 : decode cX4_mean 5 = .ok (.iconst 0, 1) := by decide +kernel
theorem dX4_mean_6 : decode cX4_mean 6 = .ok (.istore_n 1, 1) := by decide +kernel
theorem dX4_mean_7 : decode cX4_mean 7 = .ok (.iconst 0, 1) := by decide +kernel
theorem dX4_mean_8 : decode cX4_mean 8 = .ok (.istore_n 2, 1) := by decide +kernel
theorem dX4_mean_9 : decode cX4_mean 9 = .ok (.iload_n 2, 1) := by decide +kernel
theorem dX4_mean_10 : decode cX4_mean 10 = .ok (.aload_n 0, 1) := by decide +kernel
theorem dX4_mean_11 : decode cX4_mean 11 = .ok (.getfield 23, 3) := by decide +kernel
theorem dX4_mean_14 : decode cX4_mean 14 = .ok (.if_icmp .ge 18, 3) := by decide +kernel
theorem dX4_mean_17 : decode cX4_mean 17 = .ok (.iload_n 1, 1) := by decide +kernel
theorem dX4_mean_18 : decode cX4_mean 18 = .ok (.aload_n 0, 1) := by decide +kernel
theorem dX4_mean_19 : decode cX4_mean 19 = .ok (.getfield 13, 3) := by decide +kernel
theorem dX4_mean_22 : decode cX4_mean 22 = .ok (.iload_n 2, 1) := by decide +kernel
theorem dX4_mean_23 : decode cX4_mean 23 = .ok (.iaload, 1) := by decide +kernel
theorem dX4_mean_24 : decode cX4_mean 24 = .ok (.iadd, 1) := by decide +kernel
theorem dX4_mean_25 : decode cX4_mean 25 = .ok (.istore_n 1, 1) := by decide +kernel
theorem dX4_mean_26 : decode cX4_mean 26 = .ok (.iinc 2 1, 3) := by decide +kernel
theorem dX4_mean_29 : decode cX4_mean 29 = .ok (.goto (-20), 3) := by decide +kernel
theorem dX4_mean_32 : decode cX4_mean 32 = .ok (.aload_n 0, 1) := by decide +kernel
theorem dX4_mean_33 : decode cX4_mean 33 = .ok (.getfield 23, 3) := by decide +kernel
theorem dX4_mean_36 : decode cX4_mean 36 = .ok (.ifCond .ne 7, 3) := by decide +kernel
theorem dX4_mean_39 : decode cX4_mean 39 = .ok (.dconst 0, 1) := by decide +kernel
theorem dX4_mean_40 : decode cX4_mean 40 = .ok (.goto 11, 3) := by decide +kernel
theorem dX4_mean_43 : decode cX4_mean 43 = .ok (.iload_n 1, 1) := by decide +kernel
theorem dX4_mean_44 : decode cX4_mean 44 = .ok (.i2d, 1) := by decide +kernel
theorem dX4_mean_45 : decode cX4_mean 45 = .ok (.aload_n 0, 1) := by decide +kernel
theorem dX4_mean_46 : decode cX4_mean 46 = .ok (.getfield 23, 3) := by decide +kernel
theorem dX4_mean_49 : decode cX4_mean 49 = .ok (.i2d, 1) := by decide +kernel
theorem dX4_mean_50 : decode cX4_mean 50 = .ok (.ddiv, 1) := by decide +kernel
theorem dX4_mean_51 : decode cX4_mean 51 = .ok (.dreturn, 1) := by decide +kernel
set_option maxRecDepth 20000 in
theorem ggX4_digest_X4_counted : GoodIn wsX4_digest wsX4_counted := goodIn_r _ [12, 13, 4, 6, 14, 15, 16, 11, 17, 18, 19, 20, 21, 5, 69, 70, 71, 72, 73, 74, 75] (by decide +kernel) (by decide +kernel)
set_option maxRecDepth 20000 in
theorem gX4_digest_X4_counted : GoodIn wsX4_digest (wsV RX4 116 RX4 yX4_counted wsX4_counted) := goodIn_app (goodIn_of _ (by decide +kernel)) ggX4_digest_X4_counted
set_option maxRecDepth 20000 in
theorem ggX4_digest_X4_row : GoodIn wsX4_digest wsX4_row := goodIn_r _ [25, 13, 26, 15, 16, 11, 17, 27, 28, 29, 69, 70, 71, 72, 73, 74, 75] (by decide +kernel) (by decide +kernel)
set_option maxRecDepth 20000 in
theorem gX4_digest_X4_row : GoodIn wsX4_digest (wsV RX4 65 RX4 yX4_row wsX4_row) := goodIn_app (goodIn_of _ (by decide +kernel)) ggX4_digest_X4_row
set_option maxRecDepth 20000 in
theorem ggX4_digest_X4_toldOf : GoodIn wsX4_digest wsX4_toldOf := goodIn_r _ [33, 13, 34, 35, 36, 37, 38, 39, 40, 11, 41, 42, 43, 44, 45, 15, 16, 17, 46, 47, 48, 49, 50, 51, 52, 53, 54, 55, 56, 57, 58, 59, 60, 61, 62, 63, 64, 65, 66, 67, 68, 26, 69, 70, 71, 72, 73, 74, 75] (by decide +kernel) (by decide +kernel)
set_option maxRecDepth 20000 in
theorem gX4_digest_X4_toldOf : GoodIn wsX4_digest (wsV RX4 109 RX4 yX4_toldOf wsX4_toldOf) := goodIn_app (goodIn_of _ (by decide +kernel)) ggX4_digest_X4_toldOf
theorem dX4_digest_0 : decode cX4_digest 0 = .ok (.aload_n 0, 1) := by decide +kernel
theorem dX4_digest_1 : decode cX4_digest 1 = .ok (.iconst 0, 1) := by decide +kernel
theorem dX4_digest_2 : decode cX4_digest 2 = .ok (.putfield 20, 3) := by decide +kernel
theorem dX4_digest_5 : decode cX4_digest 5 = .ok (.ldc2_w 119, 3) := by decide +kernel
theorem dX4_digest_8 : decode cX4_digest 8 = .ok (.lstore_n 1, 1) := by decide +kernel
theorem dX4_digest_9 : decode cX4_digest 9 = .ok (.iconst 0, 1) := by decide +kernel
theorem dX4_digest_10 : decode cX4_digest 10 = .ok (.istore_n 3, 1) := by decide +kernel
theorem dX4_digest_11 : decode cX4_digest 11 = .ok (.iload_n 3, 1) := by decide +kernel
theorem dX4_digest_12 : decode cX4_digest 12 = .ok (.bipush 6, 2) := by decide +kernel
theorem dX4_digest_14 : decode cX4_digest 14 = .ok (.if_icmp .ge 22, 3) := by decide +kernel
theorem dX4_digest_17 : decode cX4_digest 17 = .ok (.lload_n 1, 1) := by decide +kernel
theorem dX4_digest_18 : decode cX4_digest 18 = .ok (.ldc2_w 121, 3) := by decide +kernel
theorem dX4_digest_21 : decode cX4_digest 21 = .ok (.lmul, 1) := by decide +kernel
theorem dX4_digest_22 : decode cX4_digest 22 = .ok (.aload_n 0, 1) := by decide +kernel
theorem dX4_digest_23 : decode cX4_digest 23 = .ok (.iload_n 3, 1) := by decide +kernel
theorem dX4_digest_24 : decode cX4_digest 24 = .ok (.invokevirtual 116, 3) := by decide +kernel
theorem dX4_digest_27 : decode cX4_digest 27 = .ok (.i2l, 1) := by decide +kernel
theorem dX4_digest_28 : decode cX4_digest 28 = .ok (.ladd, 1) := by decide +kernel
theorem dX4_digest_29 : decode cX4_digest 29 = .ok (.lstore_n 1, 1) := by decide +kernel
theorem dX4_digest_30 : decode cX4_digest 30 = .ok (.iinc 3 1, 3) := by decide +kernel
theorem dX4_digest_33 : decode cX4_digest 33 = .ok (.goto (-22), 3) := by decide +kernel
theorem dX4_digest_36 : decode cX4_digest 36 = .ok (.iconst 0, 1) := by decide +kernel
theorem dX4_digest_37 : decode cX4_digest 37 = .ok (.istore_n 3, 1) := by decide +kernel
theorem dX4_digest_38 : decode cX4_digest 38 = .ok (.iload_n 3, 1) := by decide +kernel
theorem dX4_digest_39 : decode cX4_digest 39 = .ok (.aload_n 0, 1) := by decide +kernel
theorem dX4_digest_40 : decode cX4_digest 40 = .ok (.getfield 23, 3) := by decide +kernel
theorem dX4_digest_43 : decode cX4_digest 43 = .ok (.if_icmp .ge 95, 3) := by decide +kernel
theorem dX4_digest_46 : decode cX4_digest 46 = .ok (.aload_n 0, 1) := by decide +kernel
theorem dX4_digest_47 : decode cX4_digest 47 = .ok (.aload_n 0, 1) := by decide +kernel
theorem dX4_digest_48 : decode cX4_digest 48 = .ok (.getfield 13, 3) := by decide +kernel
theorem dX4_digest_51 : decode cX4_digest 51 = .ok (.iload_n 3, 1) := by decide +kernel
theorem dX4_digest_52 : decode cX4_digest 52 = .ok (.iaload, 1) := by decide +kernel
theorem dX4_digest_53 : decode cX4_digest 53 = .ok (.invokevirtual 65, 3) := by decide +kernel
theorem dX4_digest_56 : decode cX4_digest 56 = .ok (.astore 4, 2) := by decide +kernel
theorem dX4_digest_58 : decode cX4_digest 58 = .ok (.iconst 0, 1) := by decide +kernel
theorem dX4_digest_59 : decode cX4_digest 59 = .ok (.istore 5, 2) := by decide +kernel
theorem dX4_digest_61 : decode cX4_digest 61 = .ok (.iload 5, 2) := by decide +kernel
theorem dX4_digest_63 : decode cX4_digest 63 = .ok (.bipush 8, 2) := by decide +kernel
theorem dX4_digest_65 : decode cX4_digest 65 = .ok (.if_icmp .ge 25, 3) := by decide +kernel
theorem dX4_digest_68 : decode cX4_digest 68 = .ok (.lload_n 1, 1) := by decide +kernel
theorem dX4_digest_69 : decode cX4_digest 69 = .ok (.ldc2_w 121, 3) := by decide +kernel
theorem dX4_digest_72 : decode cX4_digest 72 = .ok (.lmul, 1) := by decide +kernel
theorem dX4_digest_73 : decode cX4_digest 73 = .ok (.aload_n 0, 1) := by decide +kernel
theorem dX4_digest_74 : decode cX4_digest 74 = .ok (.aload 4, 2) := by decide +kernel
theorem dX4_digest_76 : decode cX4_digest 76 = .ok (.iload 5, 2) := by decide +kernel
theorem dX4_digest_78 : decode cX4_digest 78 = .ok (.invokevirtual 109, 3) := by decide +kernel
theorem dX4_digest_81 : decode cX4_digest 81 = .ok (.i2l, 1) := by decide +kernel
theorem dX4_digest_82 : decode cX4_digest 82 = .ok (.ladd, 1) := by decide +kernel
theorem dX4_digest_83 : decode cX4_digest 83 = .ok (.lstore_n 1, 1) := by decide +kernel
theorem dX4_digest_84 : decode cX4_digest 84 = .ok (.iinc 5 1, 3) := by decide +kernel
theorem dX4_digest_87 : decode cX4_digest 87 = .ok (.goto (-26), 3) := by decide +kernel
theorem dX4_digest_90 : decode cX4_digest 90 = .ok (.aload 4, 2) := by decide +kernel
theorem dX4_digest_92 : decode cX4_digest 92 = .ok (.astore 5, 2) := by decide +kernel
theorem dX4_digest_94 : decode cX4_digest 94 = .ok (.aload 5, 2) := by decide +kernel
theorem dX4_digest_96 : decode cX4_digest 96 = .ok (.arraylength, 1) := by decide +kernel
theorem dX4_digest_97 : decode cX4_digest 97 = .ok (.istore 6, 2) := by decide +kernel
theorem dX4_digest_99 : decode cX4_digest 99 = .ok (.iconst 0, 1) := by decide +kernel
theorem dX4_digest_100 : decode cX4_digest 100 = .ok (.istore 7, 2) := by decide +kernel
theorem dX4_digest_102 : decode cX4_digest 102 = .ok (.iload 7, 2) := by decide +kernel
theorem dX4_digest_104 : decode cX4_digest 104 = .ok (.iload 6, 2) := by decide +kernel
theorem dX4_digest_106 : decode cX4_digest 106 = .ok (.if_icmp .ge 26, 3) := by decide +kernel
theorem dX4_digest_109 : decode cX4_digest 109 = .ok (.aload 5, 2) := by decide +kernel
theorem dX4_digest_111 : decode cX4_digest 111 = .ok (.iload 7, 2) := by decide +kernel
theorem dX4_digest_113 : decode cX4_digest 113 = .ok (.iaload, 1) := by decide +kernel
theorem dX4_digest_114 : decode cX4_digest 114 = .ok (.istore 8, 2) := by decide +kernel
theorem dX4_digest_116 : decode cX4_digest 116 = .ok (.lload_n 1, 1) := by decide +kernel
theorem dX4_digest_117 : decode cX4_digest 117 = .ok (.ldc2_w 121, 3) := by decide +kernel
theorem dX4_digest_120 : decode cX4_digest 120 = .ok (.lmul, 1) := by decide +kernel
theorem dX4_digest_121 : decode cX4_digest 121 = .ok (.iload 8, 2) := by decide +kernel
theorem dX4_digest_123 : decode cX4_digest 123 = .ok (.i2l, 1) := by decide +kernel
theorem dX4_digest_124 : decode cX4_digest 124 = .ok (.ladd, 1) := by decide +kernel
theorem dX4_digest_125 : decode cX4_digest 125 = .ok (.lstore_n 1, 1) := by decide +kernel
theorem dX4_digest_126 : decode cX4_digest 126 = .ok (.iinc 7 1, 3) := by decide +kernel
theorem dX4_digest_129 : decode cX4_digest 129 = .ok (.goto (-27), 3) := by decide +kernel
theorem dX4_digest_132 : decode cX4_digest 132 = .ok (.iinc 3 1, 3) := by decide +kernel
theorem dX4_digest_135 : decode cX4_digest 135 = .ok (.goto (-97), 3) := by decide +kernel
theorem dX4_digest_138 : decode cX4_digest 138 = .ok (.iconst 0, 1) := by decide +kernel
theorem dX4_digest_139 : decode cX4_digest 139 = .ok (.istore_n 3, 1) := by decide +kernel
theorem dX4_digest_140 : decode cX4_digest 140 = .ok (.iload_n 3, 1) := by decide +kernel
theorem dX4_digest_141 : decode cX4_digest 141 = .ok (.aload_n 0, 1) := by decide +kernel
theorem dX4_digest_142 : decode cX4_digest 142 = .ok (.getfield 48, 3) := by decide +kernel
theorem dX4_digest_145 : decode cX4_digest 145 = .ok (.if_icmp .ge 23, 3) := by decide +kernel
theorem dX4_digest_148 : decode cX4_digest 148 = .ok (.lload_n 1, 1) := by decide +kernel
theorem dX4_digest_149 : decode cX4_digest 149 = .ok (.ldc2_w 121, 3) := by decide +kernel
theorem dX4_digest_152 : decode cX4_digest 152 = .ok (.lmul, 1) := by decide +kernel
theorem dX4_digest_153 : decode cX4_digest 153 = .ok (.aload_n 0, 1) := by decide +kernel
theorem dX4_digest_154 : decode cX4_digest 154 = .ok (.getfield 17, 3) := by decide +kernel
theorem dX4_digest_157 : decode cX4_digest 157 = .ok (.iload_n 3, 1) := by decide +kernel
theorem dX4_digest_158 : decode cX4_digest 158 = .ok (.iaload, 1) := by decide +kernel
theorem dX4_digest_159 : decode cX4_digest 159 = .ok (.i2l, 1) := by decide +kernel
theorem dX4_digest_160 : decode cX4_digest 160 = .ok (.ladd, 1) := by decide +kernel
theorem dX4_digest_161 : decode cX4_digest 161 = .ok (.lstore_n 1, 1) := by decide +kernel
theorem dX4_digest_162 : decode cX4_digest 162 = .ok (.iinc 3 1, 3) := by decide +kernel
theorem dX4_digest_165 : decode cX4_digest 165 = .ok (.goto (-25), 3) := by decide +kernel
theorem dX4_digest_168 : decode cX4_digest 168 = .ok (.lload_n 1, 1) := by decide +kernel
theorem dX4_digest_169 : decode cX4_digest 169 = .ok (.lreturn, 1) := by decide +kernel
theorem dJ9_max_7cf53_0 : decode cJ9_max_7cf53 0 = .ok (.iload_n 0, 1) := by decide +kernel
theorem dJ9_max_7cf53_1 : decode cJ9_max_7cf53 1 = .ok (.iload_n 1, 1) := by decide +kernel
theorem dJ9_max_7cf53_2 : decode cJ9_max_7cf53 2 = .ok (.if_icmp .lt 7, 3) := by decide +kernel
theorem dJ9_max_7cf53_5 : decode cJ9_max_7cf53 5 = .ok (.iload_n 0, 1) := by decide +kernel
theorem dJ9_max_7cf53_6 : decode cJ9_max_7cf53 6 = .ok (.goto 4, 3) := by decide +kernel
theorem dJ9_max_7cf53_9 : decode cJ9_max_7cf53 9 = .ok (.iload_n 1, 1) := by decide +kernel
theorem dJ9_max_7cf53_10 : decode cJ9_max_7cf53 10 = .ok (.ireturn, 1) := by decide +kernel
set_option maxRecDepth 20000 in
theorem ggL_setBells_X3_setBells : GoodIn wsL_setBells wsX3_setBells := goodIn_ca (goodIn_r _ [6, 7, 8, 9, 10, 11, 12, 13, 14, 15, 16, 17, 18, 19, 20, 21, 22, 23, 24, 25, 26, 27] (by decide +kernel) (by decide +kernel)) (goodIn_sub (fun _ h => List.mem_cons_of_mem _ (List.mem_append_right _ h)) (by decide +kernel))
set_option maxRecDepth 20000 in
theorem gL_setBells_X3_setBells : GoodIn wsL_setBells (wsV RL 7 RX3 yX3_setBells wsX3_setBells) := goodIn_app (goodIn_of _ (by decide +kernel)) ggL_setBells_X3_setBells
theorem dL_setBells_0 : decode cL_setBells 0 = .ok (.aload_n 2, 1) := by decide +kernel
theorem dL_setBells_1 : decode cL_setBells 1 = .ok (.iconst 0, 1) := by decide +kernel
theorem dL_setBells_2 : decode cL_setBells 2 = .ok (.aload_n 0, 1) := by decide +kernel
theorem dL_setBells_3 : decode cL_setBells 3 = .ok (.iload_n 1, 1) := by decide +kernel
theorem dL_setBells_4 : decode cL_setBells 4 = .ok (.invokevirtual 7, 3) := by decide +kernel
theorem dL_setBells_7 : decode cL_setBells 7 = .ok (.i2l, 1) := by decide +kernel
theorem dL_setBells_8 : decode cL_setBells 8 = .ok (.lastore, 1) := by decide +kernel
theorem dL_setBells_9 : decode cL_setBells 9 = .ok (.goto 6, 3) := by decide +kernel
theorem dL_setBells_12 : decode cL_setBells 12 = .ok (.astore_n 3, 1) := by decide +kernel
theorem dL_setBells_13 : decode cL_setBells 13 = .ok (.iconst 1, 1) := by decide +kernel
theorem dL_setBells_14 : decode cL_setBells 14 = .ok (.ireturn, 1) := by decide +kernel
theorem dL_setBells_15 : decode cL_setBells 15 = .ok (.iconst 0, 1) := by decide +kernel
theorem dL_setBells_16 : decode cL_setBells 16 = .ok (.ireturn, 1) := by decide +kernel
set_option maxRecDepth 20000 in
theorem ggL_write_X3_write : GoodIn wsL_write wsX3_write := goodIn_ca (goodIn_ca (goodIn_r _ [7, 8, 9, 10, 11, 12, 13, 6, 14, 15, 16, 17, 18, 19, 20, 21, 22, 23, 24, 25, 26, 27, 28, 29, 30, 31, 32, 33, 34, 35, 36, 37, 38, 39, 40, 41, 42, 43, 44, 45, 46, 47, 48, 49, 50] (by decide +kernel) (by decide +kernel)) (goodIn_sub (fun _ h => List.mem_cons_of_mem _ (List.mem_append_left _ (List.mem_append_right _ h))) (by decide +kernel))) (goodIn_sub (fun _ h => List.mem_cons_of_mem _ (List.mem_append_right _ h)) (by decide +kernel))
set_option maxRecDepth 20000 in
theorem gL_write_X3_write : GoodIn wsL_write (wsV RL 15 RX3 yX3_write wsX3_write) := goodIn_app (goodIn_of _ (by decide +kernel)) ggL_write_X3_write
theorem dL_write_0 : decode cL_write 0 = .ok (.aload_n 2, 1) := by decide +kernel
theorem dL_write_1 : decode cL_write 1 = .ok (.iconst 0, 1) := by decide +kernel
theorem dL_write_2 : decode cL_write 2 = .ok (.aload_n 0, 1) := by decide +kernel
theorem dL_write_3 : decode cL_write 3 = .ok (.iload_n 1, 1) := by decide +kernel
theorem dL_write_4 : decode cL_write 4 = .ok (.invokevirtual 15, 3) := by decide +kernel
theorem dL_write_7 : decode cL_write 7 = .ok (.i2l, 1) := by decide +kernel
theorem dL_write_8 : decode cL_write 8 = .ok (.lastore, 1) := by decide +kernel
theorem dL_write_9 : decode cL_write 9 = .ok (.goto 9, 3) := by decide +kernel
theorem dL_write_12 : decode cL_write 12 = .ok (.astore_n 3, 1) := by decide +kernel
theorem dL_write_13 : decode cL_write 13 = .ok (.iconst 1, 1) := by decide +kernel
theorem dL_write_14 : decode cL_write 14 = .ok (.ireturn, 1) := by decide +kernel
theorem dL_write_15 : decode cL_write 15 = .ok (.astore_n 3, 1) := by decide +kernel
theorem dL_write_16 : decode cL_write 16 = .ok (.iconst 2, 1) := by decide +kernel
theorem dL_write_17 : decode cL_write 17 = .ok (.ireturn, 1) := by decide +kernel
theorem dL_write_18 : decode cL_write 18 = .ok (.iconst 0, 1) := by decide +kernel
theorem dL_write_19 : decode cL_write 19 = .ok (.ireturn, 1) := by decide +kernel
set_option maxRecDepth 20000 in
theorem ggL_swap_X3_swap : GoodIn wsL_swap wsX3_swap := goodIn_ca (goodIn_r _ [6, 7, 8, 9, 10, 11, 12, 5, 13, 14, 15, 16, 17, 18, 19, 20, 21, 22, 23, 24, 25, 26, 27, 28, 29, 30, 31, 32, 33, 34, 35, 36, 37, 38, 39, 40, 41, 42, 43, 44, 45, 46, 47, 48] (by decide +kernel) (by decide +kernel)) (goodIn_sub (fun _ h => List.mem_cons_of_mem _ (List.mem_append_right _ h)) (by decide +kernel))
set_option maxRecDepth 20000 in
theorem gL_swap_X3_swap : GoodIn wsL_swap (wsV RL 22 RX3 yX3_swap wsX3_swap) := goodIn_app (goodIn_of _ (by decide +kernel)) ggL_swap_X3_swap
theorem dL_swap_0 : decode cL_swap 0 = .ok (.aload_n 3, 1) := by decide +kernel
theorem dL_swap_1 : decode cL_swap 1 = .ok (.iconst 0, 1) := by decide +kernel
theorem dL_swap_2 : decode cL_swap 2 = .ok (.aload_n 0, 1) := by decide +kernel
theorem dL_swap_3 : decode cL_swap 3 = .ok (.iload_n 1, 1) := by decide +kernel
theorem dL_swap_4 : decode cL_swap 4 = .ok (.iload_n 2, 1) := by decide +kernel
theorem dL_swap_5 : decode cL_swap 5 = .ok (.invokevirtual 22, 3) := by decide +kernel
theorem dL_swap_8 : decode cL_swap 8 = .ok (.i2l, 1) := by decide +kernel
theorem dL_swap_9 : decode cL_swap 9 = .ok (.lastore, 1) := by decide +kernel
theorem dL_swap_10 : decode cL_swap 10 = .ok (.goto 7, 3) := by decide +kernel
theorem dL_swap_13 : decode cL_swap 13 = .ok (.astore 4, 2) := by decide +kernel
theorem dL_swap_15 : decode cL_swap 15 = .ok (.iconst 1, 1) := by decide +kernel
theorem dL_swap_16 : decode cL_swap 16 = .ok (.ireturn, 1) := by decide +kernel
theorem dL_swap_17 : decode cL_swap 17 = .ok (.iconst 0, 1) := by decide +kernel
theorem dL_swap_18 : decode cL_swap 18 = .ok (.ireturn, 1) := by decide +kernel
set_option maxRecDepth 20000 in
theorem ggL_next_X3_next : GoodIn wsL_next wsX3_next := goodIn_ca (goodIn_r _ [6, 7, 8, 9, 10, 5, 11, 12, 13, 14, 15, 16, 17, 18, 19, 20, 21, 22, 23, 24, 25, 26, 27, 28, 29, 30, 31, 32, 33, 34, 35, 36, 37, 38, 39, 40, 41, 42, 43, 44, 45, 46, 47, 48, 49, 50, 51, 52, 53, 54, 55] (by decide +kernel) (by decide +kernel)) (goodIn_sub (fun _ h => List.mem_cons_of_mem _ (List.mem_append_right _ h)) (by decide +kernel))
set_option maxRecDepth 20000 in
theorem gL_next_X3_next : GoodIn wsL_next (wsV RL 26 RX3 yX3_next wsX3_next) := goodIn_app (goodIn_of _ (by decide +kernel)) ggL_next_X3_next
theorem dL_next_0 : decode cL_next 0 = .ok (.aload_n 2, 1) := by decide +kernel
theorem dL_next_1 : decode cL_next 1 = .ok (.iconst 0, 1) := by decide +kernel
theorem dL_next_2 : decode cL_next 2 = .ok (.aload_n 0, 1) := by decide +kernel
theorem dL_next_3 : decode cL_next 3 = .ok (.iload_n 1, 1) := by decide +kernel
theorem dL_next_4 : decode cL_next 4 = .ok (.invokevirtual 26, 3) := by decide +kernel
theorem dL_next_7 : decode cL_next 7 = .ok (.i2l, 1) := by decide +kernel
theorem dL_next_8 : decode cL_next 8 = .ok (.lastore, 1) := by decide +kernel
theorem dL_next_9 : decode cL_next 9 = .ok (.goto 6, 3) := by decide +kernel
theorem dL_next_12 : decode cL_next 12 = .ok (.astore_n 3, 1) := by decide +kernel
theorem dL_next_13 : decode cL_next 13 = .ok (.iconst 1, 1) := by decide +kernel
theorem dL_next_14 : decode cL_next 14 = .ok (.ireturn, 1) := by decide +kernel
theorem dL_next_15 : decode cL_next 15 = .ok (.iconst 0, 1) := by decide +kernel
theorem dL_next_16 : decode cL_next 16 = .ok (.ireturn, 1) := by decide +kernel
set_option maxRecDepth 20000 in
theorem ggL_behind_X3_behind : GoodIn wsL_behind wsX3_behind := goodIn_ca (goodIn_ca (goodIn_r _ [7, 8, 9, 10, 11, 6, 12, 13, 14, 15, 16, 17, 18, 19, 20, 21, 22, 23, 24, 25, 26, 27, 28, 29, 30, 31, 32, 33, 34, 35, 36, 37, 38, 39, 40, 41, 42, 43, 44, 45, 46] (by decide +kernel) (by decide +kernel)) (goodIn_sub (fun _ h => List.mem_cons_of_mem _ (List.mem_append_left _ (List.mem_append_right _ h))) (by decide +kernel))) (goodIn_sub (fun _ h => List.mem_cons_of_mem _ (List.mem_append_right _ h)) (by decide +kernel))
set_option maxRecDepth 20000 in
theorem gL_behind_X3_behind : GoodIn wsL_behind (wsV RL 29 RX3 yX3_behind wsX3_behind) := goodIn_app (goodIn_of _ (by decide +kernel)) ggL_behind_X3_behind
theorem dL_behind_0 : decode cL_behind 0 = .ok (.aload_n 3, 1) := by decide +kernel
theorem dL_behind_1 : decode cL_behind 1 = .ok (.iconst 0, 1) := by decide +kernel
theorem dL_behind_2 : decode cL_behind 2 = .ok (.aload_n 0, 1) := by decide +kernel
theorem dL_behind_3 : decode cL_behind 3 = .ok (.iload_n 1, 1) := by decide +kernel
theorem dL_behind_4 : decode cL_behind 4 = .ok (.iload_n 2, 1) := by decide +kernel
theorem dL_behind_5 : decode cL_behind 5 = .ok (.invokevirtual 29, 3) := by decide +kernel
theorem dL_behind_8 : decode cL_behind 8 = .ok (.i2l, 1) := by decide +kernel
theorem dL_behind_9 : decode cL_behind 9 = .ok (.lastore, 1) := by decide +kernel
theorem dL_behind_10 : decode cL_behind 10 = .ok (.goto 11, 3) := by decide +kernel
theorem dL_behind_13 : decode cL_behind 13 = .ok (.astore 4, 2) := by decide +kernel
theorem dL_behind_15 : decode cL_behind 15 = .ok (.iconst 1, 1) := by decide +kernel
theorem dL_behind_16 : decode cL_behind 16 = .ok (.ireturn, 1) := by decide +kernel
theorem dL_behind_17 : decode cL_behind 17 = .ok (.astore 4, 2) := by decide +kernel
theorem dL_behind_19 : decode cL_behind 19 = .ok (.iconst 2, 1) := by decide +kernel
theorem dL_behind_20 : decode cL_behind 20 = .ok (.ireturn, 1) := by decide +kernel
theorem dL_behind_21 : decode cL_behind 21 = .ok (.iconst 0, 1) := by decide +kernel
theorem dL_behind_22 : decode cL_behind 22 = .ok (.ireturn, 1) := by decide +kernel
set_option maxRecDepth 20000 in
theorem ggL_back_X3_back : GoodIn wsL_back wsX3_back := goodIn_ca (goodIn_r _ [6, 7, 8, 9, 10, 5, 11, 12, 13, 14, 15, 16, 17, 18, 19, 20, 21, 22, 23, 24, 25, 26, 27, 28, 29, 30, 31, 32, 33, 34, 35, 36, 37, 38, 39, 40, 41, 42, 43, 44, 45, 46, 47, 48, 49, 50, 51, 52] (by decide +kernel) (by decide +kernel)) (goodIn_sub (fun _ h => List.mem_cons_of_mem _ (List.mem_append_right _ h)) (by decide +kernel))
set_option maxRecDepth 20000 in
theorem gL_back_X3_back : GoodIn wsL_back (wsV RL 32 RX3 yX3_back wsX3_back) := goodIn_app (goodIn_of _ (by decide +kernel)) ggL_back_X3_back
theorem dL_back_0 : decode cL_back 0 = .ok (.aload_n 2, 1) := by decide +kernel
theorem dL_back_1 : decode cL_back 1 = .ok (.iconst 0, 1) := by decide +kernel
theorem dL_back_2 : decode cL_back 2 = .ok (.aload_n 0, 1) := by decide +kernel
theorem dL_back_3 : decode cL_back 3 = .ok (.iload_n 1, 1) := by decide +kernel
theorem dL_back_4 : decode cL_back 4 = .ok (.invokevirtual 32, 3) := by decide +kernel
theorem dL_back_7 : decode cL_back 7 = .ok (.i2l, 1) := by decide +kernel
theorem dL_back_8 : decode cL_back 8 = .ok (.lastore, 1) := by decide +kernel
theorem dL_back_9 : decode cL_back 9 = .ok (.goto 6, 3) := by decide +kernel
theorem dL_back_12 : decode cL_back 12 = .ok (.astore_n 3, 1) := by decide +kernel
theorem dL_back_13 : decode cL_back 13 = .ok (.iconst 1, 1) := by decide +kernel
theorem dL_back_14 : decode cL_back 14 = .ok (.ireturn, 1) := by decide +kernel
theorem dL_back_15 : decode cL_back 15 = .ok (.iconst 0, 1) := by decide +kernel
theorem dL_back_16 : decode cL_back 16 = .ok (.ireturn, 1) := by decide +kernel
set_option maxRecDepth 20000 in
theorem ggL_repeat_X3_repeat : GoodIn wsL_repeat wsX3_repeat := goodIn_ca (goodIn_ca (goodIn_r _ [7, 8, 9, 10, 11, 12, 13, 6, 14, 15, 16, 17, 18, 19, 20, 21, 22, 23, 24, 25, 26, 27, 28, 29, 30, 31, 32, 33, 34, 35, 36, 37, 38, 39, 40, 41, 42, 43, 44, 45, 46, 47, 48, 49, 50, 51, 52, 53, 54, 55, 56, 57, 58, 59, 60, 61, 62, 63] (by decide +kernel) (by decide +kernel)) (goodIn_sub (fun _ h => List.mem_cons_of_mem _ (List.mem_append_left _ (List.mem_append_right _ h))) (by decide +kernel))) (goodIn_sub (fun _ h => List.mem_cons_of_mem _ (List.mem_append_right _ h)) (by decide +kernel))
set_option maxRecDepth 20000 in
theorem gL_repeat_X3_repeat : GoodIn wsL_repeat (wsV RL 35 RX3 yX3_repeat wsX3_repeat) := goodIn_app (goodIn_of _ (by decide +kernel)) ggL_repeat_X3_repeat
theorem dL_repeat_0 : decode cL_repeat 0 = .ok (.aload_n 3, 1) := by decide +kernel
theorem dL_repeat_1 : decode cL_repeat 1 = .ok (.iconst 0, 1) := by decide +kernel
theorem dL_repeat_2 : decode cL_repeat 2 = .ok (.aload_n 0, 1) := by decide +kernel
theorem dL_repeat_3 : decode cL_repeat 3 = .ok (.iload_n 1, 1) := by decide +kernel
theorem dL_repeat_4 : decode cL_repeat 4 = .ok (.iload_n 2, 1) := by decide +kernel
theorem dL_repeat_5 : decode cL_repeat 5 = .ok (.invokevirtual 35, 3) := by decide +kernel
theorem dL_repeat_8 : decode cL_repeat 8 = .ok (.i2l, 1) := by decide +kernel
theorem dL_repeat_9 : decode cL_repeat 9 = .ok (.lastore, 1) := by decide +kernel
theorem dL_repeat_10 : decode cL_repeat 10 = .ok (.goto 11, 3) := by decide +kernel
theorem dL_repeat_13 : decode cL_repeat 13 = .ok (.astore 4, 2) := by decide +kernel
theorem dL_repeat_15 : decode cL_repeat 15 = .ok (.iconst 1, 1) := by decide +kernel
theorem dL_repeat_16 : decode cL_repeat 16 = .ok (.ireturn, 1) := by decide +kernel
theorem dL_repeat_17 : decode cL_repeat 17 = .ok (.astore 4, 2) := by decide +kernel
theorem dL_repeat_19 : decode cL_repeat 19 = .ok (.iconst 2, 1) := by decide +kernel
theorem dL_repeat_20 : decode cL_repeat 20 = .ok (.ireturn, 1) := by decide +kernel
theorem dL_repeat_21 : decode cL_repeat 21 = .ok (.iconst 0, 1) := by decide +kernel
theorem dL_repeat_22 : decode cL_repeat 22 = .ok (.ireturn, 1) := by decide +kernel
set_option maxRecDepth 20000 in
theorem ggL_step_X3_step : GoodIn wsL_step wsX3_step := goodIn_ca (goodIn_ca (goodIn_r _ [7, 8, 9, 10, 11, 12, 13, 14, 15, 16, 17, 18, 19, 20, 21, 22, 23, 24, 25, 26, 27, 28, 29, 30, 31, 32, 33, 34, 35, 36, 37, 38, 39, 40] (by decide +kernel) (by decide +kernel)) (goodIn_sub (fun _ h => List.mem_cons_of_mem _ (List.mem_append_left _ (List.mem_append_right _ h))) (by decide +kernel))) (goodIn_sub (fun _ h => List.mem_cons_of_mem _ (List.mem_append_right _ h)) (by decide +kernel))
set_option maxRecDepth 20000 in
theorem gL_step_X3_step : GoodIn wsL_step (wsV RL 38 RX3 yX3_step wsX3_step) := goodIn_app (goodIn_of _ (by decide +kernel)) ggL_step_X3_step
theorem dL_step_0 : decode cL_step 0 = .ok (.aload_n 2, 1) := by decide +kernel
theorem dL_step_1 : decode cL_step 1 = .ok (.iconst 0, 1) := by decide +kernel
theorem dL_step_2 : decode cL_step 2 = .ok (.aload_n 0, 1) := by decide +kernel
theorem dL_step_3 : decode cL_step 3 = .ok (.iload_n 1, 1) := by decide +kernel
theorem dL_step_4 : decode cL_step 4 = .ok (.invokevirtual 38, 3) := by decide +kernel
theorem dL_step_7 : decode cL_step 7 = .ok (.i2l, 1) := by decide +kernel
theorem dL_step_8 : decode cL_step 8 = .ok (.lastore, 1) := by decide +kernel
theorem dL_step_9 : decode cL_step 9 = .ok (.goto 9, 3) := by decide +kernel
theorem dL_step_12 : decode cL_step 12 = .ok (.astore_n 3, 1) := by decide +kernel
theorem dL_step_13 : decode cL_step 13 = .ok (.iconst 1, 1) := by decide +kernel
theorem dL_step_14 : decode cL_step 14 = .ok (.ireturn, 1) := by decide +kernel
theorem dL_step_15 : decode cL_step 15 = .ok (.astore_n 3, 1) := by decide +kernel
theorem dL_step_16 : decode cL_step 16 = .ok (.iconst 2, 1) := by decide +kernel
theorem dL_step_17 : decode cL_step 17 = .ok (.ireturn, 1) := by decide +kernel
theorem dL_step_18 : decode cL_step 18 = .ok (.iconst 0, 1) := by decide +kernel
theorem dL_step_19 : decode cL_step 19 = .ok (.ireturn, 1) := by decide +kernel
set_option maxRecDepth 20000 in
theorem ggL_ring_X3_ring : GoodIn wsL_ring wsX3_ring := goodIn_ca (goodIn_ca (goodIn_r _ [7, 8, 9, 10, 11, 12, 6, 13, 14, 15, 16, 17, 18, 19, 20, 21, 22, 23, 24, 25, 26, 27, 28, 29, 30, 31, 32, 33, 34, 35, 36, 37, 38, 39, 40, 41, 42, 43, 44, 45, 46, 47, 48, 49, 50, 51, 52, 53, 54, 55, 56, 57, 58, 59, 60, 61, 62, 63, 64, 65, 66, 67, 68, 69, 70, 71, 72, 73, 74, 75, 76, 77, 78, 79] (by decide +kernel) (by decide +kernel)) (goodIn_sub (fun _ h => List.mem_cons_of_mem _ (List.mem_append_left _ (List.mem_append_right _ h))) (by decide +kernel))) (goodIn_sub (fun _ h => List.mem_cons_of_mem _ (List.mem_append_right _ h)) (by decide +kernel))
set_option maxRecDepth 20000 in
theorem gL_ring_X3_ring : GoodIn wsL_ring (wsV RL 41 RX3 yX3_ring wsX3_ring) := goodIn_app (goodIn_of _ (by decide +kernel)) ggL_ring_X3_ring
theorem dL_ring_0 : decode cL_ring 0 = .ok (.aload_n 3, 1) := by decide +kernel
theorem dL_ring_1 : decode cL_ring 1 = .ok (.iconst 0, 1) := by decide +kernel
theorem dL_ring_2 : decode cL_ring 2 = .ok (.aload_n 0, 1) := by decide +kernel
theorem dL_ring_3 : decode cL_ring 3 = .ok (.iload_n 1, 1) := by decide +kernel
theorem dL_ring_4 : decode cL_ring 4 = .ok (.iload_n 2, 1) := by decide +kernel
theorem dL_ring_5 : decode cL_ring 5 = .ok (.invokevirtual 41, 3) := by decide +kernel
theorem dL_ring_8 : decode cL_ring 8 = .ok (.i2l, 1) := by decide +kernel
theorem dL_ring_9 : decode cL_ring 9 = .ok (.lastore, 1) := by decide +kernel
theorem dL_ring_10 : decode cL_ring 10 = .ok (.goto 11, 3) := by decide +kernel
theorem dL_ring_13 : decode cL_ring 13 = .ok (.astore 4, 2) := by decide +kernel
theorem dL_ring_15 : decode cL_ring 15 = .ok (.iconst 1, 1) := by decide +kernel
theorem dL_ring_16 : decode cL_ring 16 = .ok (.ireturn, 1) := by decide +kernel
theorem dL_ring_17 : decode cL_ring 17 = .ok (.astore 4, 2) := by decide +kernel
theorem dL_ring_19 : decode cL_ring 19 = .ok (.iconst 2, 1) := by decide +kernel
theorem dL_ring_20 : decode cL_ring 20 = .ok (.ireturn, 1) := by decide +kernel
theorem dL_ring_21 : decode cL_ring 21 = .ok (.iconst 0, 1) := by decide +kernel
theorem dL_ring_22 : decode cL_ring 22 = .ok (.ireturn, 1) := by decide +kernel
set_option maxRecDepth 20000 in
theorem ggL_bell_X3_bell : GoodIn wsL_bell wsX3_bell := goodIn_ca (goodIn_r _ [6, 7, 8, 9, 5, 10, 11, 12, 13, 14, 15, 16, 17, 18, 19, 20, 21, 22, 23, 24, 25, 26, 27, 28, 29, 30, 31, 32, 33, 34, 35] (by decide +kernel) (by decide +kernel)) (goodIn_sub (fun _ h => List.mem_cons_of_mem _ (List.mem_append_right _ h)) (by decide +kernel))
set_option maxRecDepth 20000 in
theorem gL_bell_X3_bell : GoodIn wsL_bell (wsV RL 44 RX3 yX3_bell wsX3_bell) := goodIn_app (goodIn_of _ (by decide +kernel)) ggL_bell_X3_bell
theorem dL_bell_0 : decode cL_bell 0 = .ok (.aload_n 3, 1) := by decide +kernel
theorem dL_bell_1 : decode cL_bell 1 = .ok (.iconst 0, 1) := by decide +kernel
theorem dL_bell_2 : decode cL_bell 2 = .ok (.aload_n 0, 1) := by decide +kernel
theorem dL_bell_3 : decode cL_bell 3 = .ok (.iload_n 1, 1) := by decide +kernel
theorem dL_bell_4 : decode cL_bell 4 = .ok (.iload_n 2, 1) := by decide +kernel
theorem dL_bell_5 : decode cL_bell 5 = .ok (.invokevirtual 44, 3) := by decide +kernel
theorem dL_bell_8 : decode cL_bell 8 = .ok (.i2l, 1) := by decide +kernel
theorem dL_bell_9 : decode cL_bell 9 = .ok (.lastore, 1) := by decide +kernel
theorem dL_bell_10 : decode cL_bell 10 = .ok (.goto 7, 3) := by decide +kernel
theorem dL_bell_13 : decode cL_bell 13 = .ok (.astore 4, 2) := by decide +kernel
theorem dL_bell_15 : decode cL_bell 15 = .ok (.iconst 1, 1) := by decide +kernel
theorem dL_bell_16 : decode cL_bell 16 = .ok (.ireturn, 1) := by decide +kernel
theorem dL_bell_17 : decode cL_bell 17 = .ok (.iconst 0, 1) := by decide +kernel
theorem dL_bell_18 : decode cL_bell 18 = .ok (.ireturn, 1) := by decide +kernel
set_option maxRecDepth 20000 in
theorem ggL_told_X3_told : GoodIn wsL_told wsX3_told := goodIn_ca (goodIn_r _ [6, 7, 8, 9, 10, 11, 5, 12, 13, 14, 15, 16, 17, 18, 19, 20, 21, 22, 23, 24, 25, 26, 27, 28, 29, 30, 31, 32, 33, 34, 35, 36, 37, 38, 39, 40, 41, 42, 43, 44, 45, 46, 47, 48, 49, 50, 51, 52, 53, 54, 55, 56, 57, 58, 59, 60, 61, 62, 63, 64, 65, 66, 67, 68, 69, 70, 71, 72, 73, 74, 75, 76, 77, 78] (by decide +kernel) (by decide +kernel)) (goodIn_sub (fun _ h => List.mem_cons_of_mem _ (List.mem_append_right _ h)) (by decide +kernel))
set_option maxRecDepth 20000 in
theorem gL_told_X3_told : GoodIn wsL_told (wsV RL 47 RX3 yX3_told wsX3_told) := goodIn_app (goodIn_of _ (by decide +kernel)) ggL_told_X3_told
theorem dL_told_0 : decode cL_told 0 = .ok (.aload_n 3, 1) := by decide +kernel
theorem dL_told_1 : decode cL_told 1 = .ok (.iconst 0, 1) := by decide +kernel
theorem dL_told_2 : decode cL_told 2 = .ok (.aload_n 0, 1) := by decide +kernel
theorem dL_told_3 : decode cL_told 3 = .ok (.iload_n 1, 1) := by decide +kernel
theorem dL_told_4 : decode cL_told 4 = .ok (.iload_n 2, 1) := by decide +kernel
theorem dL_told_5 : decode cL_told 5 = .ok (.invokevirtual 47, 3) := by decide +kernel
theorem dL_told_8 : decode cL_told 8 = .ok (.i2l, 1) := by decide +kernel
theorem dL_told_9 : decode cL_told 9 = .ok (.lastore, 1) := by decide +kernel
theorem dL_told_10 : decode cL_told 10 = .ok (.goto 7, 3) := by decide +kernel
theorem dL_told_13 : decode cL_told 13 = .ok (.astore 4, 2) := by decide +kernel
theorem dL_told_15 : decode cL_told 15 = .ok (.iconst 1, 1) := by decide +kernel
theorem dL_told_16 : decode cL_told 16 = .ok (.ireturn, 1) := by decide +kernel
theorem dL_told_17 : decode cL_told 17 = .ok (.iconst 0, 1) := by decide +kernel
theorem dL_told_18 : decode cL_told 18 = .ok (.ireturn, 1) := by decide +kernel
set_option maxRecDepth 20000 in
theorem ggL_round_X3_round : GoodIn wsL_round wsX3_round := goodIn_ca (goodIn_r _ [6, 7, 8, 9, 5, 10, 11, 12, 13, 14, 15, 16, 17, 18, 19, 20, 21, 22, 23, 24, 25, 26, 27, 28, 29, 30, 31, 32, 33, 34, 35, 36, 37, 38, 39, 40] (by decide +kernel) (by decide +kernel)) (goodIn_sub (fun _ h => List.mem_cons_of_mem _ (List.mem_append_right _ h)) (by decide +kernel))
set_option maxRecDepth 20000 in
theorem gL_round_X3_round : GoodIn wsL_round (wsV RL 50 RX3 yX3_round wsX3_round) := goodIn_app (goodIn_of _ (by decide +kernel)) ggL_round_X3_round
theorem dL_round_0 : decode cL_round 0 = .ok (.aload_n 3, 1) := by decide +kernel
theorem dL_round_1 : decode cL_round 1 = .ok (.iconst 0, 1) := by decide +kernel
theorem dL_round_2 : decode cL_round 2 = .ok (.aload_n 0, 1) := by decide +kernel
theorem dL_round_3 : decode cL_round 3 = .ok (.iload_n 1, 1) := by decide +kernel
theorem dL_round_4 : decode cL_round 4 = .ok (.iload_n 2, 1) := by decide +kernel
theorem dL_round_5 : decode cL_round 5 = .ok (.invokevirtual 50, 3) := by decide +kernel
theorem dL_round_8 : decode cL_round 8 = .ok (.i2l, 1) := by decide +kernel
theorem dL_round_9 : decode cL_round 9 = .ok (.lastore, 1) := by decide +kernel
theorem dL_round_10 : decode cL_round 10 = .ok (.goto 7, 3) := by decide +kernel
theorem dL_round_13 : decode cL_round 13 = .ok (.astore 4, 2) := by decide +kernel
theorem dL_round_15 : decode cL_round 15 = .ok (.iconst 1, 1) := by decide +kernel
theorem dL_round_16 : decode cL_round 16 = .ok (.ireturn, 1) := by decide +kernel
theorem dL_round_17 : decode cL_round 17 = .ok (.iconst 0, 1) := by decide +kernel
theorem dL_round_18 : decode cL_round 18 = .ok (.ireturn, 1) := by decide +kernel
set_option maxRecDepth 20000 in
theorem ggL_apart_X3_apart : GoodIn wsL_apart wsX3_apart := goodIn_ca (goodIn_r _ [6, 7, 8, 9, 10, 5, 11, 12, 13, 14, 15, 16, 17, 18, 19, 20, 21, 22, 23, 24, 25, 26, 27, 28, 29, 30, 31, 32, 33, 34, 35, 36, 37] (by decide +kernel) (by decide +kernel)) (goodIn_sub (fun _ h => List.mem_cons_of_mem _ (List.mem_append_right _ h)) (by decide +kernel))
set_option maxRecDepth 20000 in
theorem gL_apart_X3_apart : GoodIn wsL_apart (wsV RL 53 RX3 yX3_apart wsX3_apart) := goodIn_app (goodIn_of _ (by decide +kernel)) ggL_apart_X3_apart
theorem dL_apart_0 : decode cL_apart 0 = .ok (.aload_n 3, 1) := by decide +kernel
theorem dL_apart_1 : decode cL_apart 1 = .ok (.iconst 0, 1) := by decide +kernel
theorem dL_apart_2 : decode cL_apart 2 = .ok (.aload_n 0, 1) := by decide +kernel
theorem dL_apart_3 : decode cL_apart 3 = .ok (.iload_n 1, 1) := by decide +kernel
theorem dL_apart_4 : decode cL_apart 4 = .ok (.iload_n 2, 1) := by decide +kernel
theorem dL_apart_5 : decode cL_apart 5 = .ok (.invokevirtual 53, 3) := by decide +kernel
theorem dL_apart_8 : decode cL_apart 8 = .ok (.i2l, 1) := by decide +kernel
theorem dL_apart_9 : decode cL_apart 9 = .ok (.lastore, 1) := by decide +kernel
theorem dL_apart_10 : decode cL_apart 10 = .ok (.goto 7, 3) := by decide +kernel
theorem dL_apart_13 : decode cL_apart 13 = .ok (.astore 4, 2) := by decide +kernel
theorem dL_apart_15 : decode cL_apart 15 = .ok (.iconst 1, 1) := by decide +kernel
theorem dL_apart_16 : decode cL_apart 16 = .ok (.ireturn, 1) := by decide +kernel
theorem dL_apart_17 : decode cL_apart 17 = .ok (.iconst 0, 1) := by decide +kernel
theorem dL_apart_18 : decode cL_apart 18 = .ok (.ireturn, 1) := by decide +kernel
set_option maxRecDepth 20000 in
theorem ggL_count_X3_count : GoodIn wsL_count wsX3_count := goodIn_ca (goodIn_r _ [6, 7, 8, 9, 10, 11, 12, 13, 14, 5, 15, 16, 17, 18, 19, 20, 21, 22, 23, 24, 25, 26, 27, 28, 29, 30, 31, 32, 33, 34, 35, 36, 37, 38, 39, 40, 41, 42, 43, 44, 45, 46, 47, 48, 49, 50, 51, 52, 53, 54, 55, 56, 57, 58, 59, 60, 61, 62, 63, 64, 65, 66, 67, 68, 69, 70, 71] (by decide +kernel) (by decide +kernel)) (goodIn_sub (fun _ h => List.mem_cons_of_mem _ (List.mem_append_right _ h)) (by decide +kernel))
set_option maxRecDepth 20000 in
theorem gL_count_X3_count : GoodIn wsL_count (wsV RL 56 RX3 yX3_count wsX3_count) := goodIn_app (goodIn_of _ (by decide +kernel)) ggL_count_X3_count
theorem dL_count_0 : decode cL_count 0 = .ok (.aload_n 2, 1) := by decide +kernel
theorem dL_count_1 : decode cL_count 1 = .ok (.iconst 0, 1) := by decide +kernel
theorem dL_count_2 : decode cL_count 2 = .ok (.aload_n 0, 1) := by decide +kernel
theorem dL_count_3 : decode cL_count 3 = .ok (.iload_n 1, 1) := by decide +kernel
theorem dL_count_4 : decode cL_count 4 = .ok (.invokevirtual 56, 3) := by decide +kernel
theorem dL_count_7 : decode cL_count 7 = .ok (.i2l, 1) := by decide +kernel
theorem dL_count_8 : decode cL_count 8 = .ok (.lastore, 1) := by decide +kernel
theorem dL_count_9 : decode cL_count 9 = .ok (.goto 6, 3) := by decide +kernel
theorem dL_count_12 : decode cL_count 12 = .ok (.astore_n 3, 1) := by decide +kernel
theorem dL_count_13 : decode cL_count 13 = .ok (.iconst 1, 1) := by decide +kernel
theorem dL_count_14 : decode cL_count 14 = .ok (.ireturn, 1) := by decide +kernel
theorem dL_count_15 : decode cL_count 15 = .ok (.iconst 0, 1) := by decide +kernel
theorem dL_count_16 : decode cL_count 16 = .ok (.ireturn, 1) := by decide +kernel
set_option maxRecDepth 20000 in
theorem ggL_kept_X3_kept : GoodIn wsL_kept wsX3_kept := goodIn_ca (goodIn_r _ [6, 7, 8, 9, 10, 11, 12, 13, 14, 15, 16, 17, 18, 19, 20, 21, 22, 23, 24, 25, 26, 27, 28, 29, 30] (by decide +kernel) (by decide +kernel)) (goodIn_sub (fun _ h => List.mem_cons_of_mem _ (List.mem_append_right _ h)) (by decide +kernel))
set_option maxRecDepth 20000 in
theorem gL_kept_X3_kept : GoodIn wsL_kept (wsV RL 59 RX3 yX3_kept wsX3_kept) := goodIn_app (goodIn_of _ (by decide +kernel)) ggL_kept_X3_kept
theorem dL_kept_0 : decode cL_kept 0 = .ok (.aload_n 2, 1) := by decide +kernel
theorem dL_kept_1 : decode cL_kept 1 = .ok (.iconst 0, 1) := by decide +kernel
theorem dL_kept_2 : decode cL_kept 2 = .ok (.aload_n 0, 1) := by decide +kernel
theorem dL_kept_3 : decode cL_kept 3 = .ok (.iload_n 1, 1) := by decide +kernel
theorem dL_kept_4 : decode cL_kept 4 = .ok (.invokevirtual 59, 3) := by decide +kernel
theorem dL_kept_7 : decode cL_kept 7 = .ok (.i2l, 1) := by decide +kernel
theorem dL_kept_8 : decode cL_kept 8 = .ok (.lastore, 1) := by decide +kernel
theorem dL_kept_9 : decode cL_kept 9 = .ok (.goto 6, 3) := by decide +kernel
theorem dL_kept_12 : decode cL_kept 12 = .ok (.astore_n 3, 1) := by decide +kernel
theorem dL_kept_13 : decode cL_kept 13 = .ok (.iconst 1, 1) := by decide +kernel
theorem dL_kept_14 : decode cL_kept 14 = .ok (.ireturn, 1) := by decide +kernel
theorem dL_kept_15 : decode cL_kept 15 = .ok (.iconst 0, 1) := by decide +kernel
theorem dL_kept_16 : decode cL_kept 16 = .ok (.ireturn, 1) := by decide +kernel
set_option maxRecDepth 20000 in
theorem ggL_comes_X3_comes : GoodIn wsL_comes wsX3_comes := goodIn_ca (goodIn_r _ [6, 7, 8, 9, 10, 11, 5, 12, 13, 14, 15, 16, 17, 18, 19, 20, 21, 22, 23, 24, 25, 26, 27, 28, 29, 30, 31, 32, 33, 34, 35, 36, 37, 38, 39, 40, 41, 42, 43, 44, 45, 46, 47, 48, 49, 50, 51, 52, 53, 54, 55, 56, 57, 58, 59, 60, 61, 62, 63, 64, 65, 66, 67, 68, 69, 70, 71, 72, 73] (by decide +kernel) (by decide +kernel)) (goodIn_sub (fun _ h => List.mem_cons_of_mem _ (List.mem_append_right _ h)) (by decide +kernel))
set_option maxRecDepth 20000 in
theorem gL_comes_X3_comes : GoodIn wsL_comes (wsV RL 62 RX3 yX3_comes wsX3_comes) := goodIn_app (goodIn_of _ (by decide +kernel)) ggL_comes_X3_comes
theorem dL_comes_0 : decode cL_comes 0 = .ok (.aload_n 2, 1) := by decide +kernel
theorem dL_comes_1 : decode cL_comes 1 = .ok (.iconst 0, 1) := by decide +kernel
theorem dL_comes_2 : decode cL_comes 2 = .ok (.aload_n 0, 1) := by decide +kernel
theorem dL_comes_3 : decode cL_comes 3 = .ok (.iload_n 1, 1) := by decide +kernel
theorem dL_comes_4 : decode cL_comes 4 = .ok (.invokevirtual 62, 3) := by decide +kernel
theorem dL_comes_7 : decode cL_comes 7 = .ok (.i2l, 1) := by decide +kernel
theorem dL_comes_8 : decode cL_comes 8 = .ok (.lastore, 1) := by decide +kernel
theorem dL_comes_9 : decode cL_comes 9 = .ok (.goto 6, 3) := by decide +kernel
theorem dL_comes_12 : decode cL_comes 12 = .ok (.astore_n 3, 1) := by decide +kernel
theorem dL_comes_13 : decode cL_comes 13 = .ok (.iconst 1, 1) := by decide +kernel
theorem dL_comes_14 : decode cL_comes 14 = .ok (.ireturn, 1) := by decide +kernel
theorem dL_comes_15 : decode cL_comes 15 = .ok (.iconst 0, 1) := by decide +kernel
theorem dL_comes_16 : decode cL_comes 16 = .ok (.ireturn, 1) := by decide +kernel
set_option maxRecDepth 20000 in
theorem ggL_differ_X3_differ : GoodIn wsL_differ wsX3_differ := goodIn_ca (goodIn_r _ [6, 7, 8, 9, 10, 11, 12, 5, 13, 14, 15, 16, 17, 18, 19, 20, 21, 22, 23, 24, 25, 26, 27, 28, 29, 30, 31, 32, 33, 34, 35, 36, 37, 38, 39, 40, 41, 42, 43, 44, 45, 46, 47, 48, 49, 50, 51, 52, 53, 54, 55, 56, 57, 58, 59, 60, 61, 62, 63, 64, 65, 66, 67, 68, 69, 70, 71, 72, 73, 74, 75, 76, 77, 78, 79, 80, 81, 82, 83, 84, 85, 86, 87, 88, 89, 90, 91, 92, 93, 94, 95, 96, 97] (by decide +kernel) (by decide +kernel)) (goodIn_sub (fun _ h => List.mem_cons_of_mem _ (List.mem_append_right _ h)) (by decide +kernel))
set_option maxRecDepth 20000 in
theorem gL_differ_X3_differ : GoodIn wsL_differ (wsV RL 65 RX3 yX3_differ wsX3_differ) := goodIn_app (goodIn_of _ (by decide +kernel)) ggL_differ_X3_differ
theorem dL_differ_0 : decode cL_differ 0 = .ok (.aload_n 2, 1) := by decide +kernel
theorem dL_differ_1 : decode cL_differ 1 = .ok (.iconst 0, 1) := by decide +kernel
theorem dL_differ_2 : decode cL_differ 2 = .ok (.aload_n 0, 1) := by decide +kernel
theorem dL_differ_3 : decode cL_differ 3 = .ok (.iload_n 1, 1) := by decide +kernel
theorem dL_differ_4 : decode cL_differ 4 = .ok (.invokevirtual 65, 3) := by decide +kernel
theorem dL_differ_7 : decode cL_differ 7 = .ok (.i2l, 1) := by decide +kernel
theorem dL_differ_8 : decode cL_differ 8 = .ok (.lastore, 1) := by decide +kernel
theorem dL_differ_9 : decode cL_differ 9 = .ok (.goto 6, 3) := by decide +kernel
theorem dL_differ_12 : decode cL_differ 12 = .ok (.astore_n 3, 1) := by decide +kernel
theorem dL_differ_13 : decode cL_differ 13 = .ok (.iconst 1, 1) := by decide +kernel
theorem dL_differ_14 : decode cL_differ 14 = .ok (.ireturn, 1) := by decide +kernel
theorem dL_differ_15 : decode cL_differ 15 = .ok (.iconst 0, 1) := by decide +kernel
theorem dL_differ_16 : decode cL_differ 16 = .ok (.ireturn, 1) := by decide +kernel
set_option maxRecDepth 20000 in
theorem ggL_advise_X3_advise : GoodIn wsL_advise wsX3_advise := goodIn_ca (goodIn_r _ [6, 7, 8, 9, 10, 11, 12, 5, 13, 14, 15, 16, 17, 18, 19, 20, 21, 22, 23, 24, 25, 26, 27, 28, 29, 30, 31, 32, 33, 34, 35, 36, 37, 38, 39, 40, 41, 42, 43, 44, 45, 46, 47, 48] (by decide +kernel) (by decide +kernel)) (goodIn_sub (fun _ h => List.mem_cons_of_mem _ (List.mem_append_right _ h)) (by decide +kernel))
set_option maxRecDepth 20000 in
theorem gL_advise_X3_advise : GoodIn wsL_advise (wsV RL 68 RX3 yX3_advise wsX3_advise) := goodIn_app (goodIn_of _ (by decide +kernel)) ggL_advise_X3_advise
theorem dL_advise_0 : decode cL_advise 0 = .ok (.aload_n 2, 1) := by decide +kernel
theorem dL_advise_1 : decode cL_advise 1 = .ok (.iconst 0, 1) := by decide +kernel
theorem dL_advise_2 : decode cL_advise 2 = .ok (.aload_n 0, 1) := by decide +kernel
theorem dL_advise_3 : decode cL_advise 3 = .ok (.iload_n 1, 1) := by decide +kernel
theorem dL_advise_4 : decode cL_advise 4 = .ok (.invokevirtual 68, 3) := by decide +kernel
theorem dL_advise_7 : decode cL_advise 7 = .ok (.i2l, 1) := by decide +kernel
theorem dL_advise_8 : decode cL_advise 8 = .ok (.lastore, 1) := by decide +kernel
theorem dL_advise_9 : decode cL_advise 9 = .ok (.goto 6, 3) := by decide +kernel
theorem dL_advise_12 : decode cL_advise 12 = .ok (.astore_n 3, 1) := by decide +kernel
theorem dL_advise_13 : decode cL_advise 13 = .ok (.iconst 1, 1) := by decide +kernel
theorem dL_advise_14 : decode cL_advise 14 = .ok (.ireturn, 1) := by decide +kernel
theorem dL_advise_15 : decode cL_advise 15 = .ok (.iconst 0, 1) := by decide +kernel
theorem dL_advise_16 : decode cL_advise 16 = .ok (.ireturn, 1) := by decide +kernel
set_option maxRecDepth 20000 in
theorem ggL_law_X3_init : GoodIn wsL_law wsX3_init := goodIn_r _ [9, 10, 11, 12, 13, 14, 15, 16, 17, 18, 19, 20, 21, 22, 23, 24, 25, 26, 27, 28, 29, 30, 31, 32, 33, 34, 35, 36, 37, 38, 39, 40, 41, 42, 43, 44, 45, 46, 47, 48, 553, 554, 555, 556, 557, 558, 559, 560, 568, 569, 570, 571, 572, 573] (by decide +kernel) (by decide +kernel)
set_option maxRecDepth 20000 in
theorem gL_law_X3_init : GoodIn wsL_law (wsX3_init) := ggL_law_X3_init
set_option maxRecDepth 20000 in
theorem ggL_law_X4_init : GoodIn wsL_law wsX4_init := goodIn_r _ [51, 52, 11, 12, 53, 34, 54, 55, 561, 562, 563, 564, 565, 566, 567] (by decide +kernel) (by decide +kernel)
set_option maxRecDepth 20000 in
theorem gL_law_X4_init : GoodIn wsL_law (wsX4_init) := ggL_law_X4_init
set_option maxRecDepth 20000 in
theorem ggL_law_L_setBells : GoodIn wsL_law wsL_setBells := goodIn_ca (goodIn_r _ [59, 60, 61, 62, 63, 2, 64, 65, 66, 27, 28, 20, 67, 68, 69, 19, 70, 42, 553, 554, 555, 556, 557, 558, 559, 560, 570, 571] (by decide +kernel) (by decide +kernel)) (goodIn_sub (fun _ h => List.mem_append_left _ (List.mem_append_left _ (List.mem_append_right _ h))) (by decide +kernel))
set_option maxRecDepth 20000 in
theorem gL_law_L_setBells : GoodIn wsL_law (va_wsS RL 75 yL_setBells wsL_setBells) := goodIn_app (goodIn_of _ (by decide +kernel)) ggL_law_L_setBells
set_option maxRecDepth 20000 in
theorem ggL_law_X4_setBells : GoodIn wsL_law wsX4_setBells := goodIn_r _ [74, 75, 53, 76, 77, 78, 79, 5, 80, 81, 82, 83, 84, 561, 562, 563, 564, 565, 566, 567] (by decide +kernel) (by decide +kernel)
set_option maxRecDepth 20000 in
theorem gL_law_X4_setBells : GoodIn wsL_law (wsV RL 80 RX4 yX4_setBells wsX4_setBells) := goodIn_app (goodIn_of _ (by decide +kernel)) ggL_law_X4_setBells
set_option maxRecDepth 20000 in
theorem ggL_law_X4_thrown : GoodIn wsL_law wsX4_thrown := goodIn_r _ [88, 75, 561, 562, 563, 564, 565, 566, 567] (by decide +kernel) (by decide +kernel)
set_option maxRecDepth 20000 in
theorem gL_law_X4_thrown : GoodIn wsL_law (wsV RL 81 RX4 yX4_thrown wsX4_thrown) := goodIn_app (goodIn_of _ (by decide +kernel)) ggL_law_X4_thrown
set_option maxRecDepth 20000 in
theorem ggL_law_L_write : GoodIn wsL_law wsL_write := goodIn_ca (goodIn_ca (goodIn_r _ [91, 92, 93, 94, 95, 96, 2, 97, 98, 99, 27, 28, 100, 101, 102, 103, 104, 105, 106, 107, 108, 14, 109, 110, 111, 16, 112, 36, 113, 114, 115, 116, 117, 118, 119, 120, 35, 121, 122, 123, 124, 553, 554, 555, 556, 557, 558, 559, 560, 568, 569] (by decide +kernel) (by decide +kernel)) (goodIn_sub (fun _ h => List.mem_append_left _ (List.mem_append_right _ h)) (by decide +kernel))) (goodIn_sub (fun _ h => List.mem_append_right _ h) (by decide +kernel))
set_option maxRecDepth 20000 in
theorem gL_law_L_write : GoodIn wsL_law (va_wsS RL 85 yL_write wsL_write) := goodIn_app (goodIn_of _ (by decide +kernel)) ggL_law_L_write
set_option maxRecDepth 20000 in
theorem ggL_law_X4_write : GoodIn wsL_law wsX4_write := goodIn_r _ [128, 75, 53, 76, 129, 130, 5, 131, 78, 79, 80, 81, 82, 83, 84, 132, 133, 134, 135, 54, 561, 562, 563, 564, 565, 566, 567] (by decide +kernel) (by decide +kernel)
set_option maxRecDepth 20000 in
theorem gL_law_X4_write : GoodIn wsL_law (wsV RL 87 RX4 yX4_write wsX4_write) := goodIn_app (goodIn_of _ (by decide +kernel)) ggL_law_X4_write
set_option maxRecDepth 20000 in
theorem ggL_law_L_swap : GoodIn wsL_law wsL_swap := goodIn_ca (goodIn_r _ [138, 92, 139, 140, 141, 2, 142, 98, 99, 27, 143, 144, 145, 146, 28, 14, 147, 148, 149, 16, 150, 121, 122, 123, 124, 35, 117, 118, 119, 120, 151, 152, 153, 154, 36, 155, 156, 157, 158, 553, 554, 555, 556, 557, 558, 559, 560, 568, 569] (by decide +kernel) (by decide +kernel)) (goodIn_sub (fun _ h => List.mem_append_left _ (List.mem_append_right _ h)) (by decide +kernel))
set_option maxRecDepth 20000 in
theorem gL_law_L_swap : GoodIn wsL_law (va_wsS RL 88 yL_swap wsL_swap) := goodIn_app (goodIn_of _ (by decide +kernel)) ggL_law_L_swap
set_option maxRecDepth 20000 in
theorem ggL_law_X4_swap : GoodIn wsL_law wsX4_swap := goodIn_r _ [162, 75, 53, 54, 163, 164, 165, 5, 166, 76, 78, 79, 80, 81, 82, 83, 84, 167, 168, 169, 170, 34, 129, 130, 131, 171, 172, 173, 174, 175, 176, 177, 178, 179, 180, 181, 182, 183, 184, 185, 561, 562, 563, 564, 565, 566, 567] (by decide +kernel) (by decide +kernel)
set_option maxRecDepth 20000 in
theorem gL_law_X4_swap : GoodIn wsL_law (wsV RL 91 RX4 yX4_swap wsX4_swap) := goodIn_app (goodIn_of _ (by decide +kernel)) ggL_law_X4_swap
set_option maxRecDepth 20000 in
theorem ggL_law_L_next : GoodIn wsL_law wsL_next := goodIn_ca (goodIn_r _ [188, 92, 189, 190, 191, 2, 192, 27, 143, 144, 145, 146, 98, 99, 28, 14, 151, 152, 153, 16, 154, 36, 155, 156, 157, 158, 121, 122, 123, 124, 35, 100, 101, 102, 109, 110, 111, 112, 113, 114, 115, 116, 117, 118, 119, 120, 553, 554, 555, 556, 557, 558, 559, 560, 568, 569] (by decide +kernel) (by decide +kernel)) (goodIn_sub (fun _ h => List.mem_append_left _ (List.mem_append_right _ h)) (by decide +kernel))
set_option maxRecDepth 20000 in
theorem gL_law_L_next : GoodIn wsL_law (va_wsS RL 92 yL_next wsL_next) := goodIn_app (goodIn_of _ (by decide +kernel)) ggL_law_L_next
set_option maxRecDepth 20000 in
theorem ggL_law_X4_next : GoodIn wsL_law wsX4_next := goodIn_r _ [196, 75, 54, 53, 163, 164, 165, 5, 166, 76, 78, 79, 80, 81, 82, 83, 84, 129, 130, 131, 561, 562, 563, 564, 565, 566, 567] (by decide +kernel) (by decide +kernel)
set_option maxRecDepth 20000 in
theorem gL_law_X4_next : GoodIn wsL_law (wsV RL 94 RX4 yX4_next wsX4_next) := goodIn_app (goodIn_of _ (by decide +kernel)) ggL_law_X4_next
set_option maxRecDepth 20000 in
theorem ggL_law_L_behind : GoodIn wsL_law wsL_behind := goodIn_ca (goodIn_ca (goodIn_r _ [199, 92, 93, 200, 201, 202, 2, 203, 28, 143, 144, 145, 146, 98, 99, 14, 103, 104, 105, 106, 107, 108, 204, 205, 206, 16, 207, 36, 121, 122, 123, 124, 35, 117, 118, 119, 120, 553, 554, 555, 556, 557, 558, 559, 560, 568, 569] (by decide +kernel) (by decide +kernel)) (goodIn_sub (fun _ h => List.mem_append_left _ (List.mem_append_right _ h)) (by decide +kernel))) (goodIn_sub (fun _ h => List.mem_append_right _ h) (by decide +kernel))
set_option maxRecDepth 20000 in
theorem gL_law_L_behind : GoodIn wsL_law (va_wsS RL 95 yL_behind wsL_behind) := goodIn_app (goodIn_of _ (by decide +kernel)) ggL_law_L_behind
set_option maxRecDepth 20000 in
theorem ggL_law_X4_behind : GoodIn wsL_law wsX4_behind := goodIn_r _ [211, 75, 76, 54, 163, 164, 165, 5, 166, 78, 79, 80, 81, 82, 83, 84, 167, 168, 169, 170, 53, 34, 129, 130, 131, 171, 172, 173, 212, 213, 214, 215, 178, 179, 180, 181, 182, 183, 184, 185, 132, 133, 134, 135, 561, 562, 563, 564, 565, 566, 567] (by decide +kernel) (by decide +kernel)
set_option maxRecDepth 20000 in
theorem gL_law_X4_behind : GoodIn wsL_law (wsV RL 97 RX4 yX4_behind wsX4_behind) := goodIn_app (goodIn_of _ (by decide +kernel)) ggL_law_X4_behind
set_option maxRecDepth 20000 in
theorem ggL_law_L_back : GoodIn wsL_law wsL_back := goodIn_ca (goodIn_r _ [218, 92, 219, 220, 221, 2, 222, 22, 143, 144, 145, 146, 98, 99, 28, 14, 223, 224, 225, 16, 226, 36, 121, 122, 123, 124, 35, 117, 118, 119, 120, 227, 228, 229, 230, 151, 152, 153, 154, 155, 156, 157, 158, 553, 554, 555, 556, 557, 558, 559, 560, 568, 569] (by decide +kernel) (by decide +kernel)) (goodIn_sub (fun _ h => List.mem_append_left _ (List.mem_append_right _ h)) (by decide +kernel))
set_option maxRecDepth 20000 in
theorem gL_law_L_back : GoodIn wsL_law (va_wsS RL 98 yL_back wsL_back) := goodIn_app (goodIn_of _ (by decide +kernel)) ggL_law_L_back
set_option maxRecDepth 20000 in
theorem ggL_law_X4_back : GoodIn wsL_law wsX4_back := goodIn_r _ [234, 75, 54, 163, 164, 165, 5, 166, 76, 78, 79, 80, 167, 168, 169, 170, 53, 34, 129, 130, 131, 171, 172, 173, 235, 236, 237, 238, 174, 175, 176, 177, 178, 179, 180, 181, 182, 183, 184, 185, 81, 82, 83, 84, 561, 562, 563, 564, 565, 566, 567] (by decide +kernel) (by decide +kernel)
set_option maxRecDepth 20000 in
theorem gL_law_X4_back : GoodIn wsL_law (wsV RL 100 RX4 yX4_back wsX4_back) := goodIn_app (goodIn_of _ (by decide +kernel)) ggL_law_X4_back
set_option maxRecDepth 20000 in
theorem ggL_law_L_repeat : GoodIn wsL_law wsL_repeat := goodIn_ca (goodIn_ca (goodIn_r _ [241, 92, 60, 242, 243, 244, 2, 245, 65, 66, 22, 143, 144, 145, 146, 98, 99, 28, 14, 246, 247, 248, 16, 249, 36, 250, 251, 252, 253, 121, 122, 123, 124, 35, 254, 255, 256, 257, 117, 118, 119, 120, 227, 228, 229, 230, 151, 152, 153, 154, 155, 156, 157, 158, 553, 554, 555, 556, 557, 558, 559, 560, 568, 569] (by decide +kernel) (by decide +kernel)) (goodIn_sub (fun _ h => List.mem_append_left _ (List.mem_append_left _ (List.mem_append_right _ h))) (by decide +kernel))) (goodIn_sub (fun _ h => List.mem_append_left _ (List.mem_append_right _ h)) (by decide +kernel))
set_option maxRecDepth 20000 in
theorem gL_law_L_repeat : GoodIn wsL_law (va_wsS RL 101 yL_repeat wsL_repeat) := goodIn_app (goodIn_of _ (by decide +kernel)) ggL_law_L_repeat
set_option maxRecDepth 20000 in
theorem ggL_law_X4_repeat : GoodIn wsL_law wsX4_repeat := goodIn_r _ [261, 75, 54, 163, 164, 165, 5, 166, 76, 78, 79, 80, 81, 82, 83, 84, 167, 168, 169, 170, 53, 34, 129, 130, 131, 171, 172, 173, 262, 263, 264, 265, 266, 267, 268, 269, 270, 271, 272, 212, 213, 214, 215, 174, 175, 176, 177, 178, 179, 180, 181, 182, 183, 184, 185, 561, 562, 563, 564, 565, 566, 567] (by decide +kernel) (by decide +kernel)
set_option maxRecDepth 20000 in
theorem gL_law_X4_repeat : GoodIn wsL_law (wsV RL 103 RX4 yX4_repeat wsX4_repeat) := goodIn_app (goodIn_of _ (by decide +kernel)) ggL_law_X4_repeat
set_option maxRecDepth 20000 in
theorem ggL_law_L_step : GoodIn wsL_law wsL_step := goodIn_ca (goodIn_ca (goodIn_r _ [275, 60, 93, 276, 277, 278, 2, 279, 65, 66, 107, 108, 27, 20, 280, 281, 19, 282, 283, 284, 285, 286, 287, 288, 289, 42, 290, 291, 292, 293, 41, 553, 554, 555, 556, 557, 558, 559, 560, 570, 571] (by decide +kernel) (by decide +kernel)) (goodIn_sub (fun _ h => List.mem_append_left _ (List.mem_append_left _ (List.mem_append_right _ h))) (by decide +kernel))) (goodIn_sub (fun _ h => List.mem_append_right _ h) (by decide +kernel))
set_option maxRecDepth 20000 in
theorem gL_law_L_step : GoodIn wsL_law (va_wsS RL 104 yL_step wsL_step) := goodIn_app (goodIn_of _ (by decide +kernel)) ggL_law_L_step
set_option maxRecDepth 20000 in
theorem ggL_law_X4_step : GoodIn wsL_law wsX4_step := goodIn_r _ [297, 75, 77, 55, 298, 299, 300, 5, 301, 53, 78, 79, 80, 81, 82, 83, 84, 561, 562, 563, 564, 565, 566, 567] (by decide +kernel) (by decide +kernel)
set_option maxRecDepth 20000 in
theorem gL_law_X4_step : GoodIn wsL_law (wsV RL 106 RX4 yX4_step wsX4_step) := goodIn_app (goodIn_of _ (by decide +kernel)) ggL_law_X4_step
set_option maxRecDepth 20000 in
theorem ggL_law_X3_clear : GoodIn wsL_law wsX3_clear := goodIn_r _ [305, 20, 286, 287, 288, 19, 289, 42, 67, 68, 69, 70, 553, 554, 555, 556, 557, 558, 559, 560, 570, 571] (by decide +kernel) (by decide +kernel)
set_option maxRecDepth 20000 in
theorem gL_law_X3_clear : GoodIn wsL_law (wsV RL 107 RX3 yX3_clear wsX3_clear) := goodIn_app (goodIn_of _ (by decide +kernel)) ggL_law_X3_clear
set_option maxRecDepth 20000 in
theorem ggL_law_X4_clear : GoodIn wsL_law wsX4_clear := goodIn_r _ [309, 75, 77, 561, 562, 563, 564, 565, 566, 567] (by decide +kernel) (by decide +kernel)
set_option maxRecDepth 20000 in
theorem gL_law_X4_clear : GoodIn wsL_law (wsV RL 110 RX4 yX4_clear wsX4_clear) := goodIn_app (goodIn_of _ (by decide +kernel)) ggL_law_X4_clear
set_option maxRecDepth 20000 in
theorem ggL_law_L_ring : GoodIn wsL_law wsL_ring := goodIn_ca (goodIn_ca (goodIn_r _ [312, 92, 60, 313, 314, 315, 2, 316, 20, 29, 143, 144, 145, 146, 98, 99, 28, 14, 317, 318, 319, 65, 66, 286, 287, 288, 19, 289, 42, 320, 321, 322, 323, 324, 325, 326, 327, 41, 328, 329, 330, 16, 331, 36, 332, 284, 285, 333, 148, 149, 150, 121, 122, 123, 124, 35, 117, 118, 119, 120, 151, 152, 153, 154, 155, 156, 157, 158, 553, 554, 555, 556, 557, 558, 559, 560, 570, 571, 568, 569] (by decide +kernel) (by decide +kernel)) (goodIn_sub (fun _ h => List.mem_append_left _ (List.mem_append_right _ h)) (by decide +kernel))) (goodIn_sub (fun _ h => List.mem_append_left _ (List.mem_append_left _ (List.mem_append_right _ h))) (by decide +kernel))
set_option maxRecDepth 20000 in
theorem gL_law_L_ring : GoodIn wsL_law (va_wsS RL 111 yL_ring wsL_ring) := goodIn_app (goodIn_of _ (by decide +kernel)) ggL_law_L_ring
set_option maxRecDepth 20000 in
theorem ggL_law_X4_ring : GoodIn wsL_law wsX4_ring := goodIn_r _ [337, 75, 77, 54, 338, 163, 164, 165, 5, 166, 76, 78, 79, 80, 81, 82, 83, 84, 167, 168, 169, 170, 53, 34, 129, 130, 131, 171, 172, 173, 339, 340, 341, 342, 55, 174, 175, 176, 177, 178, 179, 180, 181, 182, 183, 184, 185, 561, 562, 563, 564, 565, 566, 567] (by decide +kernel) (by decide +kernel)
set_option maxRecDepth 20000 in
theorem gL_law_X4_ring : GoodIn wsL_law (wsV RL 113 RX4 yX4_ring wsX4_ring) := goodIn_app (goodIn_of _ (by decide +kernel)) ggL_law_X4_ring
set_option maxRecDepth 20000 in
theorem ggL_law_L_bell : GoodIn wsL_law wsL_bell := goodIn_ca (goodIn_r _ [345, 92, 346, 347, 348, 2, 349, 143, 144, 145, 146, 98, 99, 28, 14, 350, 351, 352, 353, 27, 354, 122, 123, 16, 124, 35, 553, 554, 555, 556, 557, 558, 559, 560, 568, 569] (by decide +kernel) (by decide +kernel)) (goodIn_sub (fun _ h => List.mem_append_left _ (List.mem_append_right _ h)) (by decide +kernel))
set_option maxRecDepth 20000 in
theorem gL_law_L_bell : GoodIn wsL_law (va_wsS RL 114 yL_bell wsL_bell) := goodIn_app (goodIn_of _ (by decide +kernel)) ggL_law_L_bell
set_option maxRecDepth 20000 in
theorem ggL_law_X4_bell : GoodIn wsL_law wsX4_bell := goodIn_r _ [358, 75, 54, 163, 164, 165, 5, 166, 76, 78, 79, 80, 359, 360, 361, 362, 53, 167, 168, 169, 170, 34, 129, 130, 131, 171, 172, 173, 81, 82, 83, 84, 561, 562, 563, 564, 565, 566, 567] (by decide +kernel) (by decide +kernel)
set_option maxRecDepth 20000 in
theorem gL_law_X4_bell : GoodIn wsL_law (wsV RL 116 RX4 yX4_bell wsX4_bell) := goodIn_app (goodIn_of _ (by decide +kernel)) ggL_law_X4_bell
set_option maxRecDepth 20000 in
theorem ggL_law_L_told : GoodIn wsL_law wsL_told := goodIn_ca (goodIn_r _ [365, 92, 366, 367, 368, 2, 369, 98, 99, 143, 144, 145, 146, 28, 14, 151, 152, 153, 16, 154, 36, 155, 156, 157, 158, 121, 122, 123, 124, 35, 370, 371, 372, 373, 374, 375, 376, 377, 378, 379, 380, 381, 382, 383, 384, 385, 386, 387, 388, 389, 250, 251, 252, 253, 390, 391, 392, 393, 394, 395, 396, 397, 398, 399, 400, 401, 402, 403, 404, 553, 554, 555, 556, 557, 558, 559, 560, 568, 569] (by decide +kernel) (by decide +kernel)) (goodIn_sub (fun _ h => List.mem_append_left _ (List.mem_append_right _ h)) (by decide +kernel))
set_option maxRecDepth 20000 in
theorem gL_law_L_told : GoodIn wsL_law (va_wsS RL 117 yL_told wsL_told) := goodIn_app (goodIn_of _ (by decide +kernel)) ggL_law_L_told
set_option maxRecDepth 20000 in
theorem ggL_law_X4_told : GoodIn wsL_law wsX4_told := goodIn_r _ [408, 75, 54, 163, 164, 165, 5, 166, 76, 78, 79, 80, 167, 168, 169, 170, 53, 34, 129, 130, 131, 171, 172, 173, 409, 410, 411, 412, 413, 387, 388, 389, 178, 179, 180, 181, 182, 183, 184, 185, 414, 415, 416, 417, 418, 419, 420, 421, 266, 267, 268, 269, 262, 263, 264, 265, 270, 271, 272, 235, 236, 237, 238, 81, 82, 83, 84, 561, 562, 563, 564, 565, 566, 567] (by decide +kernel) (by decide +kernel)
set_option maxRecDepth 20000 in
theorem gL_law_X4_told : GoodIn wsL_law (wsV RL 119 RX4 yX4_told wsX4_told) := goodIn_app (goodIn_of _ (by decide +kernel)) ggL_law_X4_told
set_option maxRecDepth 20000 in
theorem ggL_law_L_round : GoodIn wsL_law wsL_round := goodIn_ca (goodIn_r _ [424, 92, 425, 426, 427, 2, 428, 143, 144, 145, 146, 98, 99, 28, 14, 350, 351, 352, 353, 27, 429, 251, 252, 16, 253, 36, 121, 122, 123, 124, 35, 553, 554, 555, 556, 557, 558, 559, 560, 568, 569] (by decide +kernel) (by decide +kernel)) (goodIn_sub (fun _ h => List.mem_append_left _ (List.mem_append_right _ h)) (by decide +kernel))
set_option maxRecDepth 20000 in
theorem gL_law_L_round : GoodIn wsL_law (va_wsS RL 120 yL_round wsL_round) := goodIn_app (goodIn_of _ (by decide +kernel)) ggL_law_L_round
set_option maxRecDepth 20000 in
theorem ggL_law_X4_round : GoodIn wsL_law wsX4_round := goodIn_r _ [433, 75, 54, 163, 164, 165, 5, 166, 76, 78, 79, 80, 359, 360, 361, 362, 53, 167, 168, 169, 170, 34, 129, 130, 131, 171, 172, 173, 266, 267, 268, 269, 81, 82, 83, 84, 561, 562, 563, 564, 565, 566, 567] (by decide +kernel) (by decide +kernel)
set_option maxRecDepth 20000 in
theorem gL_law_X4_round : GoodIn wsL_law (wsV RL 122 RX4 yX4_round wsX4_round) := goodIn_app (goodIn_of _ (by decide +kernel)) ggL_law_X4_round
set_option maxRecDepth 20000 in
theorem ggL_law_L_apart : GoodIn wsL_law wsL_apart := goodIn_ca (goodIn_r _ [436, 92, 437, 438, 439, 2, 440, 27, 143, 144, 145, 146, 98, 99, 28, 14, 354, 122, 123, 16, 124, 35, 401, 402, 403, 404, 36, 121, 553, 554, 555, 556, 557, 558, 559, 560, 568, 569] (by decide +kernel) (by decide +kernel)) (goodIn_sub (fun _ h => List.mem_append_left _ (List.mem_append_right _ h)) (by decide +kernel))
set_option maxRecDepth 20000 in
theorem gL_law_L_apart : GoodIn wsL_law (va_wsS RL 123 yL_apart wsL_apart) := goodIn_app (goodIn_of _ (by decide +kernel)) ggL_law_L_apart
set_option maxRecDepth 20000 in
theorem ggL_law_X4_apart : GoodIn wsL_law wsX4_apart := goodIn_r _ [444, 75, 54, 163, 164, 165, 5, 166, 76, 78, 79, 80, 81, 82, 83, 84, 167, 168, 169, 170, 53, 34, 129, 130, 131, 171, 172, 173, 235, 236, 237, 238, 212, 213, 214, 215, 414, 415, 416, 417, 182, 183, 184, 185, 561, 562, 563, 564, 565, 566, 567] (by decide +kernel) (by decide +kernel)
set_option maxRecDepth 20000 in
theorem gL_law_X4_apart : GoodIn wsL_law (wsV RL 125 RX4 yX4_apart wsX4_apart) := goodIn_app (goodIn_of _ (by decide +kernel)) ggL_law_X4_apart
set_option maxRecDepth 20000 in
theorem ggL_law_L_count : GoodIn wsL_law wsL_count := goodIn_ca (goodIn_r _ [447, 92, 448, 449, 450, 2, 451, 98, 99, 27, 28, 20, 29, 100, 101, 102, 452, 453, 454, 455, 26, 14, 456, 457, 458, 25, 459, 48, 151, 152, 153, 16, 154, 36, 155, 156, 157, 158, 121, 122, 123, 124, 35, 460, 461, 462, 463, 47, 464, 465, 466, 467, 286, 287, 288, 19, 289, 42, 553, 554, 555, 556, 557, 558, 559, 560, 572, 573, 568, 569, 570, 571] (by decide +kernel) (by decide +kernel)) (goodIn_sub (fun _ h => List.mem_append_left _ (List.mem_append_right _ h)) (by decide +kernel))
set_option maxRecDepth 20000 in
theorem gL_law_L_count : GoodIn wsL_law (va_wsS RL 126 yL_count wsL_count) := goodIn_app (goodIn_of _ (by decide +kernel)) ggL_law_L_count
set_option maxRecDepth 20000 in
theorem ggL_law_X4_count : GoodIn wsL_law wsX4_count := goodIn_r _ [471, 75, 78, 79, 5, 80, 472, 473, 474, 475, 53, 76, 77, 338, 129, 130, 131, 476, 477, 478, 479, 54, 81, 82, 83, 84, 561, 562, 563, 564, 565, 566, 567] (by decide +kernel) (by decide +kernel)
set_option maxRecDepth 20000 in
theorem gL_law_X4_count : GoodIn wsL_law (wsV RL 128 RX4 yX4_count wsX4_count) := goodIn_app (goodIn_of _ (by decide +kernel)) ggL_law_X4_count
set_option maxRecDepth 20000 in
theorem ggL_law_L_kept : GoodIn wsL_law wsL_kept := goodIn_ca (goodIn_r _ [482, 92, 483, 484, 485, 2, 486, 98, 99, 20, 286, 287, 288, 19, 289, 42, 487, 325, 326, 327, 41, 553, 554, 555, 556, 557, 558, 559, 560, 570, 571] (by decide +kernel) (by decide +kernel)) (goodIn_sub (fun _ h => List.mem_append_left _ (List.mem_append_right _ h)) (by decide +kernel))
set_option maxRecDepth 20000 in
theorem gL_law_L_kept : GoodIn wsL_law (va_wsS RL 129 yL_kept wsL_kept) := goodIn_app (goodIn_of _ (by decide +kernel)) ggL_law_L_kept
set_option maxRecDepth 20000 in
theorem ggL_law_X4_kept : GoodIn wsL_law wsX4_kept := goodIn_r _ [491, 75, 77, 55, 78, 79, 5, 80, 81, 82, 83, 84, 561, 562, 563, 564, 565, 566, 567] (by decide +kernel) (by decide +kernel)
set_option maxRecDepth 20000 in
theorem gL_law_X4_kept : GoodIn wsL_law (wsV RL 131 RX4 yX4_kept wsX4_kept) := goodIn_app (goodIn_of _ (by decide +kernel)) ggL_law_X4_kept
set_option maxRecDepth 20000 in
theorem ggL_law_L_comes : GoodIn wsL_law wsL_comes := goodIn_ca (goodIn_r _ [494, 92, 495, 496, 497, 2, 498, 20, 21, 143, 144, 145, 146, 98, 99, 28, 14, 286, 287, 288, 19, 289, 42, 227, 228, 229, 16, 230, 36, 121, 122, 123, 124, 35, 117, 118, 119, 120, 320, 321, 322, 323, 324, 325, 326, 327, 41, 328, 329, 330, 331, 332, 284, 285, 333, 148, 149, 150, 499, 500, 501, 502, 553, 554, 555, 556, 557, 558, 559, 560, 570, 571, 568, 569] (by decide +kernel) (by decide +kernel)) (goodIn_sub (fun _ h => List.mem_append_left _ (List.mem_append_right _ h)) (by decide +kernel))
set_option maxRecDepth 20000 in
theorem gL_law_L_comes : GoodIn wsL_law (va_wsS RL 132 yL_comes wsL_comes) := goodIn_app (goodIn_of _ (by decide +kernel)) ggL_law_L_comes
set_option maxRecDepth 20000 in
theorem ggL_law_X4_comes : GoodIn wsL_law wsX4_comes := goodIn_r _ [506, 75, 77, 54, 163, 164, 165, 5, 166, 76, 78, 79, 80, 81, 82, 83, 84, 167, 168, 169, 170, 53, 34, 129, 130, 131, 171, 172, 173, 339, 340, 341, 342, 55, 178, 179, 180, 181, 182, 183, 184, 185, 561, 562, 563, 564, 565, 566, 567] (by decide +kernel) (by decide +kernel)
set_option maxRecDepth 20000 in
theorem gL_law_X4_comes : GoodIn wsL_law (wsV RL 134 RX4 yX4_comes wsX4_comes) := goodIn_app (goodIn_of _ (by decide +kernel)) ggL_law_X4_comes
set_option maxRecDepth 20000 in
theorem ggL_law_L_differ : GoodIn wsL_law wsL_differ := goodIn_ca (goodIn_r _ [509, 60, 510, 511, 512, 2, 513, 21, 27, 26, 20, 317, 318, 319, 65, 66, 109, 110, 111, 16, 112, 36, 113, 114, 115, 116, 117, 118, 119, 120, 35, 121, 122, 123, 124, 456, 457, 458, 25, 459, 48, 151, 152, 153, 154, 155, 156, 157, 158, 460, 461, 462, 463, 47, 286, 287, 288, 19, 289, 42, 320, 321, 322, 323, 324, 325, 326, 327, 41, 328, 329, 330, 331, 332, 284, 285, 333, 148, 149, 150, 464, 465, 466, 467, 553, 554, 555, 556, 557, 558, 559, 560, 568, 569, 572, 573, 570, 571] (by decide +kernel) (by decide +kernel)) (goodIn_sub (fun _ h => List.mem_append_left _ (List.mem_append_left _ (List.mem_append_right _ h))) (by decide +kernel))
set_option maxRecDepth 20000 in
theorem gL_law_L_differ : GoodIn wsL_law (va_wsS RL 135 yL_differ wsL_differ) := goodIn_app (goodIn_of _ (by decide +kernel)) ggL_law_L_differ
set_option maxRecDepth 20000 in
theorem ggL_law_X4_differ : GoodIn wsL_law wsX4_differ := goodIn_r _ [517, 75, 77, 34, 78, 79, 5, 80, 81, 82, 83, 84, 167, 168, 169, 170, 53, 129, 130, 131, 171, 172, 173, 339, 340, 341, 342, 55, 178, 179, 180, 181, 182, 183, 184, 185, 561, 562, 563, 564, 565, 566, 567] (by decide +kernel) (by decide +kernel)
set_option maxRecDepth 20000 in
theorem gL_law_X4_differ : GoodIn wsL_law (wsV RL 137 RX4 yX4_differ wsX4_differ) := goodIn_app (goodIn_of _ (by decide +kernel)) ggL_law_X4_differ
set_option maxRecDepth 20000 in
theorem ggL_law_L_advise : GoodIn wsL_law wsL_advise := goodIn_ca (goodIn_r _ [520, 92, 521, 522, 523, 2, 524, 28, 22, 14, 143, 144, 145, 146, 98, 99, 204, 205, 206, 16, 207, 36, 121, 122, 123, 124, 35, 117, 118, 119, 120, 370, 371, 372, 373, 155, 156, 157, 158, 553, 554, 555, 556, 557, 558, 559, 560, 568, 569] (by decide +kernel) (by decide +kernel)) (goodIn_sub (fun _ h => List.mem_append_left _ (List.mem_append_right _ h)) (by decide +kernel))
set_option maxRecDepth 20000 in
theorem gL_law_L_advise : GoodIn wsL_law (va_wsS RL 138 yL_advise wsL_advise) := goodIn_app (goodIn_of _ (by decide +kernel)) ggL_law_L_advise
set_option maxRecDepth 20000 in
theorem ggL_law_X4_advise : GoodIn wsL_law wsX4_advise := goodIn_r _ [528, 75, 54, 76, 163, 164, 165, 5, 166, 78, 79, 80, 81, 82, 83, 84, 167, 168, 169, 170, 53, 34, 129, 130, 131, 171, 172, 173, 212, 213, 214, 215, 414, 415, 416, 417, 182, 183, 184, 185, 561, 562, 563, 564, 565, 566, 567] (by decide +kernel) (by decide +kernel)
set_option maxRecDepth 20000 in
theorem gL_law_X4_advise : GoodIn wsL_law (wsV RL 140 RX4 yX4_advise wsX4_advise) := goodIn_app (goodIn_of _ (by decide +kernel)) ggL_law_X4_advise
set_option maxRecDepth 20000 in
theorem ggL_law_X3_mean : GoodIn wsL_law wsX3_mean := goodIn_r _ [532, 28, 14, 151, 152, 153, 16, 154, 36, 155, 156, 157, 158, 121, 122, 123, 124, 35, 553, 554, 555, 556, 557, 558, 559, 560, 568, 569] (by decide +kernel) (by decide +kernel)
set_option maxRecDepth 20000 in
theorem gL_law_X3_mean : GoodIn wsL_law (wsV RL 141 RX3 yX3_mean wsX3_mean) := goodIn_app (goodIn_of _ (by decide +kernel)) ggL_law_X3_mean
set_option maxRecDepth 20000 in
theorem ggL_law_X4_mean : GoodIn wsL_law wsX4_mean := goodIn_r _ [536, 75, 76, 54, 561, 562, 563, 564, 565, 566, 567] (by decide +kernel) (by decide +kernel)
set_option maxRecDepth 20000 in
theorem gL_law_X4_mean : GoodIn wsL_law (wsV RL 145 RX4 yX4_mean wsX4_mean) := goodIn_app (goodIn_of _ (by decide +kernel)) ggL_law_X4_mean
set_option maxRecDepth 20000 in
theorem ggL_law_X3_digest : GoodIn wsL_law wsX3_digest := goodIn_ca (goodIn_r _ [540, 541, 542, 28, 27, 20, 543, 449, 450, 2, 451, 98, 99, 29, 100, 101, 102, 452, 453, 454, 455, 26, 14, 456, 457, 458, 25, 459, 48, 151, 152, 153, 16, 154, 36, 155, 156, 157, 158, 121, 122, 123, 124, 35, 460, 461, 462, 463, 47, 464, 465, 466, 467, 286, 287, 288, 19, 289, 42, 544, 367, 368, 369, 143, 144, 145, 146, 370, 371, 372, 373, 374, 375, 376, 377, 378, 379, 380, 381, 382, 383, 384, 385, 386, 387, 388, 389, 250, 251, 252, 253, 390, 391, 392, 393, 394, 395, 396, 397, 398, 399, 400, 401, 402, 403, 404, 545, 347, 348, 349, 350, 351, 352, 353, 354, 546, 484, 485, 486, 487, 325, 326, 327, 41, 553, 554, 555, 556, 557, 558, 559, 560, 572, 573, 568, 569, 570, 571] (by decide +kernel) (by decide +kernel)) (goodIn_sub (fun _ h => List.mem_append_left _ (List.mem_append_right _ h)) (by decide +kernel))
set_option maxRecDepth 20000 in
theorem gL_law_X3_digest : GoodIn wsL_law (wsV RL 146 RX3 yX3_digest wsX3_digest) := goodIn_app (goodIn_of _ (by decide +kernel)) ggL_law_X3_digest
set_option maxRecDepth 20000 in
theorem ggL_law_X4_digest : GoodIn wsL_law wsX4_digest := goodIn_r _ [550, 75, 551, 552, 76, 54, 77, 55, 472, 473, 474, 5, 475, 53, 338, 129, 130, 131, 476, 477, 478, 479, 167, 168, 169, 170, 34, 171, 172, 173, 409, 410, 411, 412, 413, 387, 388, 389, 178, 179, 180, 181, 182, 183, 184, 185, 414, 415, 416, 417, 418, 419, 420, 421, 266, 267, 268, 269, 262, 263, 264, 265, 270, 271, 272, 235, 236, 237, 238, 561, 562, 563, 564, 565, 566, 567] (by decide +kernel) (by decide +kernel)
set_option maxRecDepth 20000 in
theorem gL_law_X4_digest : GoodIn wsL_law (wsV RL 150 RX4 yX4_digest wsX4_digest) := goodIn_app (goodIn_of _ (by decide +kernel)) ggL_law_X4_digest
theorem dL_law_0 : decode cL_law 0 = .ok (.new 8, 3) := by decide +kernel
theorem dL_law_3 : decode cL_law 3 = .ok (.dup, 1) := by decide +kernel
theorem dL_law_4 : decode cL_law 4 = .ok (.invokespecial 71, 3) := by decide +kernel
theorem dL_law_7 : decode cL_law 7 = .ok (.astore_n 1, 1) := by decide +kernel
theorem dL_law_8 : decode cL_law 8 = .ok (.new 72, 3) := by decide +kernel
theorem dL_law_11 : decode cL_law 11 = .ok (.dup, 1) := by decide +kernel
theorem dL_law_12 : decode cL_law 12 = .ok (.invokespecial 74, 3) := by decide +kernel
theorem dL_law_15 : decode cL_law 15 = .ok (.astore_n 2, 1) := by decide +kernel
theorem dL_law_16 : decode cL_law 16 = .ok (.iconst 1, 1) := by decide +kernel
theorem dL_law_17 : decode cL_law 17 = .ok (.newarray .long, 2) := by decide +kernel
theorem dL_law_19 : decode cL_law 19 = .ok (.astore_n 3, 1) := by decide +kernel
theorem dL_law_20 : decode cL_law 20 = .ok (.iconst 0, 1) := by decide +kernel
theorem dL_law_21 : decode cL_law 21 = .ok (.istore 4, 2) := by decide +kernel
theorem dL_law_23 : decode cL_law 23 = .ok (.iload 4, 2) := by decide +kernel
theorem dL_law_25 : decode cL_law 25 = .ok (.aload_n 0, 1) := by decide +kernel
theorem dL_law_26 : decode cL_law 26 = .ok (.arraylength, 1) := by decide +kernel
theorem dL_law_27 : decode cL_law 27 = .ok (.iconst 3, 1) := by decide +kernel
theorem dL_law_28 : decode cL_law 28 = .ok (.isub, 1) := by decide +kernel
theorem dL_law_29 : decode cL_law 29 = .ok (.if_icmp .gt 1285, 3) := by decide +kernel
theorem dL_law_32 : decode cL_law 32 = .ok (.aload_n 0, 1) := by decide +kernel
theorem dL_law_33 : decode cL_law 33 = .ok (.iload 4, 2) := by decide +kernel
theorem dL_law_35 : decode cL_law 35 = .ok (.iaload, 1) := by decide +kernel
theorem dL_law_36 : decode cL_law 36 = .ok (.bipush 31, 2) := by decide +kernel
theorem dL_law_38 : decode cL_law 38 = .ok (.iand, 1) := by decide +kernel
theorem dL_law_39 : decode cL_law 39 = .ok (.tableswitch 1269 0 20 #[97, 153, 209, 277, 333, 401, 457, 525, 581, 594, 662, 730, 798, 866, 934, 990, 1046, 1102, 1158, 1214, 1255], 97) := by decide +kernel
theorem dL_law_136 : decode cL_law 136 = .ok (.aload_n 1, 1) := by decide +kernel
theorem dL_law_137 : decode cL_law 137 = .ok (.aload_n 0, 1) := by decide +kernel
theorem dL_law_138 : decode cL_law 138 = .ok (.iload 4, 2) := by decide +kernel
theorem dL_law_140 : decode cL_law 140 = .ok (.iconst 1, 1) := by decide +kernel
theorem dL_law_141 : decode cL_law 141 = .ok (.iadd, 1) := by decide +kernel
theorem dL_law_142 : decode cL_law 142 = .ok (.iaload, 1) := by decide +kernel
theorem dL_law_143 : decode cL_law 143 = .ok (.aload_n 3, 1) := by decide +kernel
theorem dL_law_144 : decode cL_law 144 = .ok (.invokestatic 75, 3) := by decide +kernel
theorem dL_law_147 : decode cL_law 147 = .ok (.istore 5, 2) := by decide +kernel
theorem dL_law_149 : decode cL_law 149 = .ok (.aload_n 2, 1) := by decide +kernel
theorem dL_law_150 : decode cL_law 150 = .ok (.aload_n 0, 1) := by decide +kernel
theorem dL_law_151 : decode cL_law 151 = .ok (.iload 4, 2) := by decide +kernel
theorem dL_law_153 : decode cL_law 153 = .ok (.iconst 1, 1) := by decide +kernel
theorem dL_law_154 : decode cL_law 154 = .ok (.iadd, 1) := by decide +kernel
theorem dL_law_155 : decode cL_law 155 = .ok (.iaload, 1) := by decide +kernel
theorem dL_law_156 : decode cL_law 156 = .ok (.invokevirtual 80, 3) := by decide +kernel
theorem dL_law_159 : decode cL_law 159 = .ok (.istore 6, 2) := by decide +kernel
theorem dL_law_161 : decode cL_law 161 = .ok (.aload_n 2, 1) := by decide +kernel
theorem dL_law_162 : decode cL_law 162 = .ok (.invokevirtual 81, 3) := by decide +kernel
theorem dL_law_165 : decode cL_law 165 = .ok (.iload 5, 2) := by decide +kernel
theorem dL_law_167 : decode cL_law 167 = .ok (.if_icmp .eq 5, 3) := by decide +kernel
theorem dL_law_170 : decode cL_law 170 = .ok (.iconst 0, 1) := by decide +kernel
theorem dL_law_171 : decode cL_law 171 = .ok (.ireturn, 1) := by decide +kernel
theorem dL_law_172 : decode cL_law 172 = .ok (.iload 5, 2) := by decide +kernel
theorem dL_law_174 : decode cL_law 174 = .ok (.ifCond .ne 15, 3) := by decide +kernel
theorem dL_law_177 : decode cL_law 177 = .ok (.aload_n 3, 1) := by decide +kernel
theorem dL_law_178 : decode cL_law 178 = .ok (.iconst 0, 1) := by decide +kernel
theorem dL_law_179 : decode cL_law 179 = .ok (.laload, 1) := by decide +kernel
theorem dL_law_180 : decode cL_law 180 = .ok (.iload 6, 2) := by decide +kernel
theorem dL_law_182 : decode cL_law 182 = .ok (.i2l, 1) := by decide +kernel
theorem dL_law_183 : decode cL_law 183 = .ok (.lcmp, 1) := by decide +kernel
theorem dL_law_184 : decode cL_law 184 = .ok (.ifCond .eq 5, 3) := by decide +kernel
theorem dL_law_187 : decode cL_law 187 = .ok (.iconst 0, 1) := by decide +kernel
theorem dL_law_188 : decode cL_law 188 = .ok (.ireturn, 1) := by decide +kernel
theorem dL_law_189 : decode cL_law 189 = .ok (.goto 1119, 3) := by decide +kernel
theorem dL_law_192 : decode cL_law 192 = .ok (.aload_n 1, 1) := by decide +kernel
theorem dL_law_193 : decode cL_law 193 = .ok (.aload_n 0, 1) := by decide +kernel
theorem dL_law_194 : decode cL_law 194 = .ok (.iload 4, 2) := by decide +kernel
theorem dL_law_196 : decode cL_law 196 = .ok (.iconst 1, 1) := by decide +kernel
theorem dL_law_197 : decode cL_law 197 = .ok (.iadd, 1) := by decide +kernel
theorem dL_law_198 : decode cL_law 198 = .ok (.iaload, 1) := by decide +kernel
theorem dL_law_199 : decode cL_law 199 = .ok (.aload_n 3, 1) := by decide +kernel
theorem dL_law_200 : decode cL_law 200 = .ok (.invokestatic 85, 3) := by decide +kernel
theorem dL_law_203 : decode cL_law 203 = .ok (.istore 5, 2) := by decide +kernel
theorem dL_law_205 : decode cL_law 205 = .ok (.aload_n 2, 1) := by decide +kernel
theorem dL_law_206 : decode cL_law 206 = .ok (.aload_n 0, 1) := by decide +kernel
theorem dL_law_207 : decode cL_law 207 = .ok (.iload 4, 2) := by decide +kernel
theorem dL_law_209 : decode cL_law 209 = .ok (.iconst 1, 1) := by decide +kernel
theorem dL_law_210 : decode cL_law 210 = .ok (.iadd, 1) := by decide +kernel
theorem dL_law_211 : decode cL_law 211 = .ok (.iaload, 1) := by decide +kernel
theorem dL_law_212 : decode cL_law 212 = .ok (.invokevirtual 87, 3) := by decide +kernel
theorem dL_law_215 : decode cL_law 215 = .ok (.istore 6, 2) := by decide +kernel
theorem dL_law_217 : decode cL_law 217 = .ok (.aload_n 2, 1) := by decide +kernel
theorem dL_law_218 : decode cL_law 218 = .ok (.invokevirtual 81, 3) := by decide +kernel
theorem dL_law_221 : decode cL_law 221 = .ok (.iload 5, 2) := by decide +kernel
theorem dL_law_223 : decode cL_law 223 = .ok (.if_icmp .eq 5, 3) := by decide +kernel
theorem dL_law_226 : decode cL_law 226 = .ok (.iconst 0, 1) := by decide +kernel
theorem dL_law_227 : decode cL_law 227 = .ok (.ireturn, 1) := by decide +kernel
theorem dL_law_228 : decode cL_law 228 = .ok (.iload 5, 2) := by decide +kernel
theorem dL_law_230 : decode cL_law 230 = .ok (.ifCond .ne 15, 3) := by decide +kernel
theorem dL_law_233 : decode cL_law 233 = .ok (.aload_n 3, 1) := by decide +kernel
theorem dL_law_234 : decode cL_law 234 = .ok (.iconst 0, 1) := by decide +kernel
theorem dL_law_235 : decode cL_law 235 = .ok (.laload, 1) := by decide +kernel
theorem dL_law_236 : decode cL_law 236 = .ok (.iload 6, 2) := by decide +kernel
theorem dL_law_238 : decode cL_law 238 = .ok (.i2l, 1) := by decide +kernel
theorem dL_law_239 : decode cL_law 239 = .ok (.lcmp, 1) := by decide +kernel
theorem dL_law_240 : decode cL_law 240 = .ok (.ifCond .eq 5, 3) := by decide +kernel
theorem dL_law_243 : decode cL_law 243 = .ok (.iconst 0, 1) := by decide +kernel
theorem dL_law_244 : decode cL_law 244 = .ok (.ireturn, 1) := by decide +kernel
theorem dL_law_245 : decode cL_law 245 = .ok (.goto 1063, 3) := by decide +kernel
theorem dL_law_248 : decode cL_law 248 = .ok (.aload_n 1, 1) := by decide +kernel
theorem dL_law_249 : decode cL_law 249 = .ok (.aload_n 0, 1) := by decide +kernel
theorem dL_law_250 : decode cL_law 250 = .ok (.iload 4, 2) := by decide +kernel
theorem dL_law_252 : decode cL_law 252 = .ok (.iconst 1, 1) := by decide +kernel
theorem dL_law_253 : decode cL_law 253 = .ok (.iadd, 1) := by decide +kernel
theorem dL_law_254 : decode cL_law 254 = .ok (.iaload, 1) := by decide +kernel
theorem dL_law_255 : decode cL_law 255 = .ok (.aload_n 0, 1) := by decide +kernel
theorem dL_law_256 : decode cL_law 256 = .ok (.iload 4, 2) := by decide +kernel
theorem dL_law_258 : decode cL_law 258 = .ok (.iconst 2, 1) := by decide +kernel
theorem dL_law_259 : decode cL_law 259 = .ok (.iadd, 1) := by decide +kernel
theorem dL_law_260 : decode cL_law 260 = .ok (.iaload, 1) := by decide +kernel
theorem dL_law_261 : decode cL_law 261 = .ok (.aload_n 3, 1) := by decide +kernel
theorem dL_law_262 : decode cL_law 262 = .ok (.invokestatic 88, 3) := by decide +kernel
theorem dL_law_265 : decode cL_law 265 = .ok (.istore 5, 2) := by decide +kernel
theorem dL_law_267 : decode cL_law 267 = .ok (.aload_n 2, 1) := by decide +kernel
theorem dL_law_268 : decode cL_law 268 = .ok (.aload_n 0, 1) := by decide +kernel
theorem dL_law_269 : decode cL_law 269 = .ok (.iload 4, 2) := by decide +kernel
theorem dL_law_271 : decode cL_law 271 = .ok (.iconst 1, 1) := by decide +kernel
theorem dL_law_272 : decode cL_law 272 = .ok (.iadd, 1) := by decide +kernel
theorem dL_law_273 : decode cL_law 273 = .ok (.iaload, 1) := by decide +kernel
theorem dL_law_274 : decode cL_law 274 = .ok (.aload_n 0, 1) := by decide +kernel
theorem dL_law_275 : decode cL_law 275 = .ok (.iload 4, 2) := by decide +kernel
theorem dL_law_277 : decode cL_law 277 = .ok (.iconst 2, 1) := by decide +kernel
theorem dL_law_278 : decode cL_law 278 = .ok (.iadd, 1) := by decide +kernel
theorem dL_law_279 : decode cL_law 279 = .ok (.iaload, 1) := by decide +kernel
theorem dL_law_280 : decode cL_law 280 = .ok (.invokevirtual 91, 3) := by decide +kernel
theorem dL_law_283 : decode cL_law 283 = .ok (.istore 6, 2) := by decide +kernel
theorem dL_law_285 : decode cL_law 285 = .ok (.aload_n 2, 1) := by decide +kernel
theorem dL_law_286 : decode cL_law 286 = .ok (.invokevirtual 81, 3) := by decide +kernel
theorem dL_law_289 : decode cL_law 289 = .ok (.iload 5, 2) := by decide +kernel
theorem dL_law_291 : decode cL_law 291 = .ok (.if_icmp .eq 5, 3) := by decide +kernel
theorem dL_law_294 : decode cL_law 294 = .ok (.iconst 0, 1) := by decide +kernel
theorem dL_law_295 : decode cL_law 295 = .ok (.ireturn, 1) := by decide +kernel
theorem dL_law_296 : decode cL_law 296 = .ok (.iload 5, 2) := by decide +kernel
theorem dL_law_298 : decode cL_law 298 = .ok (.ifCond .ne 15, 3) := by decide +kernel
theorem dL_law_301 : decode cL_law 301 = .ok (.aload_n 3, 1) := by decide +kernel
theorem dL_law_302 : decode cL_law 302 = .ok (.iconst 0, 1) := by decide +kernel
theorem dL_law_303 : decode cL_law 303 = .ok (.laload, 1) := by decide +kernel
theorem dL_law_304 : decode cL_law 304 = .ok (.iload 6, 2) := by decide +kernel
theorem dL_law_306 : decode cL_law 306 = .ok (.i2l, 1) := by decide +kernel
theorem dL_law_307 : decode cL_law 307 = .ok (.lcmp, 1) := by decide +kernel
theorem dL_law_308 : decode cL_law 308 = .ok (.ifCond .eq 5, 3) := by decide +kernel
theorem dL_law_311 : decode cL_law 311 = .ok (.iconst 0, 1) := by decide +kernel
theorem dL_law_312 : decode cL_law 312 = .ok (.ireturn, 1) := by decide +kernel
theorem dL_law_313 : decode cL_law 313 = .ok (.goto 995, 3) := by decide +kernel
theorem dL_law_316 : decode cL_law 316 = .ok (.aload_n 1, 1) := by decide +kernel
theorem dL_law_317 : decode cL_law 317 = .ok (.aload_n 0, 1) := by decide +kernel
theorem dL_law_318 : decode cL_law 318 = .ok (.iload 4, 2) := by decide +kernel
theorem dL_law_320 : decode cL_law 320 = .ok (.iconst 1, 1) := by decide +kernel
theorem dL_law_321 : decode cL_law 321 = .ok (.iadd, 1) := by decide +kernel
theorem dL_law_322 : decode cL_law 322 = .ok (.iaload, 1) := by decide +kernel
theorem dL_law_323 : decode cL_law 323 = .ok (.aload_n 3, 1) := by decide +kernel
theorem dL_law_324 : decode cL_law 324 = .ok (.invokestatic 92, 3) := by decide +kernel
theorem dL_law_327 : decode cL_law 327 = .ok (.istore 5, 2) := by decide +kernel
theorem dL_law_329 : decode cL_law 329 = .ok (.aload_n 2, 1) := by decide +kernel
theorem dL_law_330 : decode cL_law 330 = .ok (.aload_n 0, 1) := by decide +kernel
theorem dL_law_331 : decode cL_law 331 = .ok (.iload 4, 2) := by decide +kernel
theorem dL_law_333 : decode cL_law 333 = .ok (.iconst 1, 1) := by decide +kernel
theorem dL_law_334 : decode cL_law 334 = .ok (.iadd, 1) := by decide +kernel
theorem dL_law_335 : decode cL_law 335 = .ok (.iaload, 1) := by decide +kernel
theorem dL_law_336 : decode cL_law 336 = .ok (.invokevirtual 94, 3) := by decide +kernel
theorem dL_law_339 : decode cL_law 339 = .ok (.istore 6, 2) := by decide +kernel
theorem dL_law_341 : decode cL_law 341 = .ok (.aload_n 2, 1) := by decide +kernel
theorem dL_law_342 : decode cL_law 342 = .ok (.invokevirtual 81, 3) := by decide +kernel
theorem dL_law_345 : decode cL_law 345 = .ok (.iload 5, 2) := by decide +kernel
theorem dL_law_347 : decode cL_law 347 = .ok (.if_icmp .eq 5, 3) := by decide +kernel
theorem dL_law_350 : decode cL_law 350 = .ok (.iconst 0, 1) := by decide +kernel
theorem dL_law_351 : decode cL_law 351 = .ok (.ireturn, 1) := by decide +kernel
theorem dL_law_352 : decode cL_law 352 = .ok (.iload 5, 2) := by decide +kernel
theorem dL_law_354 : decode cL_law 354 = .ok (.ifCond .ne 15, 3) := by decide +kernel
theorem dL_law_357 : decode cL_law 357 = .ok (.aload_n 3, 1) := by decide +kernel
theorem dL_law_358 : decode cL_law 358 = .ok (.iconst 0, 1) := by decide +kernel
theorem dL_law_359 : decode cL_law 359 = .ok (.laload, 1) := by decide +kernel
theorem dL_law_360 : decode cL_law 360 = .ok (.iload 6, 2) := by decide +kernel
theorem dL_law_362 : decode cL_law 362 = .ok (.i2l, 1) := by decide +kernel
theorem dL_law_363 : decode cL_law 363 = .ok (.lcmp, 1) := by decide +kernel
theorem dL_law_364 : decode cL_law 364 = .ok (.ifCond .eq 5, 3) := by decide +kernel
theorem dL_law_367 : decode cL_law 367 = .ok (.iconst 0, 1) := by decide +kernel
theorem dL_law_368 : decode cL_law 368 = .ok (.ireturn, 1) := by decide +kernel
theorem dL_law_369 : decode cL_law 369 = .ok (.goto 939, 3) := by decide +kernel
theorem dL_law_372 : decode cL_law 372 = .ok (.aload_n 1, 1) := by decide +kernel
theorem dL_law_373 : decode cL_law 373 = .ok (.aload_n 0, 1) := by decide +kernel
theorem dL_law_374 : decode cL_law 374 = .ok (.iload 4, 2) := by decide +kernel
theorem dL_law_376 : decode cL_law 376 = .ok (.iconst 1, 1) := by decide +kernel
theorem dL_law_377 : decode cL_law 377 = .ok (.iadd, 1) := by decide +kernel
theorem dL_law_378 : decode cL_law 378 = .ok (.iaload, 1) := by decide +kernel
theorem dL_law_379 : decode cL_law 379 = .ok (.aload_n 0, 1) := by decide +kernel
theorem dL_law_380 : decode cL_law 380 = .ok (.iload 4, 2) := by decide +kernel
theorem dL_law_382 : decode cL_law 382 = .ok (.iconst 2, 1) := by decide +kernel
theorem dL_law_383 : decode cL_law 383 = .ok (.iadd, 1) := by decide +kernel
theorem dL_law_384 : decode cL_law 384 = .ok (.iaload, 1) := by decide +kernel
theorem dL_law_385 : decode cL_law 385 = .ok (.aload_n 3, 1) := by decide +kernel
theorem dL_law_386 : decode cL_law 386 = .ok (.invokestatic 95, 3) := by decide +kernel
theorem dL_law_389 : decode cL_law 389 = .ok (.istore 5, 2) := by decide +kernel
theorem dL_law_391 : decode cL_law 391 = .ok (.aload_n 2, 1) := by decide +kernel
theorem dL_law_392 : decode cL_law 392 = .ok (.aload_n 0, 1) := by decide +kernel
theorem dL_law_393 : decode cL_law 393 = .ok (.iload 4, 2) := by decide +kernel
theorem dL_law_395 : decode cL_law 395 = .ok (.iconst 1, 1) := by decide +kernel
theorem dL_law_396 : decode cL_law 396 = .ok (.iadd, 1) := by decide +kernel
theorem dL_law_397 : decode cL_law 397 = .ok (.iaload, 1) := by decide +kernel
theorem dL_law_398 : decode cL_law 398 = .ok (.aload_n 0, 1) := by decide +kernel
theorem dL_law_399 : decode cL_law 399 = .ok (.iload 4, 2) := by decide +kernel
theorem dL_law_401 : decode cL_law 401 = .ok (.iconst 2, 1) := by decide +kernel
theorem dL_law_402 : decode cL_law 402 = .ok (.iadd, 1) := by decide +kernel
theorem dL_law_403 : decode cL_law 403 = .ok (.iaload, 1) := by decide +kernel
theorem dL_law_404 : decode cL_law 404 = .ok (.invokevirtual 97, 3) := by decide +kernel
theorem dL_law_407 : decode cL_law 407 = .ok (.istore 6, 2) := by decide +kernel
theorem dL_law_409 : decode cL_law 409 = .ok (.aload_n 2, 1) := by decide +kernel
theorem dL_law_410 : decode cL_law 410 = .ok (.invokevirtual 81, 3) := by decide +kernel
theorem dL_law_413 : decode cL_law 413 = .ok (.iload 5, 2) := by decide +kernel
theorem dL_law_415 : decode cL_law 415 = .ok (.if_icmp .eq 5, 3) := by decide +kernel
theorem dL_law_418 : decode cL_law 418 = .ok (.iconst 0, 1) := by decide +kernel
theorem dL_law_419 : decode cL_law 419 = .ok (.ireturn, 1) := by decide +kernel
theorem dL_law_420 : decode cL_law 420 = .ok (.iload 5, 2) := by decide +kernel
theorem dL_law_422 : decode cL_law 422 = .ok (.ifCond .ne 15, 3) := by decide +kernel
theorem dL_law_425 : decode cL_law 425 = .ok (.aload_n 3, 1) := by decide +kernel
theorem dL_law_426 : decode cL_law 426 = .ok (.iconst 0, 1) := by decide +kernel
theorem dL_law_427 : decode cL_law 427 = .ok (.laload, 1) := by decide +kernel
theorem dL_law_428 : decode cL_law 428 = .ok (.iload 6, 2) := by decide +kernel
theorem dL_law_430 : decode cL_law 430 = .ok (.i2l, 1) := by decide +kernel
theorem dL_law_431 : decode cL_law 431 = .ok (.lcmp, 1) := by decide +kernel
theorem dL_law_432 : decode cL_law 432 = .ok (.ifCond .eq 5, 3) := by decide +kernel
theorem dL_law_435 : decode cL_law 435 = .ok (.iconst 0, 1) := by decide +kernel
theorem dL_law_436 : decode cL_law 436 = .ok (.ireturn, 1) := by decide +kernel
theorem dL_law_437 : decode cL_law 437 = .ok (.goto 871, 3) := by decide +kernel
theorem dL_law_440 : decode cL_law 440 = .ok (.aload_n 1, 1) := by decide +kernel
theorem dL_law_441 : decode cL_law 441 = .ok (.aload_n 0, 1) := by decide +kernel
theorem dL_law_442 : decode cL_law 442 = .ok (.iload 4, 2) := by decide +kernel
theorem dL_law_444 : decode cL_law 444 = .ok (.iconst 1, 1) := by decide +kernel
theorem dL_law_445 : decode cL_law 445 = .ok (.iadd, 1) := by decide +kernel
theorem dL_law_446 : decode cL_law 446 = .ok (.iaload, 1) := by decide +kernel
theorem dL_law_447 : decode cL_law 447 = .ok (.aload_n 3, 1) := by decide +kernel
theorem dL_law_448 : decode cL_law 448 = .ok (.invokestatic 98, 3) := by decide +kernel
theorem dL_law_451 : decode cL_law 451 = .ok (.istore 5, 2) := by decide +kernel
theorem dL_law_453 : decode cL_law 453 = .ok (.aload_n 2, 1) := by decide +kernel
theorem dL_law_454 : decode cL_law 454 = .ok (.aload_n 0, 1) := by decide +kernel
theorem dL_law_455 : decode cL_law 455 = .ok (.iload 4, 2) := by decide +kernel
theorem dL_law_457 : decode cL_law 457 = .ok (.iconst 1, 1) := by decide +kernel
theorem dL_law_458 : decode cL_law 458 = .ok (.iadd, 1) := by decide +kernel
theorem dL_law_459 : decode cL_law 459 = .ok (.iaload, 1) := by decide +kernel
theorem dL_law_460 : decode cL_law 460 = .ok (.invokevirtual 100, 3) := by decide +kernel
theorem dL_law_463 : decode cL_law 463 = .ok (.istore 6, 2) := by decide +kernel
theorem dL_law_465 : decode cL_law 465 = .ok (.aload_n 2, 1) := by decide +kernel
theorem dL_law_466 : decode cL_law 466 = .ok (.invokevirtual 81, 3) := by decide +kernel
theorem dL_law_469 : decode cL_law 469 = .ok (.iload 5, 2) := by decide +kernel
theorem dL_law_471 : decode cL_law 471 = .ok (.if_icmp .eq 5, 3) := by decide +kernel
theorem dL_law_474 : decode cL_law 474 = .ok (.iconst 0, 1) := by decide +kernel
theorem dL_law_475 : decode cL_law 475 = .ok (.ireturn, 1) := by decide +kernel
theorem dL_law_476 : decode cL_law 476 = .ok (.iload 5, 2) := by decide +kernel
theorem dL_law_478 : decode cL_law 478 = .ok (.ifCond .ne 15, 3) := by decide +kernel
theorem dL_law_481 : decode cL_law 481 = .ok (.aload_n 3, 1) := by decide +kernel
theorem dL_law_482 : decode cL_law 482 = .ok (.iconst 0, 1) := by decide +kernel
theorem dL_law_483 : decode cL_law 483 = .ok (.laload, 1) := by decide +kernel
theorem dL_law_484 : decode cL_law 484 = .ok (.iload 6, 2) := by decide +kernel
theorem dL_law_486 : decode cL_law 486 = .ok (.i2l, 1) := by decide +kernel
theorem dL_law_487 : decode cL_law 487 = .ok (.lcmp, 1) := by decide +kernel
theorem dL_law_488 : decode cL_law 488 = .ok (.ifCond .eq 5, 3) := by decide +kernel
theorem dL_law_491 : decode cL_law 491 = .ok (.iconst 0, 1) := by decide +kernel
theorem dL_law_492 : decode cL_law 492 = .ok (.ireturn, 1) := by decide +kernel
theorem dL_law_493 : decode cL_law 493 = .ok (.goto 815, 3) := by decide +kernel
theorem dL_law_496 : decode cL_law 496 = .ok (.aload_n 1, 1) := by decide +kernel
theorem dL_law_497 : decode cL_law 497 = .ok (.aload_n 0, 1) := by decide +kernel
theorem dL_law_498 : decode cL_law 498 = .ok (.iload 4, 2) := by decide +kernel
theorem dL_law_500 : decode cL_law 500 = .ok (.iconst 1, 1) := by decide +kernel
theorem dL_law_501 : decode cL_law 501 = .ok (.iadd, 1) := by decide +kernel
theorem dL_law_502 : decode cL_law 502 = .ok (.iaload, 1) := by decide +kernel
theorem dL_law_503 : decode cL_law 503 = .ok (.aload_n 0, 1) := by decide +kernel
theorem dL_law_504 : decode cL_law 504 = .ok (.iload 4, 2) := by decide +kernel
theorem dL_law_506 : decode cL_law 506 = .ok (.iconst 2, 1) := by decide +kernel
theorem dL_law_507 : decode cL_law 507 = .ok (.iadd, 1) := by decide +kernel
theorem dL_law_508 : decode cL_law 508 = .ok (.iaload, 1) := by decide +kernel
theorem dL_law_509 : decode cL_law 509 = .ok (.aload_n 3, 1) := by decide +kernel
theorem dL_law_510 : decode cL_law 510 = .ok (.invokestatic 101, 3) := by decide +kernel
theorem dL_law_513 : decode cL_law 513 = .ok (.istore 5, 2) := by decide +kernel
theorem dL_law_515 : decode cL_law 515 = .ok (.aload_n 2, 1) := by decide +kernel
theorem dL_law_516 : decode cL_law 516 = .ok (.aload_n 0, 1) := by decide +kernel
theorem dL_law_517 : decode cL_law 517 = .ok (.iload 4, 2) := by decide +kernel
theorem dL_law_519 : decode cL_law 519 = .ok (.iconst 1, 1) := by decide +kernel
theorem dL_law_520 : decode cL_law 520 = .ok (.iadd, 1) := by decide +kernel
theorem dL_law_521 : decode cL_law 521 = .ok (.iaload, 1) := by decide +kernel
theorem dL_law_522 : decode cL_law 522 = .ok (.aload_n 0, 1) := by decide +kernel
theorem dL_law_523 : decode cL_law 523 = .ok (.iload 4, 2) := by decide +kernel
theorem dL_law_525 : decode cL_law 525 = .ok (.iconst 2, 1) := by decide +kernel
theorem dL_law_526 : decode cL_law 526 = .ok (.iadd, 1) := by decide +kernel
theorem dL_law_527 : decode cL_law 527 = .ok (.iaload, 1) := by decide +kernel
theorem dL_law_528 : decode cL_law 528 = .ok (.invokevirtual 103, 3) := by decide +kernel
theorem dL_law_531 : decode cL_law 531 = .ok (.istore 6, 2) := by decide +kernel
theorem dL_law_533 : decode cL_law 533 = .ok (.aload_n 2, 1) := by decide +kernel
theorem dL_law_534 : decode cL_law 534 = .ok (.invokevirtual 81, 3) := by decide +kernel
theorem dL_law_537 : decode cL_law 537 = .ok (.iload 5, 2) := by decide +kernel
theorem dL_law_539 : decode cL_law 539 = .ok (.if_icmp .eq 5, 3) := by decide +kernel
theorem dL_law_542 : decode cL_law 542 = .ok (.iconst 0, 1) := by decide +kernel
theorem dL_law_543 : decode cL_law 543 = .ok (.ireturn, 1) := by decide +kernel
theorem dL_law_544 : decode cL_law 544 = .ok (.iload 5, 2) := by decide +kernel
theorem dL_law_546 : decode cL_law 546 = .ok (.ifCond .ne 15, 3) := by decide +kernel
theorem dL_law_549 : decode cL_law 549 = .ok (.aload_n 3, 1) := by decide +kernel
theorem dL_law_550 : decode cL_law 550 = .ok (.iconst 0, 1) := by decide +kernel
theorem dL_law_551 : decode cL_law 551 = .ok (.laload, 1) := by decide +kernel
theorem dL_law_552 : decode cL_law 552 = .ok (.iload 6, 2) := by decide +kernel
theorem dL_law_554 : decode cL_law 554 = .ok (.i2l, 1) := by decide +kernel
theorem dL_law_555 : decode cL_law 555 = .ok (.lcmp, 1) := by decide +kernel
theorem dL_law_556 : decode cL_law 556 = .ok (.ifCond .eq 5, 3) := by decide +kernel
theorem dL_law_559 : decode cL_law 559 = .ok (.iconst 0, 1) := by decide +kernel
theorem dL_law_560 : decode cL_law 560 = .ok (.ireturn, 1) := by decide +kernel
theorem dL_law_561 : decode cL_law 561 = .ok (.goto 747, 3) := by decide +kernel
theorem dL_law_564 : decode cL_law 564 = .ok (.aload_n 1, 1) := by decide +kernel
theorem dL_law_565 : decode cL_law 565 = .ok (.aload_n 0, 1) := by decide +kernel
theorem dL_law_566 : decode cL_law 566 = .ok (.iload 4, 2) := by decide +kernel
theorem dL_law_568 : decode cL_law 568 = .ok (.iconst 1, 1) := by decide +kernel
theorem dL_law_569 : decode cL_law 569 = .ok (.iadd, 1) := by decide +kernel
theorem dL_law_570 : decode cL_law 570 = .ok (.iaload, 1) := by decide +kernel
theorem dL_law_571 : decode cL_law 571 = .ok (.aload_n 3, 1) := by decide +kernel
theorem dL_law_572 : decode cL_law 572 = .ok (.invokestatic 104, 3) := by decide +kernel
theorem dL_law_575 : decode cL_law 575 = .ok (.istore 5, 2) := by decide +kernel
theorem dL_law_577 : decode cL_law 577 = .ok (.aload_n 2, 1) := by decide +kernel
theorem dL_law_578 : decode cL_law 578 = .ok (.aload_n 0, 1) := by decide +kernel
theorem dL_law_579 : decode cL_law 579 = .ok (.iload 4, 2) := by decide +kernel
theorem dL_law_581 : decode cL_law 581 = .ok (.iconst 1, 1) := by decide +kernel
theorem dL_law_582 : decode cL_law 582 = .ok (.iadd, 1) := by decide +kernel
theorem dL_law_583 : decode cL_law 583 = .ok (.iaload, 1) := by decide +kernel
theorem dL_law_584 : decode cL_law 584 = .ok (.invokevirtual 106, 3) := by decide +kernel
theorem dL_law_587 : decode cL_law 587 = .ok (.istore 6, 2) := by decide +kernel
theorem dL_law_589 : decode cL_law 589 = .ok (.aload_n 2, 1) := by decide +kernel
theorem dL_law_590 : decode cL_law 590 = .ok (.invokevirtual 81, 3) := by decide +kernel
theorem dL_law_593 : decode cL_law 593 = .ok (.iload 5, 2) := by decide +kernel
theorem dL_law_595 : decode cL_law 595 = .ok (.if_icmp .eq 5, 3) := by decide +kernel
theorem dL_law_598 : decode cL_law 598 = .ok (.iconst 0, 1) := by decide +kernel
theorem dL_law_599 : decode cL_law 599 = .ok (.ireturn, 1) := by decide +kernel
theorem dL_law_600 : decode cL_law 600 = .ok (.iload 5, 2) := by decide +kernel
theorem dL_law_602 : decode cL_law 602 = .ok (.ifCond .ne 15, 3) := by decide +kernel
theorem dL_law_605 : decode cL_law 605 = .ok (.aload_n 3, 1) := by decide +kernel
theorem dL_law_606 : decode cL_law 606 = .ok (.iconst 0, 1) := by decide +kernel
theorem dL_law_607 : decode cL_law 607 = .ok (.laload, 1) := by decide +kernel
theorem dL_law_608 : decode cL_law 608 = .ok (.iload 6, 2) := by decide +kernel
theorem dL_law_610 : decode cL_law 610 = .ok (.i2l, 1) := by decide +kernel
theorem dL_law_611 : decode cL_law 611 = .ok (.lcmp, 1) := by decide +kernel
theorem dL_law_612 : decode cL_law 612 = .ok (.ifCond .eq 5, 3) := by decide +kernel
theorem dL_law_615 : decode cL_law 615 = .ok (.iconst 0, 1) := by decide +kernel
theorem dL_law_616 : decode cL_law 616 = .ok (.ireturn, 1) := by decide +kernel
theorem dL_law_617 : decode cL_law 617 = .ok (.goto 691, 3) := by decide +kernel
theorem dL_law_620 : decode cL_law 620 = .ok (.aload_n 1, 1) := by decide +kernel
theorem dL_law_621 : decode cL_law 621 = .ok (.invokevirtual 107, 3) := by decide +kernel
theorem dL_law_624 : decode cL_law 624 = .ok (.aload_n 2, 1) := by decide +kernel
theorem dL_law_625 : decode cL_law 625 = .ok (.invokevirtual 110, 3) := by decide +kernel
theorem dL_law_628 : decode cL_law 628 = .ok (.if_icmp .eq 680, 3) := by decide +kernel
theorem dL_law_631 : decode cL_law 631 = .ok (.iconst 0, 1) := by decide +kernel
theorem dL_law_632 : decode cL_law 632 = .ok (.ireturn, 1) := by decide +kernel
theorem dL_law_633 : decode cL_law 633 = .ok (.aload_n 1, 1) := by decide +kernel
theorem dL_law_634 : decode cL_law 634 = .ok (.aload_n 0, 1) := by decide +kernel
theorem dL_law_635 : decode cL_law 635 = .ok (.iload 4, 2) := by decide +kernel
theorem dL_law_637 : decode cL_law 637 = .ok (.iconst 1, 1) := by decide +kernel
theorem dL_law_638 : decode cL_law 638 = .ok (.iadd, 1) := by decide +kernel
theorem dL_law_639 : decode cL_law 639 = .ok (.iaload, 1) := by decide +kernel
theorem dL_law_640 : decode cL_law 640 = .ok (.aload_n 0, 1) := by decide +kernel
theorem dL_law_641 : decode cL_law 641 = .ok (.iload 4, 2) := by decide +kernel
theorem dL_law_643 : decode cL_law 643 = .ok (.iconst 2, 1) := by decide +kernel
theorem dL_law_644 : decode cL_law 644 = .ok (.iadd, 1) := by decide +kernel
theorem dL_law_645 : decode cL_law 645 = .ok (.iaload, 1) := by decide +kernel
theorem dL_law_646 : decode cL_law 646 = .ok (.aload_n 3, 1) := by decide +kernel
theorem dL_law_647 : decode cL_law 647 = .ok (.invokestatic 111, 3) := by decide +kernel
theorem dL_law_650 : decode cL_law 650 = .ok (.istore 5, 2) := by decide +kernel
theorem dL_law_652 : decode cL_law 652 = .ok (.aload_n 2, 1) := by decide +kernel
theorem dL_law_653 : decode cL_law 653 = .ok (.aload_n 0, 1) := by decide +kernel
theorem dL_law_654 : decode cL_law 654 = .ok (.iload 4, 2) := by decide +kernel
theorem dL_law_656 : decode cL_law 656 = .ok (.iconst 1, 1) := by decide +kernel
theorem dL_law_657 : decode cL_law 657 = .ok (.iadd, 1) := by decide +kernel
theorem dL_law_658 : decode cL_law 658 = .ok (.iaload, 1) := by decide +kernel
theorem dL_law_659 : decode cL_law 659 = .ok (.aload_n 0, 1) := by decide +kernel
theorem dL_law_660 : decode cL_law 660 = .ok (.iload 4, 2) := by decide +kernel
theorem dL_law_662 : decode cL_law 662 = .ok (.iconst 2, 1) := by decide +kernel
theorem dL_law_663 : decode cL_law 663 = .ok (.iadd, 1) := by decide +kernel
theorem dL_law_664 : decode cL_law 664 = .ok (.iaload, 1) := by decide +kernel
theorem dL_law_665 : decode cL_law 665 = .ok (.invokevirtual 113, 3) := by decide +kernel
theorem dL_law_668 : decode cL_law 668 = .ok (.istore 6, 2) := by decide +kernel
theorem dL_law_670 : decode cL_law 670 = .ok (.aload_n 2, 1) := by decide +kernel
theorem dL_law_671 : decode cL_law 671 = .ok (.invokevirtual 81, 3) := by decide +kernel
theorem dL_law_674 : decode cL_law 674 = .ok (.iload 5, 2) := by decide +kernel
theorem dL_law_676 : decode cL_law 676 = .ok (.if_icmp .eq 5, 3) := by decide +kernel
theorem dL_law_679 : decode cL_law 679 = .ok (.iconst 0, 1) := by decide +kernel
theorem dL_law_680 : decode cL_law 680 = .ok (.ireturn, 1) := by decide +kernel
theorem dL_law_681 : decode cL_law 681 = .ok (.iload 5, 2) := by decide +kernel
theorem dL_law_683 : decode cL_law 683 = .ok (.ifCond .ne 15, 3) := by decide +kernel
theorem dL_law_686 : decode cL_law 686 = .ok (.aload_n 3, 1) := by decide +kernel
theorem dL_law_687 : decode cL_law 687 = .ok (.iconst 0, 1) := by decide +kernel
theorem dL_law_688 : decode cL_law 688 = .ok (.laload, 1) := by decide +kernel
theorem dL_law_689 : decode cL_law 689 = .ok (.iload 6, 2) := by decide +kernel
theorem dL_law_691 : decode cL_law 691 = .ok (.i2l, 1) := by decide +kernel
theorem dL_law_692 : decode cL_law 692 = .ok (.lcmp, 1) := by decide +kernel
theorem dL_law_693 : decode cL_law 693 = .ok (.ifCond .eq 5, 3) := by decide +kernel
theorem dL_law_696 : decode cL_law 696 = .ok (.iconst 0, 1) := by decide +kernel
theorem dL_law_697 : decode cL_law 697 = .ok (.ireturn, 1) := by decide +kernel
theorem dL_law_698 : decode cL_law 698 = .ok (.goto 610, 3) := by decide +kernel
theorem dL_law_701 : decode cL_law 701 = .ok (.aload_n 1, 1) := by decide +kernel
theorem dL_law_702 : decode cL_law 702 = .ok (.aload_n 0, 1) := by decide +kernel
theorem dL_law_703 : decode cL_law 703 = .ok (.iload 4, 2) := by decide +kernel
theorem dL_law_705 : decode cL_law 705 = .ok (.iconst 1, 1) := by decide +kernel
theorem dL_law_706 : decode cL_law 706 = .ok (.iadd, 1) := by decide +kernel
theorem dL_law_707 : decode cL_law 707 = .ok (.iaload, 1) := by decide +kernel
theorem dL_law_708 : decode cL_law 708 = .ok (.aload_n 0, 1) := by decide +kernel
theorem dL_law_709 : decode cL_law 709 = .ok (.iload 4, 2) := by decide +kernel
theorem dL_law_711 : decode cL_law 711 = .ok (.iconst 2, 1) := by decide +kernel
theorem dL_law_712 : decode cL_law 712 = .ok (.iadd, 1) := by decide +kernel
theorem dL_law_713 : decode cL_law 713 = .ok (.iaload, 1) := by decide +kernel
theorem dL_law_714 : decode cL_law 714 = .ok (.aload_n 3, 1) := by decide +kernel
theorem dL_law_715 : decode cL_law 715 = .ok (.invokestatic 114, 3) := by decide +kernel
theorem dL_law_718 : decode cL_law 718 = .ok (.istore 5, 2) := by decide +kernel
theorem dL_law_720 : decode cL_law 720 = .ok (.aload_n 2, 1) := by decide +kernel
theorem dL_law_721 : decode cL_law 721 = .ok (.aload_n 0, 1) := by decide +kernel
theorem dL_law_722 : decode cL_law 722 = .ok (.iload 4, 2) := by decide +kernel
theorem dL_law_724 : decode cL_law 724 = .ok (.iconst 1, 1) := by decide +kernel
theorem dL_law_725 : decode cL_law 725 = .ok (.iadd, 1) := by decide +kernel
theorem dL_law_726 : decode cL_law 726 = .ok (.iaload, 1) := by decide +kernel
theorem dL_law_727 : decode cL_law 727 = .ok (.aload_n 0, 1) := by decide +kernel
theorem dL_law_728 : decode cL_law 728 = .ok (.iload 4, 2) := by decide +kernel
theorem dL_law_730 : decode cL_law 730 = .ok (.iconst 2, 1) := by decide +kernel
theorem dL_law_731 : decode cL_law 731 = .ok (.iadd, 1) := by decide +kernel
theorem dL_law_732 : decode cL_law 732 = .ok (.iaload, 1) := by decide +kernel
theorem dL_law_733 : decode cL_law 733 = .ok (.invokevirtual 116, 3) := by decide +kernel
theorem dL_law_736 : decode cL_law 736 = .ok (.istore 6, 2) := by decide +kernel
theorem dL_law_738 : decode cL_law 738 = .ok (.aload_n 2, 1) := by decide +kernel
theorem dL_law_739 : decode cL_law 739 = .ok (.invokevirtual 81, 3) := by decide +kernel
theorem dL_law_742 : decode cL_law 742 = .ok (.iload 5, 2) := by decide +kernel
theorem dL_law_744 : decode cL_law 744 = .ok (.if_icmp .eq 5, 3) := by decide +kernel
theorem dL_law_747 : decode cL_law 747 = .ok (.iconst 0, 1) := by decide +kernel
theorem dL_law_748 : decode cL_law 748 = .ok (.ireturn, 1) := by decide +kernel
theorem dL_law_749 : decode cL_law 749 = .ok (.iload 5, 2) := by decide +kernel
theorem dL_law_751 : decode cL_law 751 = .ok (.ifCond .ne 15, 3) := by decide +kernel
theorem dL_law_754 : decode cL_law 754 = .ok (.aload_n 3, 1) := by decide +kernel
theorem dL_law_755 : decode cL_law 755 = .ok (.iconst 0, 1) := by decide +kernel
theorem dL_law_756 : decode cL_law 756 = .ok (.laload, 1) := by decide +kernel
theorem dL_law_757 : decode cL_law 757 = .ok (.iload 6, 2) := by decide +kernel
theorem dL_law_759 : decode cL_law 759 = .ok (.i2l, 1) := by decide +kernel
theorem dL_law_760 : decode cL_law 760 = .ok (.lcmp, 1) := by decide +kernel
theorem dL_law_761 : decode cL_law 761 = .ok (.ifCond .eq 5, 3) := by decide +kernel
theorem dL_law_764 : decode cL_law 764 = .ok (.iconst 0, 1) := by decide +kernel
theorem dL_law_765 : decode cL_law 765 = .ok (.ireturn, 1) := by decide +kernel
theorem dL_law_766 : decode cL_law 766 = .ok (.goto 542, 3) := by decide +kernel
theorem dL_law_769 : decode cL_law 769 = .ok (.aload_n 1, 1) := by decide +kernel
theorem dL_law_770 : decode cL_law 770 = .ok (.aload_n 0, 1) := by decide +kernel
theorem dL_law_771 : decode cL_law 771 = .ok (.iload 4, 2) := by decide +kernel
theorem dL_law_773 : decode cL_law 773 = .ok (.iconst 1, 1) := by decide +kernel
theorem dL_law_774 : decode cL_law 774 = .ok (.iadd, 1) := by decide +kernel
theorem dL_law_775 : decode cL_law 775 = .ok (.iaload, 1) := by decide +kernel
theorem dL_law_776 : decode cL_law 776 = .ok (.aload_n 0, 1) := by decide +kernel
theorem dL_law_777 : decode cL_law 777 = .ok (.iload 4, 2) := by decide +kernel
theorem dL_law_779 : decode cL_law 779 = .ok (.iconst 2, 1) := by decide +kernel
theorem dL_law_780 : decode cL_law 780 = .ok (.iadd, 1) := by decide +kernel
theorem dL_law_781 : decode cL_law 781 = .ok (.iaload, 1) := by decide +kernel
theorem dL_law_782 : decode cL_law 782 = .ok (.aload_n 3, 1) := by decide +kernel
theorem dL_law_783 : decode cL_law 783 = .ok (.invokestatic 117, 3) := by decide +kernel
theorem dL_law_786 : decode cL_law 786 = .ok (.istore 5, 2) := by decide +kernel
theorem dL_law_788 : decode cL_law 788 = .ok (.aload_n 2, 1) := by decide +kernel
theorem dL_law_789 : decode cL_law 789 = .ok (.aload_n 0, 1) := by decide +kernel
theorem dL_law_790 : decode cL_law 790 = .ok (.iload 4, 2) := by decide +kernel
theorem dL_law_792 : decode cL_law 792 = .ok (.iconst 1, 1) := by decide +kernel
theorem dL_law_793 : decode cL_law 793 = .ok (.iadd, 1) := by decide +kernel
theorem dL_law_794 : decode cL_law 794 = .ok (.iaload, 1) := by decide +kernel
theorem dL_law_795 : decode cL_law 795 = .ok (.aload_n 0, 1) := by decide +kernel
theorem dL_law_796 : decode cL_law 796 = .ok (.iload 4, 2) := by decide +kernel
theorem dL_law_798 : decode cL_law 798 = .ok (.iconst 2, 1) := by decide +kernel
theorem dL_law_799 : decode cL_law 799 = .ok (.iadd, 1) := by decide +kernel
theorem dL_law_800 : decode cL_law 800 = .ok (.iaload, 1) := by decide +kernel
theorem dL_law_801 : decode cL_law 801 = .ok (.invokevirtual 119, 3) := by decide +kernel
theorem dL_law_804 : decode cL_law 804 = .ok (.istore 6, 2) := by decide +kernel
theorem dL_law_806 : decode cL_law 806 = .ok (.aload_n 2, 1) := by decide +kernel
theorem dL_law_807 : decode cL_law 807 = .ok (.invokevirtual 81, 3) := by decide +kernel
theorem dL_law_810 : decode cL_law 810 = .ok (.iload 5, 2) := by decide +kernel
theorem dL_law_812 : decode cL_law 812 = .ok (.if_icmp .eq 5, 3) := by decide +kernel
theorem dL_law_815 : decode cL_law 815 = .ok (.iconst 0, 1) := by decide +kernel
theorem dL_law_816 : decode cL_law 816 = .ok (.ireturn, 1) := by decide +kernel
theorem dL_law_817 : decode cL_law 817 = .ok (.iload 5, 2) := by decide +kernel
theorem dL_law_819 : decode cL_law 819 = .ok (.ifCond .ne 15, 3) := by decide +kernel
theorem dL_law_822 : decode cL_law 822 = .ok (.aload_n 3, 1) := by decide +kernel
theorem dL_law_823 : decode cL_law 823 = .ok (.iconst 0, 1) := by decide +kernel
theorem dL_law_824 : decode cL_law 824 = .ok (.laload, 1) := by decide +kernel
theorem dL_law_825 : decode cL_law 825 = .ok (.iload 6, 2) := by decide +kernel
theorem dL_law_827 : decode cL_law 827 = .ok (.i2l, 1) := by decide +kernel
theorem dL_law_828 : decode cL_law 828 = .ok (.lcmp, 1) := by decide +kernel
theorem dL_law_829 : decode cL_law 829 = .ok (.ifCond .eq 5, 3) := by decide +kernel
theorem dL_law_832 : decode cL_law 832 = .ok (.iconst 0, 1) := by decide +kernel
theorem dL_law_833 : decode cL_law 833 = .ok (.ireturn, 1) := by decide +kernel
theorem dL_law_834 : decode cL_law 834 = .ok (.goto 474, 3) := by decide +kernel
theorem dL_law_837 : decode cL_law 837 = .ok (.aload_n 1, 1) := by decide +kernel
theorem dL_law_838 : decode cL_law 838 = .ok (.aload_n 0, 1) := by decide +kernel
theorem dL_law_839 : decode cL_law 839 = .ok (.iload 4, 2) := by decide +kernel
theorem dL_law_841 : decode cL_law 841 = .ok (.iconst 1, 1) := by decide +kernel
theorem dL_law_842 : decode cL_law 842 = .ok (.iadd, 1) := by decide +kernel
theorem dL_law_843 : decode cL_law 843 = .ok (.iaload, 1) := by decide +kernel
theorem dL_law_844 : decode cL_law 844 = .ok (.aload_n 0, 1) := by decide +kernel
theorem dL_law_845 : decode cL_law 845 = .ok (.iload 4, 2) := by decide +kernel
theorem dL_law_847 : decode cL_law 847 = .ok (.iconst 2, 1) := by decide +kernel
theorem dL_law_848 : decode cL_law 848 = .ok (.iadd, 1) := by decide +kernel
theorem dL_law_849 : decode cL_law 849 = .ok (.iaload, 1) := by decide +kernel
theorem dL_law_850 : decode cL_law 850 = .ok (.aload_n 3, 1) := by decide +kernel
theorem dL_law_851 : decode cL_law 851 = .ok (.invokestatic 120, 3) := by decide +kernel
theorem dL_law_854 : decode cL_law 854 = .ok (.istore 5, 2) := by decide +kernel
theorem dL_law_856 : decode cL_law 856 = .ok (.aload_n 2, 1) := by decide +kernel
theorem dL_law_857 : decode cL_law 857 = .ok (.aload_n 0, 1) := by decide +kernel
theorem dL_law_858 : decode cL_law 858 = .ok (.iload 4, 2) := by decide +kernel
theorem dL_law_860 : decode cL_law 860 = .ok (.iconst 1, 1) := by decide +kernel
theorem dL_law_861 : decode cL_law 861 = .ok (.iadd, 1) := by decide +kernel
theorem dL_law_862 : decode cL_law 862 = .ok (.iaload, 1) := by decide +kernel
theorem dL_law_863 : decode cL_law 863 = .ok (.aload_n 0, 1) := by decide +kernel
theorem dL_law_864 : decode cL_law 864 = .ok (.iload 4, 2) := by decide +kernel
theorem dL_law_866 : decode cL_law 866 = .ok (.iconst 2, 1) := by decide +kernel
theorem dL_law_867 : decode cL_law 867 = .ok (.iadd, 1) := by decide +kernel
theorem dL_law_868 : decode cL_law 868 = .ok (.iaload, 1) := by decide +kernel
theorem dL_law_869 : decode cL_law 869 = .ok (.invokevirtual 122, 3) := by decide +kernel
theorem dL_law_872 : decode cL_law 872 = .ok (.istore 6, 2) := by decide +kernel
theorem dL_law_874 : decode cL_law 874 = .ok (.aload_n 2, 1) := by decide +kernel
theorem dL_law_875 : decode cL_law 875 = .ok (.invokevirtual 81, 3) := by decide +kernel
theorem dL_law_878 : decode cL_law 878 = .ok (.iload 5, 2) := by decide +kernel
theorem dL_law_880 : decode cL_law 880 = .ok (.if_icmp .eq 5, 3) := by decide +kernel
theorem dL_law_883 : decode cL_law 883 = .ok (.iconst 0, 1) := by decide +kernel
theorem dL_law_884 : decode cL_law 884 = .ok (.ireturn, 1) := by decide +kernel
theorem dL_law_885 : decode cL_law 885 = .ok (.iload 5, 2) := by decide +kernel
theorem dL_law_887 : decode cL_law 887 = .ok (.ifCond .ne 15, 3) := by decide +kernel
theorem dL_law_890 : decode cL_law 890 = .ok (.aload_n 3, 1) := by decide +kernel
theorem dL_law_891 : decode cL_law 891 = .ok (.iconst 0, 1) := by decide +kernel
theorem dL_law_892 : decode cL_law 892 = .ok (.laload, 1) := by decide +kernel
theorem dL_law_893 : decode cL_law 893 = .ok (.iload 6, 2) := by decide +kernel
theorem dL_law_895 : decode cL_law 895 = .ok (.i2l, 1) := by decide +kernel
theorem dL_law_896 : decode cL_law 896 = .ok (.lcmp, 1) := by decide +kernel
theorem dL_law_897 : decode cL_law 897 = .ok (.ifCond .eq 5, 3) := by decide +kernel
theorem dL_law_900 : decode cL_law 900 = .ok (.iconst 0, 1) := by decide +kernel
theorem dL_law_901 : decode cL_law 901 = .ok (.ireturn, 1) := by decide +kernel
theorem dL_law_902 : decode cL_law 902 = .ok (.goto 406, 3) := by decide +kernel
theorem dL_law_905 : decode cL_law 905 = .ok (.aload_n 1, 1) := by decide +kernel
theorem dL_law_906 : decode cL_law 906 = .ok (.aload_n 0, 1) := by decide +kernel
theorem dL_law_907 : decode cL_law 907 = .ok (.iload 4, 2) := by decide +kernel
theorem dL_law_909 : decode cL_law 909 = .ok (.iconst 1, 1) := by decide +kernel
theorem dL_law_910 : decode cL_law 910 = .ok (.iadd, 1) := by decide +kernel
theorem dL_law_911 : decode cL_law 911 = .ok (.iaload, 1) := by decide +kernel
theorem dL_law_912 : decode cL_law 912 = .ok (.aload_n 0, 1) := by decide +kernel
theorem dL_law_913 : decode cL_law 913 = .ok (.iload 4, 2) := by decide +kernel
theorem dL_law_915 : decode cL_law 915 = .ok (.iconst 2, 1) := by decide +kernel
theorem dL_law_916 : decode cL_law 916 = .ok (.iadd, 1) := by decide +kernel
theorem dL_law_917 : decode cL_law 917 = .ok (.iaload, 1) := by decide +kernel
theorem dL_law_918 : decode cL_law 918 = .ok (.aload_n 3, 1) := by decide +kernel
theorem dL_law_919 : decode cL_law 919 = .ok (.invokestatic 123, 3) := by decide +kernel
theorem dL_law_922 : decode cL_law 922 = .ok (.istore 5, 2) := by decide +kernel
theorem dL_law_924 : decode cL_law 924 = .ok (.aload_n 2, 1) := by decide +kernel
theorem dL_law_925 : decode cL_law 925 = .ok (.aload_n 0, 1) := by decide +kernel
theorem dL_law_926 : decode cL_law 926 = .ok (.iload 4, 2) := by decide +kernel
theorem dL_law_928 : decode cL_law 928 = .ok (.iconst 1, 1) := by decide +kernel
theorem dL_law_929 : decode cL_law 929 = .ok (.iadd, 1) := by decide +kernel
theorem dL_law_930 : decode cL_law 930 = .ok (.iaload, 1) := by decide +kernel
theorem dL_law_931 : decode cL_law 931 = .ok (.aload_n 0, 1) := by decide +kernel
theorem dL_law_932 : decode cL_law 932 = .ok (.iload 4, 2) := by decide +kernel
theorem dL_law_934 : decode cL_law 934 = .ok (.iconst 2, 1) := by decide +kernel
theorem dL_law_935 : decode cL_law 935 = .ok (.iadd, 1) := by decide +kernel
theorem dL_law_936 : decode cL_law 936 = .ok (.iaload, 1) := by decide +kernel
theorem dL_law_937 : decode cL_law 937 = .ok (.invokevirtual 125, 3) := by decide +kernel
theorem dL_law_940 : decode cL_law 940 = .ok (.istore 6, 2) := by decide +kernel
theorem dL_law_942 : decode cL_law 942 = .ok (.aload_n 2, 1) := by decide +kernel
theorem dL_law_943 : decode cL_law 943 = .ok (.invokevirtual 81, 3) := by decide +kernel
theorem dL_law_946 : decode cL_law 946 = .ok (.iload 5, 2) := by decide +kernel
theorem dL_law_948 : decode cL_law 948 = .ok (.if_icmp .eq 5, 3) := by decide +kernel
theorem dL_law_951 : decode cL_law 951 = .ok (.iconst 0, 1) := by decide +kernel
theorem dL_law_952 : decode cL_law 952 = .ok (.ireturn, 1) := by decide +kernel
theorem dL_law_953 : decode cL_law 953 = .ok (.iload 5, 2) := by decide +kernel
theorem dL_law_955 : decode cL_law 955 = .ok (.ifCond .ne 15, 3) := by decide +kernel
theorem dL_law_958 : decode cL_law 958 = .ok (.aload_n 3, 1) := by decide +kernel
theorem dL_law_959 : decode cL_law 959 = .ok (.iconst 0, 1) := by decide +kernel
theorem dL_law_960 : decode cL_law 960 = .ok (.laload, 1) := by decide +kernel
theorem dL_law_961 : decode cL_law 961 = .ok (.iload 6, 2) := by decide +kernel
theorem dL_law_963 : decode cL_law 963 = .ok (.i2l, 1) := by decide +kernel
theorem dL_law_964 : decode cL_law 964 = .ok (.lcmp, 1) := by decide +kernel
theorem dL_law_965 : decode cL_law 965 = .ok (.ifCond .eq 5, 3) := by decide +kernel
theorem dL_law_968 : decode cL_law 968 = .ok (.iconst 0, 1) := by decide +kernel
theorem dL_law_969 : decode cL_law 969 = .ok (.ireturn, 1) := by decide +kernel
theorem dL_law_970 : decode cL_law 970 = .ok (.goto 338, 3) := by decide +kernel
theorem dL_law_973 : decode cL_law 973 = .ok (.aload_n 1, 1) := by decide +kernel
theorem dL_law_974 : decode cL_law 974 = .ok (.aload_n 0, 1) := by decide +kernel
theorem dL_law_975 : decode cL_law 975 = .ok (.iload 4, 2) := by decide +kernel
theorem dL_law_977 : decode cL_law 977 = .ok (.iconst 1, 1) := by decide +kernel
theorem dL_law_978 : decode cL_law 978 = .ok (.iadd, 1) := by decide +kernel
theorem dL_law_979 : decode cL_law 979 = .ok (.iaload, 1) := by decide +kernel
theorem dL_law_980 : decode cL_law 980 = .ok (.aload_n 3, 1) := by decide +kernel
theorem dL_law_981 : decode cL_law 981 = .ok (.invokestatic 126, 3) := by decide +kernel
theorem dL_law_984 : decode cL_law 984 = .ok (.istore 5, 2) := by decide +kernel
theorem dL_law_986 : decode cL_law 986 = .ok (.aload_n 2, 1) := by decide +kernel
theorem dL_law_987 : decode cL_law 987 = .ok (.aload_n 0, 1) := by decide +kernel
theorem dL_law_988 : decode cL_law 988 = .ok (.iload 4, 2) := by decide +kernel
theorem dL_law_990 : decode cL_law 990 = .ok (.iconst 1, 1) := by decide +kernel
theorem dL_law_991 : decode cL_law 991 = .ok (.iadd, 1) := by decide +kernel
theorem dL_law_992 : decode cL_law 992 = .ok (.iaload, 1) := by decide +kernel
theorem dL_law_993 : decode cL_law 993 = .ok (.invokevirtual 128, 3) := by decide +kernel
theorem dL_law_996 : decode cL_law 996 = .ok (.istore 6, 2) := by decide +kernel
theorem dL_law_998 : decode cL_law 998 = .ok (.aload_n 2, 1) := by decide +kernel
theorem dL_law_999 : decode cL_law 999 = .ok (.invokevirtual 81, 3) := by decide +kernel
theorem dL_law_1002 : decode cL_law 1002 = .ok (.iload 5, 2) := by decide +kernel
theorem dL_law_1004 : decode cL_law 1004 = .ok (.if_icmp .eq 5, 3) := by decide +kernel
theorem dL_law_1007 : decode cL_law 1007 = .ok (.iconst 0, 1) := by decide +kernel
theorem dL_law_1008 : decode cL_law 1008 = .ok (.ireturn, 1) := by decide +kernel
theorem dL_law_1009 : decode cL_law 1009 = .ok (.iload 5, 2) := by decide +kernel
theorem dL_law_1011 : decode cL_law 1011 = .ok (.ifCond .ne 15, 3) := by decide +kernel
theorem dL_law_1014 : decode cL_law 1014 = .ok (.aload_n 3, 1) := by decide +kernel
theorem dL_law_1015 : decode cL_law 1015 = .ok (.iconst 0, 1) := by decide +kernel
theorem dL_law_1016 : decode cL_law 1016 = .ok (.laload, 1) := by decide +kernel
theorem dL_law_1017 : decode cL_law 1017 = .ok (.iload 6, 2) := by decide +kernel
theorem dL_law_1019 : decode cL_law 1019 = .ok (.i2l, 1) := by decide +kernel
theorem dL_law_1020 : decode cL_law 1020 = .ok (.lcmp, 1) := by decide +kernel
theorem dL_law_1021 : decode cL_law 1021 = .ok (.ifCond .eq 5, 3) := by decide +kernel
theorem dL_law_1024 : decode cL_law 1024 = .ok (.iconst 0, 1) := by decide +kernel
theorem dL_law_1025 : decode cL_law 1025 = .ok (.ireturn, 1) := by decide +kernel
theorem dL_law_1026 : decode cL_law 1026 = .ok (.goto 282, 3) := by decide +kernel
theorem dL_law_1029 : decode cL_law 1029 = .ok (.aload_n 1, 1) := by decide +kernel
theorem dL_law_1030 : decode cL_law 1030 = .ok (.aload_n 0, 1) := by decide +kernel
theorem dL_law_1031 : decode cL_law 1031 = .ok (.iload 4, 2) := by decide +kernel
theorem dL_law_1033 : decode cL_law 1033 = .ok (.iconst 1, 1) := by decide +kernel
theorem dL_law_1034 : decode cL_law 1034 = .ok (.iadd, 1) := by decide +kernel
theorem dL_law_1035 : decode cL_law 1035 = .ok (.iaload, 1) := by decide +kernel
theorem dL_law_1036 : decode cL_law 1036 = .ok (.aload_n 3, 1) := by decide +kernel
theorem dL_law_1037 : decode cL_law 1037 = .ok (.invokestatic 129, 3) := by decide +kernel
theorem dL_law_1040 : decode cL_law 1040 = .ok (.istore 5, 2) := by decide +kernel
theorem dL_law_1042 : decode cL_law 1042 = .ok (.aload_n 2, 1) := by decide +kernel
theorem dL_law_1043 : decode cL_law 1043 = .ok (.aload_n 0, 1) := by decide +kernel
theorem dL_law_1044 : decode cL_law 1044 = .ok (.iload 4, 2) := by decide +kernel
theorem dL_law_1046 : decode cL_law 1046 = .ok (.iconst 1, 1) := by decide +kernel
theorem dL_law_1047 : decode cL_law 1047 = .ok (.iadd, 1) := by decide +kernel
theorem dL_law_1048 : decode cL_law 1048 = .ok (.iaload, 1) := by decide +kernel
theorem dL_law_1049 : decode cL_law 1049 = .ok (.invokevirtual 131, 3) := by decide +kernel
theorem dL_law_1052 : decode cL_law 1052 = .ok (.istore 6, 2) := by decide +kernel
theorem dL_law_1054 : decode cL_law 1054 = .ok (.aload_n 2, 1) := by decide +kernel
theorem dL_law_1055 : decode cL_law 1055 = .ok (.invokevirtual 81, 3) := by decide +kernel
theorem dL_law_1058 : decode cL_law 1058 = .ok (.iload 5, 2) := by decide +kernel
theorem dL_law_1060 : decode cL_law 1060 = .ok (.if_icmp .eq 5, 3) := by decide +kernel
theorem dL_law_1063 : decode cL_law 1063 = .ok (.iconst 0, 1) := by decide +kernel
theorem dL_law_1064 : decode cL_law 1064 = .ok (.ireturn, 1) := by decide +kernel
theorem dL_law_1065 : decode cL_law 1065 = .ok (.iload 5, 2) := by decide +kernel
theorem dL_law_1067 : decode cL_law 1067 = .ok (.ifCond .ne 15, 3) := by decide +kernel
theorem dL_law_1070 : decode cL_law 1070 = .ok (.aload_n 3, 1) := by decide +kernel
theorem dL_law_1071 : decode cL_law 1071 = .ok (.iconst 0, 1) := by decide +kernel
theorem dL_law_1072 : decode cL_law 1072 = .ok (.laload, 1) := by decide +kernel
theorem dL_law_1073 : decode cL_law 1073 = .ok (.iload 6, 2) := by decide +kernel
theorem dL_law_1075 : decode cL_law 1075 = .ok (.i2l, 1) := by decide +kernel
theorem dL_law_1076 : decode cL_law 1076 = .ok (.lcmp, 1) := by decide +kernel
theorem dL_law_1077 : decode cL_law 1077 = .ok (.ifCond .eq 5, 3) := by decide +kernel
theorem dL_law_1080 : decode cL_law 1080 = .ok (.iconst 0, 1) := by decide +kernel
theorem dL_law_1081 : decode cL_law 1081 = .ok (.ireturn, 1) := by decide +kernel
theorem dL_law_1082 : decode cL_law 1082 = .ok (.goto 226, 3) := by decide +kernel
theorem dL_law_1085 : decode cL_law 1085 = .ok (.aload_n 1, 1) := by decide +kernel
theorem dL_law_1086 : decode cL_law 1086 = .ok (.aload_n 0, 1) := by decide +kernel
theorem dL_law_1087 : decode cL_law 1087 = .ok (.iload 4, 2) := by decide +kernel
theorem dL_law_1089 : decode cL_law 1089 = .ok (.iconst 1, 1) := by decide +kernel
theorem dL_law_1090 : decode cL_law 1090 = .ok (.iadd, 1) := by decide +kernel
theorem dL_law_1091 : decode cL_law 1091 = .ok (.iaload, 1) := by decide +kernel
theorem dL_law_1092 : decode cL_law 1092 = .ok (.aload_n 3, 1) := by decide +kernel
theorem dL_law_1093 : decode cL_law 1093 = .ok (.invokestatic 132, 3) := by decide +kernel
theorem dL_law_1096 : decode cL_law 1096 = .ok (.istore 5, 2) := by decide +kernel
theorem dL_law_1098 : decode cL_law 1098 = .ok (.aload_n 2, 1) := by decide +kernel
theorem dL_law_1099 : decode cL_law 1099 = .ok (.aload_n 0, 1) := by decide +kernel
theorem dL_law_1100 : decode cL_law 1100 = .ok (.iload 4, 2) := by decide +kernel
theorem dL_law_1102 : decode cL_law 1102 = .ok (.iconst 1, 1) := by decide +kernel
theorem dL_law_1103 : decode cL_law 1103 = .ok (.iadd, 1) := by decide +kernel
theorem dL_law_1104 : decode cL_law 1104 = .ok (.iaload, 1) := by decide +kernel
theorem dL_law_1105 : decode cL_law 1105 = .ok (.invokevirtual 134, 3) := by decide +kernel
theorem dL_law_1108 : decode cL_law 1108 = .ok (.istore 6, 2) := by decide +kernel
theorem dL_law_1110 : decode cL_law 1110 = .ok (.aload_n 2, 1) := by decide +kernel
theorem dL_law_1111 : decode cL_law 1111 = .ok (.invokevirtual 81, 3) := by decide +kernel
theorem dL_law_1114 : decode cL_law 1114 = .ok (.iload 5, 2) := by decide +kernel
theorem dL_law_1116 : decode cL_law 1116 = .ok (.if_icmp .eq 5, 3) := by decide +kernel
theorem dL_law_1119 : decode cL_law 1119 = .ok (.iconst 0, 1) := by decide +kernel
theorem dL_law_1120 : decode cL_law 1120 = .ok (.ireturn, 1) := by decide +kernel
theorem dL_law_1121 : decode cL_law 1121 = .ok (.iload 5, 2) := by decide +kernel
theorem dL_law_1123 : decode cL_law 1123 = .ok (.ifCond .ne 15, 3) := by decide +kernel
theorem dL_law_1126 : decode cL_law 1126 = .ok (.aload_n 3, 1) := by decide +kernel
theorem dL_law_1127 : decode cL_law 1127 = .ok (.iconst 0, 1) := by decide +kernel
theorem dL_law_1128 : decode cL_law 1128 = .ok (.laload, 1) := by decide +kernel
theorem dL_law_1129 : decode cL_law 1129 = .ok (.iload 6, 2) := by decide +kernel
theorem dL_law_1131 : decode cL_law 1131 = .ok (.i2l, 1) := by decide +kernel
theorem dL_law_1132 : decode cL_law 1132 = .ok (.lcmp, 1) := by decide +kernel
theorem dL_law_1133 : decode cL_law 1133 = .ok (.ifCond .eq 5, 3) := by decide +kernel
theorem dL_law_1136 : decode cL_law 1136 = .ok (.iconst 0, 1) := by decide +kernel
theorem dL_law_1137 : decode cL_law 1137 = .ok (.ireturn, 1) := by decide +kernel
theorem dL_law_1138 : decode cL_law 1138 = .ok (.goto 170, 3) := by decide +kernel
theorem dL_law_1141 : decode cL_law 1141 = .ok (.aload_n 1, 1) := by decide +kernel
theorem dL_law_1142 : decode cL_law 1142 = .ok (.aload_n 0, 1) := by decide +kernel
theorem dL_law_1143 : decode cL_law 1143 = .ok (.iload 4, 2) := by decide +kernel
theorem dL_law_1145 : decode cL_law 1145 = .ok (.iconst 1, 1) := by decide +kernel
theorem dL_law_1146 : decode cL_law 1146 = .ok (.iadd, 1) := by decide +kernel
theorem dL_law_1147 : decode cL_law 1147 = .ok (.iaload, 1) := by decide +kernel
theorem dL_law_1148 : decode cL_law 1148 = .ok (.aload_n 3, 1) := by decide +kernel
theorem dL_law_1149 : decode cL_law 1149 = .ok (.invokestatic 135, 3) := by decide +kernel
theorem dL_law_1152 : decode cL_law 1152 = .ok (.istore 5, 2) := by decide +kernel
theorem dL_law_1154 : decode cL_law 1154 = .ok (.aload_n 2, 1) := by decide +kernel
theorem dL_law_1155 : decode cL_law 1155 = .ok (.aload_n 0, 1) := by decide +kernel
theorem dL_law_1156 : decode cL_law 1156 = .ok (.iload 4, 2) := by decide +kernel
theorem dL_law_1158 : decode cL_law 1158 = .ok (.iconst 1, 1) := by decide +kernel
theorem dL_law_1159 : decode cL_law 1159 = .ok (.iadd, 1) := by decide +kernel
theorem dL_law_1160 : decode cL_law 1160 = .ok (.iaload, 1) := by decide +kernel
theorem dL_law_1161 : decode cL_law 1161 = .ok (.invokevirtual 137, 3) := by decide +kernel
theorem dL_law_1164 : decode cL_law 1164 = .ok (.istore 6, 2) := by decide +kernel
theorem dL_law_1166 : decode cL_law 1166 = .ok (.aload_n 2, 1) := by decide +kernel
theorem dL_law_1167 : decode cL_law 1167 = .ok (.invokevirtual 81, 3) := by decide +kernel
theorem dL_law_1170 : decode cL_law 1170 = .ok (.iload 5, 2) := by decide +kernel
theorem dL_law_1172 : decode cL_law 1172 = .ok (.if_icmp .eq 5, 3) := by decide +kernel
theorem dL_law_1175 : decode cL_law 1175 = .ok (.iconst 0, 1) := by decide +kernel
theorem dL_law_1176 : decode cL_law 1176 = .ok (.ireturn, 1) := by decide +kernel
theorem dL_law_1177 : decode cL_law 1177 = .ok (.iload 5, 2) := by decide +kernel
theorem dL_law_1179 : decode cL_law 1179 = .ok (.ifCond .ne 15, 3) := by decide +kernel
theorem dL_law_1182 : decode cL_law 1182 = .ok (.aload_n 3, 1) := by decide +kernel
theorem dL_law_1183 : decode cL_law 1183 = .ok (.iconst 0, 1) := by decide +kernel
theorem dL_law_1184 : decode cL_law 1184 = .ok (.laload, 1) := by decide +kernel
theorem dL_law_1185 : decode cL_law 1185 = .ok (.iload 6, 2) := by decide +kernel
theorem dL_law_1187 : decode cL_law 1187 = .ok (.i2l, 1) := by decide +kernel
theorem dL_law_1188 : decode cL_law 1188 = .ok (.lcmp, 1) := by decide +kernel
theorem dL_law_1189 : decode cL_law 1189 = .ok (.ifCond .eq 5, 3) := by decide +kernel
theorem dL_law_1192 : decode cL_law 1192 = .ok (.iconst 0, 1) := by decide +kernel
theorem dL_law_1193 : decode cL_law 1193 = .ok (.ireturn, 1) := by decide +kernel
theorem dL_law_1194 : decode cL_law 1194 = .ok (.goto 114, 3) := by decide +kernel
theorem dL_law_1197 : decode cL_law 1197 = .ok (.aload_n 1, 1) := by decide +kernel
theorem dL_law_1198 : decode cL_law 1198 = .ok (.aload_n 0, 1) := by decide +kernel
theorem dL_law_1199 : decode cL_law 1199 = .ok (.iload 4, 2) := by decide +kernel
theorem dL_law_1201 : decode cL_law 1201 = .ok (.iconst 1, 1) := by decide +kernel
theorem dL_law_1202 : decode cL_law 1202 = .ok (.iadd, 1) := by decide +kernel
theorem dL_law_1203 : decode cL_law 1203 = .ok (.iaload, 1) := by decide +kernel
theorem dL_law_1204 : decode cL_law 1204 = .ok (.aload_n 3, 1) := by decide +kernel
theorem dL_law_1205 : decode cL_law 1205 = .ok (.invokestatic 138, 3) := by decide +kernel
theorem dL_law_1208 : decode cL_law 1208 = .ok (.istore 5, 2) := by decide +kernel
theorem dL_law_1210 : decode cL_law 1210 = .ok (.aload_n 2, 1) := by decide +kernel
theorem dL_law_1211 : decode cL_law 1211 = .ok (.aload_n 0, 1) := by decide +kernel
theorem dL_law_1212 : decode cL_law 1212 = .ok (.iload 4, 2) := by decide +kernel
theorem dL_law_1214 : decode cL_law 1214 = .ok (.iconst 1, 1) := by decide +kernel
theorem dL_law_1215 : decode cL_law 1215 = .ok (.iadd, 1) := by decide +kernel
theorem dL_law_1216 : decode cL_law 1216 = .ok (.iaload, 1) := by decide +kernel
theorem dL_law_1217 : decode cL_law 1217 = .ok (.invokevirtual 140, 3) := by decide +kernel
theorem dL_law_1220 : decode cL_law 1220 = .ok (.istore 6, 2) := by decide +kernel
theorem dL_law_1222 : decode cL_law 1222 = .ok (.aload_n 2, 1) := by decide +kernel
theorem dL_law_1223 : decode cL_law 1223 = .ok (.invokevirtual 81, 3) := by decide +kernel
theorem dL_law_1226 : decode cL_law 1226 = .ok (.iload 5, 2) := by decide +kernel
theorem dL_law_1228 : decode cL_law 1228 = .ok (.if_icmp .eq 5, 3) := by decide +kernel
theorem dL_law_1231 : decode cL_law 1231 = .ok (.iconst 0, 1) := by decide +kernel
theorem dL_law_1232 : decode cL_law 1232 = .ok (.ireturn, 1) := by decide +kernel
theorem dL_law_1233 : decode cL_law 1233 = .ok (.iload 5, 2) := by decide +kernel
theorem dL_law_1235 : decode cL_law 1235 = .ok (.ifCond .ne 15, 3) := by decide +kernel
theorem dL_law_1238 : decode cL_law 1238 = .ok (.aload_n 3, 1) := by decide +kernel
theorem dL_law_1239 : decode cL_law 1239 = .ok (.iconst 0, 1) := by decide +kernel
theorem dL_law_1240 : decode cL_law 1240 = .ok (.laload, 1) := by decide +kernel
theorem dL_law_1241 : decode cL_law 1241 = .ok (.iload 6, 2) := by decide +kernel
theorem dL_law_1243 : decode cL_law 1243 = .ok (.i2l, 1) := by decide +kernel
theorem dL_law_1244 : decode cL_law 1244 = .ok (.lcmp, 1) := by decide +kernel
theorem dL_law_1245 : decode cL_law 1245 = .ok (.ifCond .eq 5, 3) := by decide +kernel
theorem dL_law_1248 : decode cL_law 1248 = .ok (.iconst 0, 1) := by decide +kernel
theorem dL_law_1249 : decode cL_law 1249 = .ok (.ireturn, 1) := by decide +kernel
theorem dL_law_1250 : decode cL_law 1250 = .ok (.goto 58, 3) := by decide +kernel
theorem dL_law_1253 : decode cL_law 1253 = .ok (.aload_n 1, 1) := by decide +kernel
theorem dL_law_1254 : decode cL_law 1254 = .ok (.invokevirtual 141, 3) := by decide +kernel
theorem dL_law_1257 : decode cL_law 1257 = .ok (.dstore 5, 2) := by decide +kernel
theorem dL_law_1259 : decode cL_law 1259 = .ok (.aload_n 2, 1) := by decide +kernel
theorem dL_law_1260 : decode cL_law 1260 = .ok (.invokevirtual 145, 3) := by decide +kernel
theorem dL_law_1263 : decode cL_law 1263 = .ok (.dstore 7, 2) := by decide +kernel
theorem dL_law_1265 : decode cL_law 1265 = .ok (.dload 5, 2) := by decide +kernel
theorem dL_law_1267 : decode cL_law 1267 = .ok (.dload 7, 2) := by decide +kernel
theorem dL_law_1269 : decode cL_law 1269 = .ok (.dcmp .l, 1) := by decide +kernel
theorem dL_law_1270 : decode cL_law 1270 = .ok (.ifCond .eq 21, 3) := by decide +kernel
theorem dL_law_1273 : decode cL_law 1273 = .ok (.dload 5, 2) := by decide +kernel
theorem dL_law_1275 : decode cL_law 1275 = .ok (.dload 5, 2) := by decide +kernel
theorem dL_law_1277 : decode cL_law 1277 = .ok (.dcmp .l, 1) := by decide +kernel
theorem dL_law_1278 : decode cL_law 1278 = .ok (.ifCond .eq 11, 3) := by decide +kernel
theorem dL_law_1281 : decode cL_law 1281 = .ok (.dload 7, 2) := by decide +kernel
theorem dL_law_1283 : decode cL_law 1283 = .ok (.dload 7, 2) := by decide +kernel
theorem dL_law_1285 : decode cL_law 1285 = .ok (.dcmp .l, 1) := by decide +kernel
theorem dL_law_1286 : decode cL_law 1286 = .ok (.ifCond .ne 5, 3) := by decide +kernel
theorem dL_law_1289 : decode cL_law 1289 = .ok (.iconst 0, 1) := by decide +kernel
theorem dL_law_1290 : decode cL_law 1290 = .ok (.ireturn, 1) := by decide +kernel
theorem dL_law_1291 : decode cL_law 1291 = .ok (.goto 17, 3) := by decide +kernel
theorem dL_law_1294 : decode cL_law 1294 = .ok (.aload_n 1, 1) := by decide +kernel
theorem dL_law_1295 : decode cL_law 1295 = .ok (.invokevirtual 146, 3) := by decide +kernel
theorem dL_law_1298 : decode cL_law 1298 = .ok (.aload_n 2, 1) := by decide +kernel
theorem dL_law_1299 : decode cL_law 1299 = .ok (.invokevirtual 150, 3) := by decide +kernel
theorem dL_law_1302 : decode cL_law 1302 = .ok (.lcmp, 1) := by decide +kernel
theorem dL_law_1303 : decode cL_law 1303 = .ok (.ifCond .eq 5, 3) := by decide +kernel
theorem dL_law_1306 : decode cL_law 1306 = .ok (.iconst 0, 1) := by decide +kernel
theorem dL_law_1307 : decode cL_law 1307 = .ok (.ireturn, 1) := by decide +kernel
theorem dL_law_1308 : decode cL_law 1308 = .ok (.iinc 4 3, 3) := by decide +kernel
theorem dL_law_1311 : decode cL_law 1311 = .ok (.goto (-1288), 3) := by decide +kernel
theorem dL_law_1314 : decode cL_law 1314 = .ok (.iconst 1, 1) := by decide +kernel
theorem dL_law_1315 : decode cL_law 1315 = .ok (.ireturn, 1) := by decide +kernel
abbrev vwCl : List vw_C := [(RX0, TX0, 2), (RX1, TX1, 2), (RX2, TX2, 2), (RX3, TX3, 8), (RX4, TX4, 7)]
/-- the objects of BellRanks$Change, kind 0: what each holds, by its address -/
structure wK_O_Change where
  f_row : Nat → Option Nat
  f_size : Nat → Int32
/-- the objects of BellRanks$Method, kind 1: what each holds, by its address -/
structure wK_O_Method where
  f_steps : Nat → Option Nat
  f_length : Nat → Int32
/-- the objects of BellRanks$RankSet, kind 2: what each holds, by its address -/
structure wK_O_RankSet where
  f_row : Nat → Option Nat
  f_size : Nat → Int32
/-- the objects of BellRanks, kind 3: what each holds, by its address -/
structure wK_O_BellRanks where
  f_book : Nat → Option Nat
  f_method : Nat → Option Nat
  f_rung : Nat → Option Nat
  f_made : Nat → Option Nat
  f_ranks : Nat → Option Nat
  f_bells : Nat → Int32
  f_written : Nat → Int32
  f_rungInAll : Nat → Int32
/-- the objects of BellRanksModel, kind 4: what each holds, by its address -/
structure wK_O_BellRanksModel where
  f_thrown : Nat → Int32
  f_bells : Nat → Int32
  f_changes : Nat → Int32
  f_book : Nat → Option Nat
  f_steps : Nat → Int32
  f_kept : Nat → Option Nat
  f_rung : Nat → Int32
/-- the arrays of kind 5: what each holds, by its address -/
structure wK_R_I where
  len : Nat → Nat
  row : Nat → Nat → Int32
/-- the arrays of kind 6: what each holds, by its address -/
structure wK_R_Change where
  len : Nat → Nat
  row : Nat → Nat → Option Nat
/-- the pool: the addresses, the kind of each, and the kinds -/
structure wPS where
  L : List Nat
  K : Nat → Nat
  O_Change : wK_O_Change
  O_Method : wK_O_Method
  O_RankSet : wK_O_RankSet
  O_BellRanks : wK_O_BellRanks
  O_BellRanksModel : wK_O_BellRanksModel
  R_I : wK_R_I
  R_Change : wK_R_Change
/-- the empty pool -/
abbrev wP0 : wPS := { L := [], K := (fun _ => 0), O_Change := { f_row := (fun _ => none), f_size := (fun _ => 0) }, O_Method := { f_steps := (fun _ => none), f_length := (fun _ => 0) }, O_RankSet := { f_row := (fun _ => none), f_size := (fun _ => 0) }, O_BellRanks := { f_book := (fun _ => none), f_method := (fun _ => none), f_rung := (fun _ => none), f_made := (fun _ => none), f_ranks := (fun _ => none), f_bells := (fun _ => 0), f_written := (fun _ => 0), f_rungInAll := (fun _ => 0) }, O_BellRanksModel := { f_thrown := (fun _ => 0), f_bells := (fun _ => 0), f_changes := (fun _ => 0), f_book := (fun _ => none), f_steps := (fun _ => 0), f_kept := (fun _ => none), f_rung := (fun _ => 0) }, R_I := { len := (fun _ => 0), row := (fun _ _ => 0) }, R_Change := { len := (fun _ => 0), row := (fun _ _ => none) } }
/-- the pool's rows by their kinds -/
abbrev wPF (cyI : ClassId) (cyOe2caa : ClassId) (S : wPS) : Nat → va_E := fun a => if S.K a = 0 then .inr (0, [va_rf (S.O_Change.f_row a), .int (S.O_Change.f_size a)]) else if S.K a = 1 then .inr (1, [va_rf (S.O_Method.f_steps a), .int (S.O_Method.f_length a)]) else if S.K a = 2 then .inr (2, [va_rf (S.O_RankSet.f_row a), .int (S.O_RankSet.f_size a)]) else if S.K a = 3 then .inr (3, [va_rf (S.O_BellRanks.f_book a), va_rf (S.O_BellRanks.f_method a), va_rf (S.O_BellRanks.f_rung a), va_rf (S.O_BellRanks.f_made a), va_rf (S.O_BellRanks.f_ranks a), .int (S.O_BellRanks.f_bells a), .int (S.O_BellRanks.f_written a), .int (S.O_BellRanks.f_rungInAll a)]) else if S.K a = 4 then .inr (4, [.int (S.O_BellRanksModel.f_thrown a), .int (S.O_BellRanksModel.f_bells a), .int (S.O_BellRanksModel.f_changes a), va_rf (S.O_BellRanksModel.f_book a), .int (S.O_BellRanksModel.f_steps a), va_rf (S.O_BellRanksModel.f_kept a), .int (S.O_BellRanksModel.f_rung a)]) else if S.K a = 5 then .inl (cyI, S.R_I.len a, .inl (S.R_I.row a)) else .inl (cyOe2caa, S.R_Change.len a, .inr (.inr (.inr (.inr (S.R_Change.row a)))))
theorem wAt_O_Change (cyI : ClassId) (cyOe2caa : ClassId) (S : wPS) {a : Nat} (h : S.K a = 0) : wPF cyI cyOe2caa S a = .inr (0, [va_rf (S.O_Change.f_row a), .int (S.O_Change.f_size a)]) := by simp [wPF, h]
theorem wGt_O_Change (cyI : ClassId) (cyOe2caa : ClassId) (X : va_W) (S : wPS) {a : Nat} (hL : a ∈ S.L) (h : S.K a = 0) : ∃ k : Nat, (X ++ va_pl S.L (wPF cyI cyOe2caa S))[k]? = some (a, wPF cyI cyOe2caa S a) ∧ (X ++ va_pl S.L (wPF cyI cyOe2caa S))[k]? = some (a, .inr (0, [va_rf (S.O_Change.f_row a), .int (S.O_Change.f_size a)])) := by
  obtain ⟨k, hk⟩ := va_pl_get (X := X) (f := wPF cyI cyOe2caa S) hL
  exact ⟨k, hk, hk.trans (congrArg (fun e => some (a, e)) (wAt_O_Change cyI cyOe2caa S h))⟩
theorem wSt_O_Change_f_row (cyI : ClassId) (cyOe2caa : ClassId) (S : wPS) {a : Nat} (h : S.K a = 0) (v : Option Nat) (b : Nat) : va_up (wPF cyI cyOe2caa S) a (.inr (0, [va_rf v, .int (S.O_Change.f_size a)])) b = wPF cyI cyOe2caa { S with O_Change := { S.O_Change with f_row := va_up S.O_Change.f_row a v } } b := by by_cases hb : b = a <;> first | (simp only [wPF, va_up_ne _ _ hb]; done) | (simp only [wPF, va_up, if_neg hb]; done) | simp [wPF, va_re, va_up, va_rf, hb, h]
theorem wPu_O_Change_f_row (cyI : ClassId) (cyOe2caa : ClassId) (X : va_W) (S : wPS) {A : Nat → Prop} {a k : Nat} (hD : va_D A (X ++ va_pl S.L (wPF cyI cyOe2caa S))) (hL : a ∈ S.L) (h : S.K a = 0) (hk : (X ++ va_pl S.L (wPF cyI cyOe2caa S))[k]? = some (a, wPF cyI cyOe2caa S a)) (v : Option Nat) : (X ++ va_pl S.L (wPF cyI cyOe2caa S)).set k (a, .inr (0, [va_rf v, .int (S.O_Change.f_size a)])) = X ++ va_pl S.L (wPF cyI cyOe2caa { S with O_Change := { S.O_Change with f_row := va_up S.O_Change.f_row a v } }) := by
  rw [va_pl_set hD hL hk]
  exact congrArg (fun l => X ++ l) (va_pl_congr (wSt_O_Change_f_row cyI cyOe2caa S h v))
theorem wSt_O_Change_f_size (cyI : ClassId) (cyOe2caa : ClassId) (S : wPS) {a : Nat} (h : S.K a = 0) (v : Int32) (b : Nat) : va_up (wPF cyI cyOe2caa S) a (.inr (0, [va_rf (S.O_Change.f_row a), .int v])) b = wPF cyI cyOe2caa { S with O_Change := { S.O_Change with f_size := va_up S.O_Change.f_size a v } } b := by by_cases hb : b = a <;> first | (simp only [wPF, va_up_ne _ _ hb]; done) | (simp only [wPF, va_up, if_neg hb]; done) | simp [wPF, va_re, va_up, va_rf, hb, h]
theorem wPu_O_Change_f_size (cyI : ClassId) (cyOe2caa : ClassId) (X : va_W) (S : wPS) {A : Nat → Prop} {a k : Nat} (hD : va_D A (X ++ va_pl S.L (wPF cyI cyOe2caa S))) (hL : a ∈ S.L) (h : S.K a = 0) (hk : (X ++ va_pl S.L (wPF cyI cyOe2caa S))[k]? = some (a, wPF cyI cyOe2caa S a)) (v : Int32) : (X ++ va_pl S.L (wPF cyI cyOe2caa S)).set k (a, .inr (0, [va_rf (S.O_Change.f_row a), .int v])) = X ++ va_pl S.L (wPF cyI cyOe2caa { S with O_Change := { S.O_Change with f_size := va_up S.O_Change.f_size a v } }) := by
  rw [va_pl_set hD hL hk]
  exact congrArg (fun l => X ++ l) (va_pl_congr (wSt_O_Change_f_size cyI cyOe2caa S h v))
theorem wNw_O_Change (cyI : ClassId) (cyOe2caa : ClassId) (S : wPS) (a b : Nat) : va_up (wPF cyI cyOe2caa S) a (.inr (0, [.null, .int 0])) b = wPF cyI cyOe2caa { S with L := S.L ++ [a], K := va_up S.K a 0, O_Change := { f_row := va_up S.O_Change.f_row a none, f_size := va_up S.O_Change.f_size a 0 } } b := by by_cases hb : b = a <;> first | (simp only [wPF, va_up_ne _ _ hb]; done) | (simp only [wPF, va_up, if_neg hb]; done) | simp [wPF, va_re, va_up, va_rf, hb]
theorem wPn_O_Change (cyI : ClassId) (cyOe2caa : ClassId) (X : va_W) (S : wPS) {a : Nat} (ha : a ∉ S.L) : (X ++ va_pl S.L (wPF cyI cyOe2caa S)) ++ [(a, .inr (0, [.null, .int 0]))] = X ++ va_pl (S.L ++ [a]) (wPF cyI cyOe2caa { S with L := S.L ++ [a], K := va_up S.K a 0, O_Change := { f_row := va_up S.O_Change.f_row a none, f_size := va_up S.O_Change.f_size a 0 } }) := by
  rw [List.append_assoc, va_pl_push ha]
  exact congrArg (fun l => X ++ l) (va_pl_congr (wNw_O_Change cyI cyOe2caa S a))
theorem wAt_O_Method (cyI : ClassId) (cyOe2caa : ClassId) (S : wPS) {a : Nat} (h : S.K a = 1) : wPF cyI cyOe2caa S a = .inr (1, [va_rf (S.O_Method.f_steps a), .int (S.O_Method.f_length a)]) := by simp [wPF, h]
theorem wGt_O_Method (cyI : ClassId) (cyOe2caa : ClassId) (X : va_W) (S : wPS) {a : Nat} (hL : a ∈ S.L) (h : S.K a = 1) : ∃ k : Nat, (X ++ va_pl S.L (wPF cyI cyOe2caa S))[k]? = some (a, wPF cyI cyOe2caa S a) ∧ (X ++ va_pl S.L (wPF cyI cyOe2caa S))[k]? = some (a, .inr (1, [va_rf (S.O_Method.f_steps a), .int (S.O_Method.f_length a)])) := by
  obtain ⟨k, hk⟩ := va_pl_get (X := X) (f := wPF cyI cyOe2caa S) hL
  exact ⟨k, hk, hk.trans (congrArg (fun e => some (a, e)) (wAt_O_Method cyI cyOe2caa S h))⟩
theorem wSt_O_Method_f_steps (cyI : ClassId) (cyOe2caa : ClassId) (S : wPS) {a : Nat} (h : S.K a = 1) (v : Option Nat) (b : Nat) : va_up (wPF cyI cyOe2caa S) a (.inr (1, [va_rf v, .int (S.O_Method.f_length a)])) b = wPF cyI cyOe2caa { S with O_Method := { S.O_Method with f_steps := va_up S.O_Method.f_steps a v } } b := by by_cases hb : b = a <;> first | (simp only [wPF, va_up_ne _ _ hb]; done) | (simp only [wPF, va_up, if_neg hb]; done) | simp [wPF, va_re, va_up, va_rf, hb, h]
theorem wPu_O_Method_f_steps (cyI : ClassId) (cyOe2caa : ClassId) (X : va_W) (S : wPS) {A : Nat → Prop} {a k : Nat} (hD : va_D A (X ++ va_pl S.L (wPF cyI cyOe2caa S))) (hL : a ∈ S.L) (h : S.K a = 1) (hk : (X ++ va_pl S.L (wPF cyI cyOe2caa S))[k]? = some (a, wPF cyI cyOe2caa S a)) (v : Option Nat) : (X ++ va_pl S.L (wPF cyI cyOe2caa S)).set k (a, .inr (1, [va_rf v, .int (S.O_Method.f_length a)])) = X ++ va_pl S.L (wPF cyI cyOe2caa { S with O_Method := { S.O_Method with f_steps := va_up S.O_Method.f_steps a v } }) := by
  rw [va_pl_set hD hL hk]
  exact congrArg (fun l => X ++ l) (va_pl_congr (wSt_O_Method_f_steps cyI cyOe2caa S h v))
theorem wSt_O_Method_f_length (cyI : ClassId) (cyOe2caa : ClassId) (S : wPS) {a : Nat} (h : S.K a = 1) (v : Int32) (b : Nat) : va_up (wPF cyI cyOe2caa S) a (.inr (1, [va_rf (S.O_Method.f_steps a), .int v])) b = wPF cyI cyOe2caa { S with O_Method := { S.O_Method with f_length := va_up S.O_Method.f_length a v } } b := by by_cases hb : b = a <;> first | (simp only [wPF, va_up_ne _ _ hb]; done) | (simp only [wPF, va_up, if_neg hb]; done) | simp [wPF, va_re, va_up, va_rf, hb, h]
theorem wPu_O_Method_f_length (cyI : ClassId) (cyOe2caa : ClassId) (X : va_W) (S : wPS) {A : Nat → Prop} {a k : Nat} (hD : va_D A (X ++ va_pl S.L (wPF cyI cyOe2caa S))) (hL : a ∈ S.L) (h : S.K a = 1) (hk : (X ++ va_pl S.L (wPF cyI cyOe2caa S))[k]? = some (a, wPF cyI cyOe2caa S a)) (v : Int32) : (X ++ va_pl S.L (wPF cyI cyOe2caa S)).set k (a, .inr (1, [va_rf (S.O_Method.f_steps a), .int v])) = X ++ va_pl S.L (wPF cyI cyOe2caa { S with O_Method := { S.O_Method with f_length := va_up S.O_Method.f_length a v } }) := by
  rw [va_pl_set hD hL hk]
  exact congrArg (fun l => X ++ l) (va_pl_congr (wSt_O_Method_f_length cyI cyOe2caa S h v))
theorem wNw_O_Method (cyI : ClassId) (cyOe2caa : ClassId) (S : wPS) (a b : Nat) : va_up (wPF cyI cyOe2caa S) a (.inr (1, [.null, .int 0])) b = wPF cyI cyOe2caa { S with L := S.L ++ [a], K := va_up S.K a 1, O_Method := { f_steps := va_up S.O_Method.f_steps a none, f_length := va_up S.O_Method.f_length a 0 } } b := by by_cases hb : b = a <;> first | (simp only [wPF, va_up_ne _ _ hb]; done) | (simp only [wPF, va_up, if_neg hb]; done) | simp [wPF, va_re, va_up, va_rf, hb]
theorem wPn_O_Method (cyI : ClassId) (cyOe2caa : ClassId) (X : va_W) (S : wPS) {a : Nat} (ha : a ∉ S.L) : (X ++ va_pl S.L (wPF cyI cyOe2caa S)) ++ [(a, .inr (1, [.null, .int 0]))] = X ++ va_pl (S.L ++ [a]) (wPF cyI cyOe2caa { S with L := S.L ++ [a], K := va_up S.K a 1, O_Method := { f_steps := va_up S.O_Method.f_steps a none, f_length := va_up S.O_Method.f_length a 0 } }) := by
  rw [List.append_assoc, va_pl_push ha]
  exact congrArg (fun l => X ++ l) (va_pl_congr (wNw_O_Method cyI cyOe2caa S a))
theorem wAt_O_RankSet (cyI : ClassId) (cyOe2caa : ClassId) (S : wPS) {a : Nat} (h : S.K a = 2) : wPF cyI cyOe2caa S a = .inr (2, [va_rf (S.O_RankSet.f_row a), .int (S.O_RankSet.f_size a)]) := by simp [wPF, h]
theorem wGt_O_RankSet (cyI : ClassId) (cyOe2caa : ClassId) (X : va_W) (S : wPS) {a : Nat} (hL : a ∈ S.L) (h : S.K a = 2) : ∃ k : Nat, (X ++ va_pl S.L (wPF cyI cyOe2caa S))[k]? = some (a, wPF cyI cyOe2caa S a) ∧ (X ++ va_pl S.L (wPF cyI cyOe2caa S))[k]? = some (a, .inr (2, [va_rf (S.O_RankSet.f_row a), .int (S.O_RankSet.f_size a)])) := by
  obtain ⟨k, hk⟩ := va_pl_get (X := X) (f := wPF cyI cyOe2caa S) hL
  exact ⟨k, hk, hk.trans (congrArg (fun e => some (a, e)) (wAt_O_RankSet cyI cyOe2caa S h))⟩
theorem wSt_O_RankSet_f_row (cyI : ClassId) (cyOe2caa : ClassId) (S : wPS) {a : Nat} (h : S.K a = 2) (v : Option Nat) (b : Nat) : va_up (wPF cyI cyOe2caa S) a (.inr (2, [va_rf v, .int (S.O_RankSet.f_size a)])) b = wPF cyI cyOe2caa { S with O_RankSet := { S.O_RankSet with f_row := va_up S.O_RankSet.f_row a v } } b := by by_cases hb : b = a <;> first | (simp only [wPF, va_up_ne _ _ hb]; done) | (simp only [wPF, va_up, if_neg hb]; done) | simp [wPF, va_re, va_up, va_rf, hb, h]
theorem wPu_O_RankSet_f_row (cyI : ClassId) (cyOe2caa : ClassId) (X : va_W) (S : wPS) {A : Nat → Prop} {a k : Nat} (hD : va_D A (X ++ va_pl S.L (wPF cyI cyOe2caa S))) (hL : a ∈ S.L) (h : S.K a = 2) (hk : (X ++ va_pl S.L (wPF cyI cyOe2caa S))[k]? = some (a, wPF cyI cyOe2caa S a)) (v : Option Nat) : (X ++ va_pl S.L (wPF cyI cyOe2caa S)).set k (a, .inr (2, [va_rf v, .int (S.O_RankSet.f_size a)])) = X ++ va_pl S.L (wPF cyI cyOe2caa { S with O_RankSet := { S.O_RankSet with f_row := va_up S.O_RankSet.f_row a v } }) := by
  rw [va_pl_set hD hL hk]
  exact congrArg (fun l => X ++ l) (va_pl_congr (wSt_O_RankSet_f_row cyI cyOe2caa S h v))
theorem wSt_O_RankSet_f_size (cyI : ClassId) (cyOe2caa : ClassId) (S : wPS) {a : Nat} (h : S.K a = 2) (v : Int32) (b : Nat) : va_up (wPF cyI cyOe2caa S) a (.inr (2, [va_rf (S.O_RankSet.f_row a), .int v])) b = wPF cyI cyOe2caa { S with O_RankSet := { S.O_RankSet with f_size := va_up S.O_RankSet.f_size a v } } b := by by_cases hb : b = a <;> first | (simp only [wPF, va_up_ne _ _ hb]; done) | (simp only [wPF, va_up, if_neg hb]; done) | simp [wPF, va_re, va_up, va_rf, hb, h]
theorem wPu_O_RankSet_f_size (cyI : ClassId) (cyOe2caa : ClassId) (X : va_W) (S : wPS) {A : Nat → Prop} {a k : Nat} (hD : va_D A (X ++ va_pl S.L (wPF cyI cyOe2caa S))) (hL : a ∈ S.L) (h : S.K a = 2) (hk : (X ++ va_pl S.L (wPF cyI cyOe2caa S))[k]? = some (a, wPF cyI cyOe2caa S a)) (v : Int32) : (X ++ va_pl S.L (wPF cyI cyOe2caa S)).set k (a, .inr (2, [va_rf (S.O_RankSet.f_row a), .int v])) = X ++ va_pl S.L (wPF cyI cyOe2caa { S with O_RankSet := { S.O_RankSet with f_size := va_up S.O_RankSet.f_size a v } }) := by
  rw [va_pl_set hD hL hk]
  exact congrArg (fun l => X ++ l) (va_pl_congr (wSt_O_RankSet_f_size cyI cyOe2caa S h v))
theorem wNw_O_RankSet (cyI : ClassId) (cyOe2caa : ClassId) (S : wPS) (a b : Nat) : va_up (wPF cyI cyOe2caa S) a (.inr (2, [.null, .int 0])) b = wPF cyI cyOe2caa { S with L := S.L ++ [a], K := va_up S.K a 2, O_RankSet := { f_row := va_up S.O_RankSet.f_row a none, f_size := va_up S.O_RankSet.f_size a 0 } } b := by by_cases hb : b = a <;> first | (simp only [wPF, va_up_ne _ _ hb]; done) | (simp only [wPF, va_up, if_neg hb]; done) | simp [wPF, va_re, va_up, va_rf, hb]
theorem wPn_O_RankSet (cyI : ClassId) (cyOe2caa : ClassId) (X : va_W) (S : wPS) {a : Nat} (ha : a ∉ S.L) : (X ++ va_pl S.L (wPF cyI cyOe2caa S)) ++ [(a, .inr (2, [.null, .int 0]))] = X ++ va_pl (S.L ++ [a]) (wPF cyI cyOe2caa { S with L := S.L ++ [a], K := va_up S.K a 2, O_RankSet := { f_row := va_up S.O_RankSet.f_row a none, f_size := va_up S.O_RankSet.f_size a 0 } }) := by
  rw [List.append_assoc, va_pl_push ha]
  exact congrArg (fun l => X ++ l) (va_pl_congr (wNw_O_RankSet cyI cyOe2caa S a))
theorem wAt_O_BellRanks (cyI : ClassId) (cyOe2caa : ClassId) (S : wPS) {a : Nat} (h : S.K a = 3) : wPF cyI cyOe2caa S a = .inr (3, [va_rf (S.O_BellRanks.f_book a), va_rf (S.O_BellRanks.f_method a), va_rf (S.O_BellRanks.f_rung a), va_rf (S.O_BellRanks.f_made a), va_rf (S.O_BellRanks.f_ranks a), .int (S.O_BellRanks.f_bells a), .int (S.O_BellRanks.f_written a), .int (S.O_BellRanks.f_rungInAll a)]) := by simp [wPF, h]
theorem wGt_O_BellRanks (cyI : ClassId) (cyOe2caa : ClassId) (X : va_W) (S : wPS) {a : Nat} (hL : a ∈ S.L) (h : S.K a = 3) : ∃ k : Nat, (X ++ va_pl S.L (wPF cyI cyOe2caa S))[k]? = some (a, wPF cyI cyOe2caa S a) ∧ (X ++ va_pl S.L (wPF cyI cyOe2caa S))[k]? = some (a, .inr (3, [va_rf (S.O_BellRanks.f_book a), va_rf (S.O_BellRanks.f_method a), va_rf (S.O_BellRanks.f_rung a), va_rf (S.O_BellRanks.f_made a), va_rf (S.O_BellRanks.f_ranks a), .int (S.O_BellRanks.f_bells a), .int (S.O_BellRanks.f_written a), .int (S.O_BellRanks.f_rungInAll a)])) := by
  obtain ⟨k, hk⟩ := va_pl_get (X := X) (f := wPF cyI cyOe2caa S) hL
  exact ⟨k, hk, hk.trans (congrArg (fun e => some (a, e)) (wAt_O_BellRanks cyI cyOe2caa S h))⟩
theorem wSt_O_BellRanks_f_book (cyI : ClassId) (cyOe2caa : ClassId) (S : wPS) {a : Nat} (h : S.K a = 3) (v : Option Nat) (b : Nat) : va_up (wPF cyI cyOe2caa S) a (.inr (3, [va_rf v, va_rf (S.O_BellRanks.f_method a), va_rf (S.O_BellRanks.f_rung a), va_rf (S.O_BellRanks.f_made a), va_rf (S.O_BellRanks.f_ranks a), .int (S.O_BellRanks.f_bells a), .int (S.O_BellRanks.f_written a), .int (S.O_BellRanks.f_rungInAll a)])) b = wPF cyI cyOe2caa { S with O_BellRanks := { S.O_BellRanks with f_book := va_up S.O_BellRanks.f_book a v } } b := by by_cases hb : b = a <;> first | (simp only [wPF, va_up_ne _ _ hb]; done) | (simp only [wPF, va_up, if_neg hb]; done) | simp [wPF, va_re, va_up, va_rf, hb, h]
theorem wPu_O_BellRanks_f_book (cyI : ClassId) (cyOe2caa : ClassId) (X : va_W) (S : wPS) {A : Nat → Prop} {a k : Nat} (hD : va_D A (X ++ va_pl S.L (wPF cyI cyOe2caa S))) (hL : a ∈ S.L) (h : S.K a = 3) (hk : (X ++ va_pl S.L (wPF cyI cyOe2caa S))[k]? = some (a, wPF cyI cyOe2caa S a)) (v : Option Nat) : (X ++ va_pl S.L (wPF cyI cyOe2caa S)).set k (a, .inr (3, [va_rf v, va_rf (S.O_BellRanks.f_method a), va_rf (S.O_BellRanks.f_rung a), va_rf (S.O_BellRanks.f_made a), va_rf (S.O_BellRanks.f_ranks a), .int (S.O_BellRanks.f_bells a), .int (S.O_BellRanks.f_written a), .int (S.O_BellRanks.f_rungInAll a)])) = X ++ va_pl S.L (wPF cyI cyOe2caa { S with O_BellRanks := { S.O_BellRanks with f_book := va_up S.O_BellRanks.f_book a v } }) := by
  rw [va_pl_set hD hL hk]
  exact congrArg (fun l => X ++ l) (va_pl_congr (wSt_O_BellRanks_f_book cyI cyOe2caa S h v))
theorem wSt_O_BellRanks_f_method (cyI : ClassId) (cyOe2caa : ClassId) (S : wPS) {a : Nat} (h : S.K a = 3) (v : Option Nat) (b : Nat) : va_up (wPF cyI cyOe2caa S) a (.inr (3, [va_rf (S.O_BellRanks.f_book a), va_rf v, va_rf (S.O_BellRanks.f_rung a), va_rf (S.O_BellRanks.f_made a), va_rf (S.O_BellRanks.f_ranks a), .int (S.O_BellRanks.f_bells a), .int (S.O_BellRanks.f_written a), .int (S.O_BellRanks.f_rungInAll a)])) b = wPF cyI cyOe2caa { S with O_BellRanks := { S.O_BellRanks with f_method := va_up S.O_BellRanks.f_method a v } } b := by by_cases hb : b = a <;> first | (simp only [wPF, va_up_ne _ _ hb]; done) | (simp only [wPF, va_up, if_neg hb]; done) | simp [wPF, va_re, va_up, va_rf, hb, h]
theorem wPu_O_BellRanks_f_method (cyI : ClassId) (cyOe2caa : ClassId) (X : va_W) (S : wPS) {A : Nat → Prop} {a k : Nat} (hD : va_D A (X ++ va_pl S.L (wPF cyI cyOe2caa S))) (hL : a ∈ S.L) (h : S.K a = 3) (hk : (X ++ va_pl S.L (wPF cyI cyOe2caa S))[k]? = some (a, wPF cyI cyOe2caa S a)) (v : Option Nat) : (X ++ va_pl S.L (wPF cyI cyOe2caa S)).set k (a, .inr (3, [va_rf (S.O_BellRanks.f_book a), va_rf v, va_rf (S.O_BellRanks.f_rung a), va_rf (S.O_BellRanks.f_made a), va_rf (S.O_BellRanks.f_ranks a), .int (S.O_BellRanks.f_bells a), .int (S.O_BellRanks.f_written a), .int (S.O_BellRanks.f_rungInAll a)])) = X ++ va_pl S.L (wPF cyI cyOe2caa { S with O_BellRanks := { S.O_BellRanks with f_method := va_up S.O_BellRanks.f_method a v } }) := by
  rw [va_pl_set hD hL hk]
  exact congrArg (fun l => X ++ l) (va_pl_congr (wSt_O_BellRanks_f_method cyI cyOe2caa S h v))
theorem wSt_O_BellRanks_f_rung (cyI : ClassId) (cyOe2caa : ClassId) (S : wPS) {a : Nat} (h : S.K a = 3) (v : Option Nat) (b : Nat) : va_up (wPF cyI cyOe2caa S) a (.inr (3, [va_rf (S.O_BellRanks.f_book a), va_rf (S.O_BellRanks.f_method a), va_rf v, va_rf (S.O_BellRanks.f_made a), va_rf (S.O_BellRanks.f_ranks a), .int (S.O_BellRanks.f_bells a), .int (S.O_BellRanks.f_written a), .int (S.O_BellRanks.f_rungInAll a)])) b = wPF cyI cyOe2caa { S with O_BellRanks := { S.O_BellRanks with f_rung := va_up S.O_BellRanks.f_rung a v } } b := by by_cases hb : b = a <;> first | (simp only [wPF, va_up_ne _ _ hb]; done) | (simp only [wPF, va_up, if_neg hb]; done) | simp [wPF, va_re, va_up, va_rf, hb, h]
theorem wPu_O_BellRanks_f_rung (cyI : ClassId) (cyOe2caa : ClassId) (X : va_W) (S : wPS) {A : Nat → Prop} {a k : Nat} (hD : va_D A (X ++ va_pl S.L (wPF cyI cyOe2caa S))) (hL : a ∈ S.L) (h : S.K a = 3) (hk : (X ++ va_pl S.L (wPF cyI cyOe2caa S))[k]? = some (a, wPF cyI cyOe2caa S a)) (v : Option Nat) : (X ++ va_pl S.L (wPF cyI cyOe2caa S)).set k (a, .inr (3, [va_rf (S.O_BellRanks.f_book a), va_rf (S.O_BellRanks.f_method a), va_rf v, va_rf (S.O_BellRanks.f_made a), va_rf (S.O_BellRanks.f_ranks a), .int (S.O_BellRanks.f_bells a), .int (S.O_BellRanks.f_written a), .int (S.O_BellRanks.f_rungInAll a)])) = X ++ va_pl S.L (wPF cyI cyOe2caa { S with O_BellRanks := { S.O_BellRanks with f_rung := va_up S.O_BellRanks.f_rung a v } }) := by
  rw [va_pl_set hD hL hk]
  exact congrArg (fun l => X ++ l) (va_pl_congr (wSt_O_BellRanks_f_rung cyI cyOe2caa S h v))
theorem wSt_O_BellRanks_f_made (cyI : ClassId) (cyOe2caa : ClassId) (S : wPS) {a : Nat} (h : S.K a = 3) (v : Option Nat) (b : Nat) : va_up (wPF cyI cyOe2caa S) a (.inr (3, [va_rf (S.O_BellRanks.f_book a), va_rf (S.O_BellRanks.f_method a), va_rf (S.O_BellRanks.f_rung a), va_rf v, va_rf (S.O_BellRanks.f_ranks a), .int (S.O_BellRanks.f_bells a), .int (S.O_BellRanks.f_written a), .int (S.O_BellRanks.f_rungInAll a)])) b = wPF cyI cyOe2caa { S with O_BellRanks := { S.O_BellRanks with f_made := va_up S.O_BellRanks.f_made a v } } b := by by_cases hb : b = a <;> first | (simp only [wPF, va_up_ne _ _ hb]; done) | (simp only [wPF, va_up, if_neg hb]; done) | simp [wPF, va_re, va_up, va_rf, hb, h]
theorem wPu_O_BellRanks_f_made (cyI : ClassId) (cyOe2caa : ClassId) (X : va_W) (S : wPS) {A : Nat → Prop} {a k : Nat} (hD : va_D A (X ++ va_pl S.L (wPF cyI cyOe2caa S))) (hL : a ∈ S.L) (h : S.K a = 3) (hk : (X ++ va_pl S.L (wPF cyI cyOe2caa S))[k]? = some (a, wPF cyI cyOe2caa S a)) (v : Option Nat) : (X ++ va_pl S.L (wPF cyI cyOe2caa S)).set k (a, .inr (3, [va_rf (S.O_BellRanks.f_book a), va_rf (S.O_BellRanks.f_method a), va_rf (S.O_BellRanks.f_rung a), va_rf v, va_rf (S.O_BellRanks.f_ranks a), .int (S.O_BellRanks.f_bells a), .int (S.O_BellRanks.f_written a), .int (S.O_BellRanks.f_rungInAll a)])) = X ++ va_pl S.L (wPF cyI cyOe2caa { S with O_BellRanks := { S.O_BellRanks with f_made := va_up S.O_BellRanks.f_made a v } }) := by
  rw [va_pl_set hD hL hk]
  exact congrArg (fun l => X ++ l) (va_pl_congr (wSt_O_BellRanks_f_made cyI cyOe2caa S h v))
theorem wSt_O_BellRanks_f_ranks (cyI : ClassId) (cyOe2caa : ClassId) (S : wPS) {a : Nat} (h : S.K a = 3) (v : Option Nat) (b : Nat) : va_up (wPF cyI cyOe2caa S) a (.inr (3, [va_rf (S.O_BellRanks.f_book a), va_rf (S.O_BellRanks.f_method a), va_rf (S.O_BellRanks.f_rung a), va_rf (S.O_BellRanks.f_made a), va_rf v, .int (S.O_BellRanks.f_bells a), .int (S.O_BellRanks.f_written a), .int (S.O_BellRanks.f_rungInAll a)])) b = wPF cyI cyOe2caa { S with O_BellRanks := { S.O_BellRanks with f_ranks := va_up S.O_BellRanks.f_ranks a v } } b := by by_cases hb : b = a <;> first | (simp only [wPF, va_up_ne _ _ hb]; done) | (simp only [wPF, va_up, if_neg hb]; done) | simp [wPF, va_re, va_up, va_rf, hb, h]
theorem wPu_O_BellRanks_f_ranks (cyI : ClassId) (cyOe2caa : ClassId) (X : va_W) (S : wPS) {A : Nat → Prop} {a k : Nat} (hD : va_D A (X ++ va_pl S.L (wPF cyI cyOe2caa S))) (hL : a ∈ S.L) (h : S.K a = 3) (hk : (X ++ va_pl S.L (wPF cyI cyOe2caa S))[k]? = some (a, wPF cyI cyOe2caa S a)) (v : Option Nat) : (X ++ va_pl S.L (wPF cyI cyOe2caa S)).set k (a, .inr (3, [va_rf (S.O_BellRanks.f_book a), va_rf (S.O_BellRanks.f_method a), va_rf (S.O_BellRanks.f_rung a), va_rf (S.O_BellRanks.f_made a), va_rf v, .int (S.O_BellRanks.f_bells a), .int (S.O_BellRanks.f_written a), .int (S.O_BellRanks.f_rungInAll a)])) = X ++ va_pl S.L (wPF cyI cyOe2caa { S with O_BellRanks := { S.O_BellRanks with f_ranks := va_up S.O_BellRanks.f_ranks a v } }) := by
  rw [va_pl_set hD hL hk]
  exact congrArg (fun l => X ++ l) (va_pl_congr (wSt_O_BellRanks_f_ranks cyI cyOe2caa S h v))
theorem wSt_O_BellRanks_f_bells (cyI : ClassId) (cyOe2caa : ClassId) (S : wPS) {a : Nat} (h : S.K a = 3) (v : Int32) (b : Nat) : va_up (wPF cyI cyOe2caa S) a (.inr (3, [va_rf (S.O_BellRanks.f_book a), va_rf (S.O_BellRanks.f_method a), va_rf (S.O_BellRanks.f_rung a), va_rf (S.O_BellRanks.f_made a), va_rf (S.O_BellRanks.f_ranks a), .int v, .int (S.O_BellRanks.f_written a), .int (S.O_BellRanks.f_rungInAll a)])) b = wPF cyI cyOe2caa { S with O_BellRanks := { S.O_BellRanks with f_bells := va_up S.O_BellRanks.f_bells a v } } b := by by_cases hb : b = a <;> first | (simp only [wPF, va_up_ne _ _ hb]; done) | (simp only [wPF, va_up, if_neg hb]; done) | simp [wPF, va_re, va_up, va_rf, hb, h]
theorem wPu_O_BellRanks_f_bells (cyI : ClassId) (cyOe2caa : ClassId) (X : va_W) (S : wPS) {A : Nat → Prop} {a k : Nat} (hD : va_D A (X ++ va_pl S.L (wPF cyI cyOe2caa S))) (hL : a ∈ S.L) (h : S.K a = 3) (hk : (X ++ va_pl S.L (wPF cyI cyOe2caa S))[k]? = some (a, wPF cyI cyOe2caa S a)) (v : Int32) : (X ++ va_pl S.L (wPF cyI cyOe2caa S)).set k (a, .inr (3, [va_rf (S.O_BellRanks.f_book a), va_rf (S.O_BellRanks.f_method a), va_rf (S.O_BellRanks.f_rung a), va_rf (S.O_BellRanks.f_made a), va_rf (S.O_BellRanks.f_ranks a), .int v, .int (S.O_BellRanks.f_written a), .int (S.O_BellRanks.f_rungInAll a)])) = X ++ va_pl S.L (wPF cyI cyOe2caa { S with O_BellRanks := { S.O_BellRanks with f_bells := va_up S.O_BellRanks.f_bells a v } }) := by
  rw [va_pl_set hD hL hk]
  exact congrArg (fun l => X ++ l) (va_pl_congr (wSt_O_BellRanks_f_bells cyI cyOe2caa S h v))
theorem wSt_O_BellRanks_f_written (cyI : ClassId) (cyOe2caa : ClassId) (S : wPS) {a : Nat} (h : S.K a = 3) (v : Int32) (b : Nat) : va_up (wPF cyI cyOe2caa S) a (.inr (3, [va_rf (S.O_BellRanks.f_book a), va_rf (S.O_BellRanks.f_method a), va_rf (S.O_BellRanks.f_rung a), va_rf (S.O_BellRanks.f_made a), va_rf (S.O_BellRanks.f_ranks a), .int (S.O_BellRanks.f_bells a), .int v, .int (S.O_BellRanks.f_rungInAll a)])) b = wPF cyI cyOe2caa { S with O_BellRanks := { S.O_BellRanks with f_written := va_up S.O_BellRanks.f_written a v } } b := by by_cases hb : b = a <;> first | (simp only [wPF, va_up_ne _ _ hb]; done) | (simp only [wPF, va_up, if_neg hb]; done) | simp [wPF, va_re, va_up, va_rf, hb, h]
theorem wPu_O_BellRanks_f_written (cyI : ClassId) (cyOe2caa : ClassId) (X : va_W) (S : wPS) {A : Nat → Prop} {a k : Nat} (hD : va_D A (X ++ va_pl S.L (wPF cyI cyOe2caa S))) (hL : a ∈ S.L) (h : S.K a = 3) (hk : (X ++ va_pl S.L (wPF cyI cyOe2caa S))[k]? = some (a, wPF cyI cyOe2caa S a)) (v : Int32) : (X ++ va_pl S.L (wPF cyI cyOe2caa S)).set k (a, .inr (3, [va_rf (S.O_BellRanks.f_book a), va_rf (S.O_BellRanks.f_method a), va_rf (S.O_BellRanks.f_rung a), va_rf (S.O_BellRanks.f_made a), va_rf (S.O_BellRanks.f_ranks a), .int (S.O_BellRanks.f_bells a), .int v, .int (S.O_BellRanks.f_rungInAll a)])) = X ++ va_pl S.L (wPF cyI cyOe2caa { S with O_BellRanks := { S.O_BellRanks with f_written := va_up S.O_BellRanks.f_written a v } }) := by
  rw [va_pl_set hD hL hk]
  exact congrArg (fun l => X ++ l) (va_pl_congr (wSt_O_BellRanks_f_written cyI cyOe2caa S h v))
theorem wSt_O_BellRanks_f_rungInAll (cyI : ClassId) (cyOe2caa : ClassId) (S : wPS) {a : Nat} (h : S.K a = 3) (v : Int32) (b : Nat) : va_up (wPF cyI cyOe2caa S) a (.inr (3, [va_rf (S.O_BellRanks.f_book a), va_rf (S.O_BellRanks.f_method a), va_rf (S.O_BellRanks.f_rung a), va_rf (S.O_BellRanks.f_made a), va_rf (S.O_BellRanks.f_ranks a), .int (S.O_BellRanks.f_bells a), .int (S.O_BellRanks.f_written a), .int v])) b = wPF cyI cyOe2caa { S with O_BellRanks := { S.O_BellRanks with f_rungInAll := va_up S.O_BellRanks.f_rungInAll a v } } b := by by_cases hb : b = a <;> first | (simp only [wPF, va_up_ne _ _ hb]; done) | (simp only [wPF, va_up, if_neg hb]; done) | simp [wPF, va_re, va_up, va_rf, hb, h]
theorem wPu_O_BellRanks_f_rungInAll (cyI : ClassId) (cyOe2caa : ClassId) (X : va_W) (S : wPS) {A : Nat → Prop} {a k : Nat} (hD : va_D A (X ++ va_pl S.L (wPF cyI cyOe2caa S))) (hL : a ∈ S.L) (h : S.K a = 3) (hk : (X ++ va_pl S.L (wPF cyI cyOe2caa S))[k]? = some (a, wPF cyI cyOe2caa S a)) (v : Int32) : (X ++ va_pl S.L (wPF cyI cyOe2caa S)).set k (a, .inr (3, [va_rf (S.O_BellRanks.f_book a), va_rf (S.O_BellRanks.f_method a), va_rf (S.O_BellRanks.f_rung a), va_rf (S.O_BellRanks.f_made a), va_rf (S.O_BellRanks.f_ranks a), .int (S.O_BellRanks.f_bells a), .int (S.O_BellRanks.f_written a), .int v])) = X ++ va_pl S.L (wPF cyI cyOe2caa { S with O_BellRanks := { S.O_BellRanks with f_rungInAll := va_up S.O_BellRanks.f_rungInAll a v } }) := by
  rw [va_pl_set hD hL hk]
  exact congrArg (fun l => X ++ l) (va_pl_congr (wSt_O_BellRanks_f_rungInAll cyI cyOe2caa S h v))
theorem wNw_O_BellRanks (cyI : ClassId) (cyOe2caa : ClassId) (S : wPS) (a b : Nat) : va_up (wPF cyI cyOe2caa S) a (.inr (3, [.null, .null, .null, .null, .null, .int 0, .int 0, .int 0])) b = wPF cyI cyOe2caa { S with L := S.L ++ [a], K := va_up S.K a 3, O_BellRanks := { f_book := va_up S.O_BellRanks.f_book a none, f_method := va_up S.O_BellRanks.f_method a none, f_rung := va_up S.O_BellRanks.f_rung a none, f_made := va_up S.O_BellRanks.f_made a none, f_ranks := va_up S.O_BellRanks.f_ranks a none, f_bells := va_up S.O_BellRanks.f_bells a 0, f_written := va_up S.O_BellRanks.f_written a 0, f_rungInAll := va_up S.O_BellRanks.f_rungInAll a 0 } } b := by by_cases hb : b = a <;> first | (simp only [wPF, va_up_ne _ _ hb]; done) | (simp only [wPF, va_up, if_neg hb]; done) | simp [wPF, va_re, va_up, va_rf, hb]
theorem wPn_O_BellRanks (cyI : ClassId) (cyOe2caa : ClassId) (X : va_W) (S : wPS) {a : Nat} (ha : a ∉ S.L) : (X ++ va_pl S.L (wPF cyI cyOe2caa S)) ++ [(a, .inr (3, [.null, .null, .null, .null, .null, .int 0, .int 0, .int 0]))] = X ++ va_pl (S.L ++ [a]) (wPF cyI cyOe2caa { S with L := S.L ++ [a], K := va_up S.K a 3, O_BellRanks := { f_book := va_up S.O_BellRanks.f_book a none, f_method := va_up S.O_BellRanks.f_method a none, f_rung := va_up S.O_BellRanks.f_rung a none, f_made := va_up S.O_BellRanks.f_made a none, f_ranks := va_up S.O_BellRanks.f_ranks a none, f_bells := va_up S.O_BellRanks.f_bells a 0, f_written := va_up S.O_BellRanks.f_written a 0, f_rungInAll := va_up S.O_BellRanks.f_rungInAll a 0 } }) := by
  rw [List.append_assoc, va_pl_push ha]
  exact congrArg (fun l => X ++ l) (va_pl_congr (wNw_O_BellRanks cyI cyOe2caa S a))
theorem wAt_O_BellRanksModel (cyI : ClassId) (cyOe2caa : ClassId) (S : wPS) {a : Nat} (h : S.K a = 4) : wPF cyI cyOe2caa S a = .inr (4, [.int (S.O_BellRanksModel.f_thrown a), .int (S.O_BellRanksModel.f_bells a), .int (S.O_BellRanksModel.f_changes a), va_rf (S.O_BellRanksModel.f_book a), .int (S.O_BellRanksModel.f_steps a), va_rf (S.O_BellRanksModel.f_kept a), .int (S.O_BellRanksModel.f_rung a)]) := by simp [wPF, h]
theorem wGt_O_BellRanksModel (cyI : ClassId) (cyOe2caa : ClassId) (X : va_W) (S : wPS) {a : Nat} (hL : a ∈ S.L) (h : S.K a = 4) : ∃ k : Nat, (X ++ va_pl S.L (wPF cyI cyOe2caa S))[k]? = some (a, wPF cyI cyOe2caa S a) ∧ (X ++ va_pl S.L (wPF cyI cyOe2caa S))[k]? = some (a, .inr (4, [.int (S.O_BellRanksModel.f_thrown a), .int (S.O_BellRanksModel.f_bells a), .int (S.O_BellRanksModel.f_changes a), va_rf (S.O_BellRanksModel.f_book a), .int (S.O_BellRanksModel.f_steps a), va_rf (S.O_BellRanksModel.f_kept a), .int (S.O_BellRanksModel.f_rung a)])) := by
  obtain ⟨k, hk⟩ := va_pl_get (X := X) (f := wPF cyI cyOe2caa S) hL
  exact ⟨k, hk, hk.trans (congrArg (fun e => some (a, e)) (wAt_O_BellRanksModel cyI cyOe2caa S h))⟩
theorem wSt_O_BellRanksModel_f_thrown (cyI : ClassId) (cyOe2caa : ClassId) (S : wPS) {a : Nat} (h : S.K a = 4) (v : Int32) (b : Nat) : va_up (wPF cyI cyOe2caa S) a (.inr (4, [.int v, .int (S.O_BellRanksModel.f_bells a), .int (S.O_BellRanksModel.f_changes a), va_rf (S.O_BellRanksModel.f_book a), .int (S.O_BellRanksModel.f_steps a), va_rf (S.O_BellRanksModel.f_kept a), .int (S.O_BellRanksModel.f_rung a)])) b = wPF cyI cyOe2caa { S with O_BellRanksModel := { S.O_BellRanksModel with f_thrown := va_up S.O_BellRanksModel.f_thrown a v } } b := by by_cases hb : b = a <;> first | (simp only [wPF, va_up_ne _ _ hb]; done) | (simp only [wPF, va_up, if_neg hb]; done) | simp [wPF, va_re, va_up, va_rf, hb, h]
theorem wPu_O_BellRanksModel_f_thrown (cyI : ClassId) (cyOe2caa : ClassId) (X : va_W) (S : wPS) {A : Nat → Prop} {a k : Nat} (hD : va_D A (X ++ va_pl S.L (wPF cyI cyOe2caa S))) (hL : a ∈ S.L) (h : S.K a = 4) (hk : (X ++ va_pl S.L (wPF cyI cyOe2caa S))[k]? = some (a, wPF cyI cyOe2caa S a)) (v : Int32) : (X ++ va_pl S.L (wPF cyI cyOe2caa S)).set k (a, .inr (4, [.int v, .int (S.O_BellRanksModel.f_bells a), .int (S.O_BellRanksModel.f_changes a), va_rf (S.O_BellRanksModel.f_book a), .int (S.O_BellRanksModel.f_steps a), va_rf (S.O_BellRanksModel.f_kept a), .int (S.O_BellRanksModel.f_rung a)])) = X ++ va_pl S.L (wPF cyI cyOe2caa { S with O_BellRanksModel := { S.O_BellRanksModel with f_thrown := va_up S.O_BellRanksModel.f_thrown a v } }) := by
  rw [va_pl_set hD hL hk]
  exact congrArg (fun l => X ++ l) (va_pl_congr (wSt_O_BellRanksModel_f_thrown cyI cyOe2caa S h v))
theorem wSt_O_BellRanksModel_f_bells (cyI : ClassId) (cyOe2caa : ClassId) (S : wPS) {a : Nat} (h : S.K a = 4) (v : Int32) (b : Nat) : va_up (wPF cyI cyOe2caa S) a (.inr (4, [.int (S.O_BellRanksModel.f_thrown a), .int v, .int (S.O_BellRanksModel.f_changes a), va_rf (S.O_BellRanksModel.f_book a), .int (S.O_BellRanksModel.f_steps a), va_rf (S.O_BellRanksModel.f_kept a), .int (S.O_BellRanksModel.f_rung a)])) b = wPF cyI cyOe2caa { S with O_BellRanksModel := { S.O_BellRanksModel with f_bells := va_up S.O_BellRanksModel.f_bells a v } } b := by by_cases hb : b = a <;> first | (simp only [wPF, va_up_ne _ _ hb]; done) | (simp only [wPF, va_up, if_neg hb]; done) | simp [wPF, va_re, va_up, va_rf, hb, h]
theorem wPu_O_BellRanksModel_f_bells (cyI : ClassId) (cyOe2caa : ClassId) (X : va_W) (S : wPS) {A : Nat → Prop} {a k : Nat} (hD : va_D A (X ++ va_pl S.L (wPF cyI cyOe2caa S))) (hL : a ∈ S.L) (h : S.K a = 4) (hk : (X ++ va_pl S.L (wPF cyI cyOe2caa S))[k]? = some (a, wPF cyI cyOe2caa S a)) (v : Int32) : (X ++ va_pl S.L (wPF cyI cyOe2caa S)).set k (a, .inr (4, [.int (S.O_BellRanksModel.f_thrown a), .int v, .int (S.O_BellRanksModel.f_changes a), va_rf (S.O_BellRanksModel.f_book a), .int (S.O_BellRanksModel.f_steps a), va_rf (S.O_BellRanksModel.f_kept a), .int (S.O_BellRanksModel.f_rung a)])) = X ++ va_pl S.L (wPF cyI cyOe2caa { S with O_BellRanksModel := { S.O_BellRanksModel with f_bells := va_up S.O_BellRanksModel.f_bells a v } }) := by
  rw [va_pl_set hD hL hk]
  exact congrArg (fun l => X ++ l) (va_pl_congr (wSt_O_BellRanksModel_f_bells cyI cyOe2caa S h v))
theorem wSt_O_BellRanksModel_f_changes (cyI : ClassId) (cyOe2caa : ClassId) (S : wPS) {a : Nat} (h : S.K a = 4) (v : Int32) (b : Nat) : va_up (wPF cyI cyOe2caa S) a (.inr (4, [.int (S.O_BellRanksModel.f_thrown a), .int (S.O_BellRanksModel.f_bells a), .int v, va_rf (S.O_BellRanksModel.f_book a), .int (S.O_BellRanksModel.f_steps a), va_rf (S.O_BellRanksModel.f_kept a), .int (S.O_BellRanksModel.f_rung a)])) b = wPF cyI cyOe2caa { S with O_BellRanksModel := { S.O_BellRanksModel with f_changes := va_up S.O_BellRanksModel.f_changes a v } } b := by by_cases hb : b = a <;> first | (simp only [wPF, va_up_ne _ _ hb]; done) | (simp only [wPF, va_up, if_neg hb]; done) | simp [wPF, va_re, va_up, va_rf, hb, h]
theorem wPu_O_BellRanksModel_f_changes (cyI : ClassId) (cyOe2caa : ClassId) (X : va_W) (S : wPS) {A : Nat → Prop} {a k : Nat} (hD : va_D A (X ++ va_pl S.L (wPF cyI cyOe2caa S))) (hL : a ∈ S.L) (h : S.K a = 4) (hk : (X ++ va_pl S.L (wPF cyI cyOe2caa S))[k]? = some (a, wPF cyI cyOe2caa S a)) (v : Int32) : (X ++ va_pl S.L (wPF cyI cyOe2caa S)).set k (a, .inr (4, [.int (S.O_BellRanksModel.f_thrown a), .int (S.O_BellRanksModel.f_bells a), .int v, va_rf (S.O_BellRanksModel.f_book a), .int (S.O_BellRanksModel.f_steps a), va_rf (S.O_BellRanksModel.f_kept a), .int (S.O_BellRanksModel.f_rung a)])) = X ++ va_pl S.L (wPF cyI cyOe2caa { S with O_BellRanksModel := { S.O_BellRanksModel with f_changes := va_up S.O_BellRanksModel.f_changes a v } }) := by
  rw [va_pl_set hD hL hk]
  exact congrArg (fun l => X ++ l) (va_pl_congr (wSt_O_BellRanksModel_f_changes cyI cyOe2caa S h v))
theorem wSt_O_BellRanksModel_f_book (cyI : ClassId) (cyOe2caa : ClassId) (S : wPS) {a : Nat} (h : S.K a = 4) (v : Option Nat) (b : Nat) : va_up (wPF cyI cyOe2caa S) a (.inr (4, [.int (S.O_BellRanksModel.f_thrown a), .int (S.O_BellRanksModel.f_bells a), .int (S.O_BellRanksModel.f_changes a), va_rf v, .int (S.O_BellRanksModel.f_steps a), va_rf (S.O_BellRanksModel.f_kept a), .int (S.O_BellRanksModel.f_rung a)])) b = wPF cyI cyOe2caa { S with O_BellRanksModel := { S.O_BellRanksModel with f_book := va_up S.O_BellRanksModel.f_book a v } } b := by by_cases hb : b = a <;> first | (simp only [wPF, va_up_ne _ _ hb]; done) | (simp only [wPF, va_up, if_neg hb]; done) | simp [wPF, va_re, va_up, va_rf, hb, h]
theorem wPu_O_BellRanksModel_f_book (cyI : ClassId) (cyOe2caa : ClassId) (X : va_W) (S : wPS) {A : Nat → Prop} {a k : Nat} (hD : va_D A (X ++ va_pl S.L (wPF cyI cyOe2caa S))) (hL : a ∈ S.L) (h : S.K a = 4) (hk : (X ++ va_pl S.L (wPF cyI cyOe2caa S))[k]? = some (a, wPF cyI cyOe2caa S a)) (v : Option Nat) : (X ++ va_pl S.L (wPF cyI cyOe2caa S)).set k (a, .inr (4, [.int (S.O_BellRanksModel.f_thrown a), .int (S.O_BellRanksModel.f_bells a), .int (S.O_BellRanksModel.f_changes a), va_rf v, .int (S.O_BellRanksModel.f_steps a), va_rf (S.O_BellRanksModel.f_kept a), .int (S.O_BellRanksModel.f_rung a)])) = X ++ va_pl S.L (wPF cyI cyOe2caa { S with O_BellRanksModel := { S.O_BellRanksModel with f_book := va_up S.O_BellRanksModel.f_book a v } }) := by
  rw [va_pl_set hD hL hk]
  exact congrArg (fun l => X ++ l) (va_pl_congr (wSt_O_BellRanksModel_f_book cyI cyOe2caa S h v))
theorem wSt_O_BellRanksModel_f_steps (cyI : ClassId) (cyOe2caa : ClassId) (S : wPS) {a : Nat} (h : S.K a = 4) (v : Int32) (b : Nat) : va_up (wPF cyI cyOe2caa S) a (.inr (4, [.int (S.O_BellRanksModel.f_thrown a), .int (S.O_BellRanksModel.f_bells a), .int (S.O_BellRanksModel.f_changes a), va_rf (S.O_BellRanksModel.f_book a), .int v, va_rf (S.O_BellRanksModel.f_kept a), .int (S.O_BellRanksModel.f_rung a)])) b = wPF cyI cyOe2caa { S with O_BellRanksModel := { S.O_BellRanksModel with f_steps := va_up S.O_BellRanksModel.f_steps a v } } b := by by_cases hb : b = a <;> first | (simp only [wPF, va_up_ne _ _ hb]; done) | (simp only [wPF, va_up, if_neg hb]; done) | simp [wPF, va_re, va_up, va_rf, hb, h]
theorem wPu_O_BellRanksModel_f_steps (cyI : ClassId) (cyOe2caa : ClassId) (X : va_W) (S : wPS) {A : Nat → Prop} {a k : Nat} (hD : va_D A (X ++ va_pl S.L (wPF cyI cyOe2caa S))) (hL : a ∈ S.L) (h : S.K a = 4) (hk : (X ++ va_pl S.L (wPF cyI cyOe2caa S))[k]? = some (a, wPF cyI cyOe2caa S a)) (v : Int32) : (X ++ va_pl S.L (wPF cyI cyOe2caa S)).set k (a, .inr (4, [.int (S.O_BellRanksModel.f_thrown a), .int (S.O_BellRanksModel.f_bells a), .int (S.O_BellRanksModel.f_changes a), va_rf (S.O_BellRanksModel.f_book a), .int v, va_rf (S.O_BellRanksModel.f_kept a), .int (S.O_BellRanksModel.f_rung a)])) = X ++ va_pl S.L (wPF cyI cyOe2caa { S with O_BellRanksModel := { S.O_BellRanksModel with f_steps := va_up S.O_BellRanksModel.f_steps a v } }) := by
  rw [va_pl_set hD hL hk]
  exact congrArg (fun l => X ++ l) (va_pl_congr (wSt_O_BellRanksModel_f_steps cyI cyOe2caa S h v))
theorem wSt_O_BellRanksModel_f_kept (cyI : ClassId) (cyOe2caa : ClassId) (S : wPS) {a : Nat} (h : S.K a = 4) (v : Option Nat) (b : Nat) : va_up (wPF cyI cyOe2caa S) a (.inr (4, [.int (S.O_BellRanksModel.f_thrown a), .int (S.O_BellRanksModel.f_bells a), .int (S.O_BellRanksModel.f_changes a), va_rf (S.O_BellRanksModel.f_book a), .int (S.O_BellRanksModel.f_steps a), va_rf v, .int (S.O_BellRanksModel.f_rung a)])) b = wPF cyI cyOe2caa { S with O_BellRanksModel := { S.O_BellRanksModel with f_kept := va_up S.O_BellRanksModel.f_kept a v } } b := by by_cases hb : b = a <;> first | (simp only [wPF, va_up_ne _ _ hb]; done) | (simp only [wPF, va_up, if_neg hb]; done) | simp [wPF, va_re, va_up, va_rf, hb, h]
theorem wPu_O_BellRanksModel_f_kept (cyI : ClassId) (cyOe2caa : ClassId) (X : va_W) (S : wPS) {A : Nat → Prop} {a k : Nat} (hD : va_D A (X ++ va_pl S.L (wPF cyI cyOe2caa S))) (hL : a ∈ S.L) (h : S.K a = 4) (hk : (X ++ va_pl S.L (wPF cyI cyOe2caa S))[k]? = some (a, wPF cyI cyOe2caa S a)) (v : Option Nat) : (X ++ va_pl S.L (wPF cyI cyOe2caa S)).set k (a, .inr (4, [.int (S.O_BellRanksModel.f_thrown a), .int (S.O_BellRanksModel.f_bells a), .int (S.O_BellRanksModel.f_changes a), va_rf (S.O_BellRanksModel.f_book a), .int (S.O_BellRanksModel.f_steps a), va_rf v, .int (S.O_BellRanksModel.f_rung a)])) = X ++ va_pl S.L (wPF cyI cyOe2caa { S with O_BellRanksModel := { S.O_BellRanksModel with f_kept := va_up S.O_BellRanksModel.f_kept a v } }) := by
  rw [va_pl_set hD hL hk]
  exact congrArg (fun l => X ++ l) (va_pl_congr (wSt_O_BellRanksModel_f_kept cyI cyOe2caa S h v))
theorem wSt_O_BellRanksModel_f_rung (cyI : ClassId) (cyOe2caa : ClassId) (S : wPS) {a : Nat} (h : S.K a = 4) (v : Int32) (b : Nat) : va_up (wPF cyI cyOe2caa S) a (.inr (4, [.int (S.O_BellRanksModel.f_thrown a), .int (S.O_BellRanksModel.f_bells a), .int (S.O_BellRanksModel.f_changes a), va_rf (S.O_BellRanksModel.f_book a), .int (S.O_BellRanksModel.f_steps a), va_rf (S.O_BellRanksModel.f_kept a), .int v])) b = wPF cyI cyOe2caa { S with O_BellRanksModel := { S.O_BellRanksModel with f_rung := va_up S.O_BellRanksModel.f_rung a v } } b := by by_cases hb : b = a <;> first | (simp only [wPF, va_up_ne _ _ hb]; done) | (simp only [wPF, va_up, if_neg hb]; done) | simp [wPF, va_re, va_up, va_rf, hb, h]
theorem wPu_O_BellRanksModel_f_rung (cyI : ClassId) (cyOe2caa : ClassId) (X : va_W) (S : wPS) {A : Nat → Prop} {a k : Nat} (hD : va_D A (X ++ va_pl S.L (wPF cyI cyOe2caa S))) (hL : a ∈ S.L) (h : S.K a = 4) (hk : (X ++ va_pl S.L (wPF cyI cyOe2caa S))[k]? = some (a, wPF cyI cyOe2caa S a)) (v : Int32) : (X ++ va_pl S.L (wPF cyI cyOe2caa S)).set k (a, .inr (4, [.int (S.O_BellRanksModel.f_thrown a), .int (S.O_BellRanksModel.f_bells a), .int (S.O_BellRanksModel.f_changes a), va_rf (S.O_BellRanksModel.f_book a), .int (S.O_BellRanksModel.f_steps a), va_rf (S.O_BellRanksModel.f_kept a), .int v])) = X ++ va_pl S.L (wPF cyI cyOe2caa { S with O_BellRanksModel := { S.O_BellRanksModel with f_rung := va_up S.O_BellRanksModel.f_rung a v } }) := by
  rw [va_pl_set hD hL hk]
  exact congrArg (fun l => X ++ l) (va_pl_congr (wSt_O_BellRanksModel_f_rung cyI cyOe2caa S h v))
theorem wNw_O_BellRanksModel (cyI : ClassId) (cyOe2caa : ClassId) (S : wPS) (a b : Nat) : va_up (wPF cyI cyOe2caa S) a (.inr (4, [.int 0, .int 0, .int 0, .null, .int 0, .null, .int 0])) b = wPF cyI cyOe2caa { S with L := S.L ++ [a], K := va_up S.K a 4, O_BellRanksModel := { f_thrown := va_up S.O_BellRanksModel.f_thrown a 0, f_bells := va_up S.O_BellRanksModel.f_bells a 0, f_changes := va_up S.O_BellRanksModel.f_changes a 0, f_book := va_up S.O_BellRanksModel.f_book a none, f_steps := va_up S.O_BellRanksModel.f_steps a 0, f_kept := va_up S.O_BellRanksModel.f_kept a none, f_rung := va_up S.O_BellRanksModel.f_rung a 0 } } b := by by_cases hb : b = a <;> first | (simp only [wPF, va_up_ne _ _ hb]; done) | (simp only [wPF, va_up, if_neg hb]; done) | simp [wPF, va_re, va_up, va_rf, hb]
theorem wPn_O_BellRanksModel (cyI : ClassId) (cyOe2caa : ClassId) (X : va_W) (S : wPS) {a : Nat} (ha : a ∉ S.L) : (X ++ va_pl S.L (wPF cyI cyOe2caa S)) ++ [(a, .inr (4, [.int 0, .int 0, .int 0, .null, .int 0, .null, .int 0]))] = X ++ va_pl (S.L ++ [a]) (wPF cyI cyOe2caa { S with L := S.L ++ [a], K := va_up S.K a 4, O_BellRanksModel := { f_thrown := va_up S.O_BellRanksModel.f_thrown a 0, f_bells := va_up S.O_BellRanksModel.f_bells a 0, f_changes := va_up S.O_BellRanksModel.f_changes a 0, f_book := va_up S.O_BellRanksModel.f_book a none, f_steps := va_up S.O_BellRanksModel.f_steps a 0, f_kept := va_up S.O_BellRanksModel.f_kept a none, f_rung := va_up S.O_BellRanksModel.f_rung a 0 } }) := by
  rw [List.append_assoc, va_pl_push ha]
  exact congrArg (fun l => X ++ l) (va_pl_congr (wNw_O_BellRanksModel cyI cyOe2caa S a))
theorem wAt_R_I (cyI : ClassId) (cyOe2caa : ClassId) (S : wPS) {a : Nat} (h : S.K a = 5) : wPF cyI cyOe2caa S a = .inl (cyI, S.R_I.len a, .inl (S.R_I.row a)) := by simp [wPF, h]
theorem wGt_R_I (cyI : ClassId) (cyOe2caa : ClassId) (X : va_W) (S : wPS) {a : Nat} (hL : a ∈ S.L) (h : S.K a = 5) : ∃ k : Nat, (X ++ va_pl S.L (wPF cyI cyOe2caa S))[k]? = some (a, wPF cyI cyOe2caa S a) ∧ (X ++ va_pl S.L (wPF cyI cyOe2caa S))[k]? = some (a, .inl (cyI, S.R_I.len a, .inl (S.R_I.row a))) := by
  obtain ⟨k, hk⟩ := va_pl_get (X := X) (f := wPF cyI cyOe2caa S) hL
  exact ⟨k, hk, hk.trans (congrArg (fun e => some (a, e)) (wAt_R_I cyI cyOe2caa S h))⟩
theorem wSt_R_I_row (cyI : ClassId) (cyOe2caa : ClassId) (S : wPS) {a : Nat} (h : S.K a = 5) (v : Nat → Int32) (b : Nat) : va_up (wPF cyI cyOe2caa S) a (.inl (cyI, S.R_I.len a, .inl v)) b = wPF cyI cyOe2caa { S with R_I := { S.R_I with row := va_up S.R_I.row a v } } b := by by_cases hb : b = a <;> first | (simp only [wPF, va_up_ne _ _ hb]; done) | (simp only [wPF, va_up, if_neg hb]; done) | simp [wPF, va_re, va_up, va_rf, hb, h]
theorem wPu_R_I_row (cyI : ClassId) (cyOe2caa : ClassId) (X : va_W) (S : wPS) {A : Nat → Prop} {a k : Nat} (hD : va_D A (X ++ va_pl S.L (wPF cyI cyOe2caa S))) (hL : a ∈ S.L) (h : S.K a = 5) (hk : (X ++ va_pl S.L (wPF cyI cyOe2caa S))[k]? = some (a, wPF cyI cyOe2caa S a)) (v : Nat → Int32) : (X ++ va_pl S.L (wPF cyI cyOe2caa S)).set k (a, .inl (cyI, S.R_I.len a, .inl v)) = X ++ va_pl S.L (wPF cyI cyOe2caa { S with R_I := { S.R_I with row := va_up S.R_I.row a v } }) := by
  rw [va_pl_set hD hL hk]
  exact congrArg (fun l => X ++ l) (va_pl_congr (wSt_R_I_row cyI cyOe2caa S h v))
theorem wNw_R_I (cyI : ClassId) (cyOe2caa : ClassId) (S : wPS) (a : Nat) (z : Nat) (f : Nat → Int32) (b : Nat) : va_up (wPF cyI cyOe2caa S) a (.inl (cyI, z, .inl f)) b = wPF cyI cyOe2caa { S with L := S.L ++ [a], K := va_up S.K a 5, R_I := { len := va_up S.R_I.len a z, row := va_up S.R_I.row a f } } b := by by_cases hb : b = a <;> first | (simp only [wPF, va_up_ne _ _ hb]; done) | (simp only [wPF, va_up, if_neg hb]; done) | simp [wPF, va_re, va_up, va_rf, hb]
theorem wAt_R_Change (cyI : ClassId) (cyOe2caa : ClassId) (S : wPS) {a : Nat} (h : S.K a = 6) : wPF cyI cyOe2caa S a = .inl (cyOe2caa, S.R_Change.len a, .inr (.inr (.inr (.inr (S.R_Change.row a))))) := by simp [wPF, h]
theorem wGt_R_Change (cyI : ClassId) (cyOe2caa : ClassId) (X : va_W) (S : wPS) {a : Nat} (hL : a ∈ S.L) (h : S.K a = 6) : ∃ k : Nat, (X ++ va_pl S.L (wPF cyI cyOe2caa S))[k]? = some (a, wPF cyI cyOe2caa S a) ∧ (X ++ va_pl S.L (wPF cyI cyOe2caa S))[k]? = some (a, .inl (cyOe2caa, S.R_Change.len a, .inr (.inr (.inr (.inr (S.R_Change.row a)))))) := by
  obtain ⟨k, hk⟩ := va_pl_get (X := X) (f := wPF cyI cyOe2caa S) hL
  exact ⟨k, hk, hk.trans (congrArg (fun e => some (a, e)) (wAt_R_Change cyI cyOe2caa S h))⟩
theorem wSt_R_Change_row (cyI : ClassId) (cyOe2caa : ClassId) (S : wPS) {a : Nat} (h : S.K a = 6) (v : Nat → Option Nat) (b : Nat) : va_up (wPF cyI cyOe2caa S) a (.inl (cyOe2caa, S.R_Change.len a, .inr (.inr (.inr (.inr v))))) b = wPF cyI cyOe2caa { S with R_Change := { S.R_Change with row := va_up S.R_Change.row a v } } b := by by_cases hb : b = a <;> first | (simp only [wPF, va_up_ne _ _ hb]; done) | (simp only [wPF, va_up, if_neg hb]; done) | simp [wPF, va_re, va_up, va_rf, hb, h]
theorem wPu_R_Change_row (cyI : ClassId) (cyOe2caa : ClassId) (X : va_W) (S : wPS) {A : Nat → Prop} {a k : Nat} (hD : va_D A (X ++ va_pl S.L (wPF cyI cyOe2caa S))) (hL : a ∈ S.L) (h : S.K a = 6) (hk : (X ++ va_pl S.L (wPF cyI cyOe2caa S))[k]? = some (a, wPF cyI cyOe2caa S a)) (v : Nat → Option Nat) : (X ++ va_pl S.L (wPF cyI cyOe2caa S)).set k (a, .inl (cyOe2caa, S.R_Change.len a, .inr (.inr (.inr (.inr v))))) = X ++ va_pl S.L (wPF cyI cyOe2caa { S with R_Change := { S.R_Change with row := va_up S.R_Change.row a v } }) := by
  rw [va_pl_set hD hL hk]
  exact congrArg (fun l => X ++ l) (va_pl_congr (wSt_R_Change_row cyI cyOe2caa S h v))
theorem wNw_R_Change (cyI : ClassId) (cyOe2caa : ClassId) (S : wPS) (a : Nat) (z : Nat) (f : Nat → Option Nat) (b : Nat) : va_up (wPF cyI cyOe2caa S) a (.inl (cyOe2caa, z, .inr (.inr (.inr (.inr f))))) b = wPF cyI cyOe2caa { S with L := S.L ++ [a], K := va_up S.K a 6, R_Change := { len := va_up S.R_Change.len a z, row := va_up S.R_Change.row a f } } b := by by_cases hb : b = a <;> first | (simp only [wPF, va_up_ne _ _ hb]; done) | (simp only [wPF, va_up, if_neg hb]; done) | simp [wPF, va_re, va_up, va_rf, hb]
/-! ===== END printed: names ===== -/
