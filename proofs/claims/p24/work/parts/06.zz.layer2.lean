/-! MORE ROWS: new arrays, what only some cells changed, numbers in a range; masks, orders -/
theorem xrow_congr {D : va_G} {cI : ClassId} {a n : Nat} {f g : Nat → Nat} {H : Heap} (h : ∀ j, j < n → f j = g j) (hat : va_at D vwCl (a, .inl (cI, n, .inl (xA f))) H) : va_at D vwCl (a, .inl (cI, n, .inl (xA g))) H := by
  have e : vp_cell cI (n, .inl (xA f)) = vp_cell cI (n, .inl (xA g)) := by
    rw [vp_cell_i, vp_cell_i]
    unfold arrV
    congr 1
    apply Array.ext
    · simp
    · intro i h1 h2
      have hi : i < n := by simpa using h1
      simp [xA, h i hi]
  have h1 : H[a]? = some (vp_cell cI (n, .inl (xA f))) := hat
  rw [e] at h1
  exact h1
def xRow (D : va_G) (cI : ClassId) (q n : Nat) (f : Nat → Nat) (H : Heap) : Prop := va_at D vwCl (q, .inl (cI, n, .inl (xA f))) H
theorem xat_old {D : va_G} {q : Nat × va_E} {H H1 : Heap} (h : va_at D vwCl q H) (hk : ∀ x : Nat, x < H.size → H1[x]? = H[x]?) : va_at D vwCl q H1 := h.kept (hk q.1 h.lt)
theorem xk_old {H H1 : Heap} (hk : ∀ q : Nat, q < H.size → ¬ H.size ≤ q → H1[q]? = H[q]?) : ∀ x : Nat, x < H.size → H1[x]? = H[x]? := fun x hx => hk x hx (Nat.not_le.mpr hx)
section XL2
variable {p : Program} {l : Launch} {e : Env} {R : Room} {s : State} {m : MethodId} {args : Array Value} {below : List Frame} {meth : Method} {c : Code} {H : Heap} {locs : List Loc} {cells slots : Nat} {Q : State → Prop}
variable {cc : ByteArray} {pc : Nat} {ls : Array Slot} {rest : List Value}
theorem x_newa {D : va_G} {cI cC : ClassId} {A : Nat → Prop} {H0 : Heap} (hx : p.tables.exec = Jvm.exec) (hb : c.code = cc) (harr : (Cond.arrayClass .int).before args s = true) (hK : xK D cI cC s) (hS : va_S A H0 H locs) {n : Nat} (hn : n < 1000) (hcells : cells + 1 ≤ R.cells) (hslots : slots + n ≤ R.slots) (hdg : decode cc pc = .ok (.newarray .int, 2))
    (kk : ∀ (q : Nat) (H1 : Heap), q = H.size → xRow D cI q n (fun _ => 0) H1 → H1.size = H.size + 1 → (∀ x, x < H.size → H1[x]? = H[x]?) → va_S A H0 H1 locs → W p l e R s m args below meth c H1 locs (cells + 1) (slots + n) Q (F0 m (pc + 2) ls (.ref q :: rest))) : W p l e R s m args below meth c H locs cells slots Q (F0 m pc ls (.int (nI n) :: rest)) := by
  have hb31 : n < 2 ^ 31 := Nat.lt_trans hn (by decide)
  refine va_newaK (atype := .int) (N := n) hx hb harr rfl hdg rfl (nI_pos hb31) (nI_clamp hb31) (by show n * 4 ≤ _; omega) hcells hslots rfl fun H1 cA e1 z1 o1 hAr hNm => ?_
  have hcA : cA = cI := Option.some.inj (hNm.symm.trans (hK.2 0 _ rfl).2)
  subst hcA
  exact kk H.size H1 rfl e1 z1 o1 ⟨Nat.le_trans hS.1 (by omega), fun x h1 h2 => (o1 x (Nat.lt_of_lt_of_le h1 hS.1)).trans (hS.2.1 x h1 h2), hS.2.2⟩
end XL2
/-- a number in a range -/
abbrev inR (x : Int32) (N : Nat) : Prop := ¬ x < 0 ∧ x.toNatClampNeg < N
theorem inR_nI {j N : Nat} (hj : j < 2 ^ 31) : inR (nI j) N ↔ j < N := by
  unfold inR
  rw [nI_clamp hj]
  exact ⟨fun h => h.2, fun h => ⟨nI_pos hj, h⟩⟩
theorem inR_of {x : Int32} {N : Nat} (h : inR x N) : ∃ j, j < N ∧ j < 2 ^ 31 ∧ x = nI j := by
  obtain ⟨j, hj, rfl⟩ := nI_of h.1
  exact ⟨j, (inR_nI hj).mp h, hj, rfl⟩
theorem inR_in {x : Int32} {N : Nat} (hN : N < 2 ^ 30) : (nI 0 ≤ x ∧ x ≤ nI N - nI 1) ↔ inR x N := by
  by_cases h : x < 0
  · exact ⟨fun z => absurd h (Int32.not_lt.mpr z.1), fun z => absurd h z.1⟩
  · obtain ⟨j, hj, rfl⟩ := nI_of h
    rw [inR_nI hj]
    by_cases c : N = 0
    · subst c
      refine ⟨fun z => absurd z.2 (fun q => ?_), fun z => absurd z (Nat.not_lt_zero _)⟩
      have h1 : nI j ≤ (-1 : Int32) := q
      have h2 : (0 : Int32) ≤ -1 := Int32.le_trans (nI_pos' hj) h1
      exact absurd h2 (by decide)
    · rw [pk_sub (by omega), nI_leI hj (by omega)]
      exact ⟨fun z => by have := z.2; omega, fun z => ⟨nI_le (Nat.zero_le _) hj, by omega⟩⟩
theorem ite10 {P Q : Prop} [Decidable P] [Decidable Q] (h : P ↔ Q) : (if P then 1 else 0 : Nat) = if Q then 1 else 0 := by
  by_cases q : Q
  · rw [if_pos q, if_pos (h.mpr q)]
  · rw [if_neg q, if_neg (fun z => q (h.mp z))]
/-! masks -/
set_option maxRecDepth 100000 in
theorem msk_off : ∀ w, w < 256 → ∀ b, b < 8 → bitN w b = 1 → nI w &&& ((nI 1 <<< (nI b &&& 31)) ^^^ (-1)) = nI (w - 2 ^ b) := by decide +kernel
set_option maxRecDepth 100000 in
theorem msk_bit : ∀ w, w < 256 → ∀ b, b < 8 → bitN w b = 1 → w - 2 ^ b < 256 ∧ ∀ i, i < 8 → bitN (w - 2 ^ b) i = if i = b then 0 else bitN w i := by decide +kernel
theorem msk_all : ∀ n, n ≤ 8 → 2 ^ n - 1 < 256 ∧ ∀ i, i < 8 → bitN (2 ^ n - 1) i = if i < n then 1 else 0 := by decide +kernel
/-! orders -/
def lmuT (a b : Nat) : Bool := a == 0 || b == 0 || !(840 % a == 0) || (lmu a b == a / Nat.gcd b a * b && lmu a b % a == 0 && lmu a b % b == 0 && 840 % lmu a b == 0 && decide (0 < lmu a b) && decide (lmu a b < 841) && decide (0 < Nat.gcd b a) && decide (Nat.gcd b a < 9))
set_option maxRecDepth 100000 in
theorem lmu_tabB : ∀ a, a < 841 → ∀ b, b < 9 → lmuT a b = true := by decide +kernel
theorem lmu_tab (a : Nat) (ha : a < 841) (b : Nat) (hb : b < 9) (h1 : 0 < a) (h2 : 0 < b) (h3 : 840 % a = 0) : lmu a b = a / Nat.gcd b a * b ∧ lmu a b % a = 0 ∧ lmu a b % b = 0 ∧ 840 % lmu a b = 0 ∧ 0 < lmu a b ∧ lmu a b < 841 ∧ 0 < Nat.gcd b a ∧ Nat.gcd b a < 9 := by
  have h := lmu_tabB a ha b hb
  unfold lmuT at h
  have e1 : (a == 0) = false := by simp; omega
  have e2 : (b == 0) = false := by simp; omega
  have e3 : (840 % a == 0) = true := by simp [h3]
  rw [e1, e2, e3] at h
  simp only [Bool.false_or, Bool.not_true, Bool.and_eq_true, beq_iff_eq, decide_eq_true_eq] at h
  obtain ⟨⟨⟨⟨⟨⟨⟨q1, q2⟩, q3⟩, q4⟩, q5⟩, q6⟩, q7⟩, q8⟩ := h
  exact ⟨q1, q2, q3, q4, q5, q6, q7, q8⟩
theorem ord_ok {a : Nat → Nat} {n : Nat} (hn : n ≤ 8) : ∀ k, k ≤ n → 0 < ord a n k ∧ ord a n k < 841 ∧ 840 % ord a n k = 0
  | 0, _ => ⟨Nat.one_pos, show 1 < 841 by decide, show 840 % 1 = 0 by decide⟩
  | k + 1, hk => by
    obtain ⟨h1, h2, h3⟩ := ord_ok (a := a) hn k (by omega)
    have h4 := per_le (f := a) (show k < n by omega) k
    obtain ⟨-, -, -, g1, g2, g3, -⟩ := lmu_tab (ord a n k) h2 (per a n k) (by omega) h1 (per_1 _ _ _) h3
    exact ⟨g2, g3, g1⟩
theorem ord_dvd {a : Nat → Nat} {n : Nat} (hn : n ≤ 8) : ∀ k, k ≤ n → ∀ j, j < k → ord a n k % per a n j = 0
  | 0, _, j, hj => absurd hj (Nat.not_lt_zero _)
  | k + 1, hk, j, hj => by
    obtain ⟨h1, h2, h3⟩ := ord_ok (a := a) hn k (by omega)
    have h4 := per_le (f := a) (show k < n by omega) k
    obtain ⟨-, g0, g1, -⟩ := lmu_tab (ord a n k) h2 (per a n k) (by omega) h1 (per_1 _ _ _) h3
    show lmu (ord a n k) (per a n k) % per a n j = 0
    by_cases c : j = k
    · rw [c]; exact g1
    · have h5 := ord_dvd hn k (by omega) j (by omega) (a := a)
      exact Nat.mod_eq_zero_of_dvd (Nat.dvd_trans (Nat.dvd_of_mod_eq_zero h5) (Nat.dvd_of_mod_eq_zero g0))
theorem it_ord {a : Nat → Nat} {n j : Nat} (hn : n ≤ 8) (h : Prm n a) (hj : j < n) (t : Nat) : it a (t % ord a n n) j = it a (t % per a n j) j := by
  rw [it_mod (per_it h hj) (t % ord a n n), Nat.mod_mod_of_dvd _ (Nat.dvd_of_mod_eq_zero (ord_dvd hn n (Nat.le_refl _) j hj))]
/-! the least of a ring, told by the whole ring -/
def isf (f : Nat → Nat) (j : Nat) : Nat → Nat
  | 0 => 1
  | k + 1 => isf f j k * (if j < it f (k + 1) j then 1 else 0)
theorem isf_le (f : Nat → Nat) (j : Nat) : ∀ k, isf f j k < 2
  | 0 => Nat.one_lt_two
  | k + 1 => by
    have := isf_le f j k
    show isf f j k * (if j < it f (k + 1) j then 1 else 0) < 2
    split <;> omega
theorem isf_1 {f : Nat → Nat} {j : Nat} : ∀ {k : Nat}, (∀ i, i < k → j < it f (i + 1) j) → isf f j k = 1
  | 0, _ => rfl
  | k + 1, h => by
    show isf f j k * (if j < it f (k + 1) j then 1 else 0) = 1
    rw [isf_1 (fun i hi => h i (by omega)), if_pos (h k (by omega))]
theorem isf_0 {f : Nat → Nat} {j i : Nat} (hi : it f (i + 1) j ≤ j) : ∀ {k : Nat}, i < k → isf f j k = 0
  | 0, h => absurd h (Nat.not_lt_zero _)
  | k + 1, h => by
    show isf f j k * (if j < it f (k + 1) j then 1 else 0) = 0
    by_cases c : i = k
    · subst c; rw [if_neg (by omega)]; rfl
    · rw [isf_0 hi (show i < k by omega), Nat.zero_mul]
theorem isf_lst {n : Nat} {a : Nat → Nat} (h : Prm n a) {j : Nat} (hj : j < n) : isf a j (per a n j - 1) = lst a n j := by
  have hp := per_it h hj
  have h1 := per_1 a n j
  have h2 := per_le (f := a) hj j
  obtain ⟨u1, u2, u3⟩ := fnd_spec (fun i => decide (it a (i + 1) j ≤ j)) n
  generalize hu : fnd (fun i => decide (it a (i + 1) j ≤ j)) n = u at u1 u2 u3
  have hl : lst a n j = if it a (u + 1) j = j then 1 else 0 := by unfold lst; rw [hu]
  have hle : u ≤ per a n j - 1 := by
    rcases Nat.lt_or_ge (per a n j - 1) u with c | c
    · have := u2 (per a n j - 1) c
      rw [Nat.sub_add_cancel h1, hp] at this
      simp at this
    · exact c
  rw [hl]
  by_cases c : u = per a n j - 1
  · rw [if_pos (by rw [c, Nat.sub_add_cancel h1]; exact hp)]
    exact isf_1 (fun i hi => by have := u2 i (by omega); simpa using this)
  · have h3 : it a (u + 1) j ≤ j := by simpa using u3 (by omega)
    rw [if_neg (per_min (by omega) (show u + 1 < per a n j by omega))]
    exact isf_0 h3 (by omega)
/-! a step's check, told the other way -/
def msp (k n : Nat) : Nat → Nat → Nat
  | 0, op => if op % 2 = 0 then 1 else 0
  | t + 1, op => if bitN k (n - (t + 1)) = 1 then (if op % 2 = 1 then 0 else msp k n t 0) else msp k n t (op + 1)
set_option maxRecDepth 100000 in
theorem msp_stp : ∀ n, n ≤ 8 → ∀ k, k < 2 ^ n → msp k n n 0 = stp k n n 0 := by decide +kernel
