/-! RINGS, INVERSIONS AND PARITY -/
theorem lst_iff {f : Nat → Nat} {n j : Nat} (h : Prm n f) (hj : j < n) : lst f n j = 1 ↔ ∀ k, j ≤ it f k j := by
  obtain ⟨k0, k1, k2, k3⟩ := it_back h hj
  obtain ⟨g1, g2, g3⟩ := fnd_spec (fun i => decide (it f (i + 1) j ≤ j)) n
  unfold lst
  generalize fnd (fun i => decide (it f (i + 1) j ≤ j)) n = t at g1 g2 g3 ⊢
  have ht : t < n := by
    rcases Nat.lt_or_ge t n with c | c
    · exact c
    · have := g2 (k0 - 1) (by omega)
      rw [Nat.sub_add_cancel k1, k3] at this
      simp at this
  have g4 : it f (t + 1) j ≤ j := by simpa using g3 ht
  have g5 : ∀ i, i < t → j < it f (i + 1) j := fun i hi => by
    have := g2 i hi
    simp at this
    omega
  constructor
  · intro e k
    have e1 : it f (t + 1) j = j := by
      by_cases c : it f (t + 1) j = j
      · exact c
      · rw [if_neg c] at e; exact absurd e (by decide)
    rw [it_mod e1 k]
    have hlt : k % (t + 1) < t + 1 := Nat.mod_lt _ (Nat.succ_pos t)
    rcases Nat.eq_zero_or_pos (k % (t + 1)) with c | c
    · rw [c]; exact Nat.le_refl j
    · have := g5 (k % (t + 1) - 1) (by omega)
      rw [Nat.sub_add_cancel c] at this
      omega
  · intro hk
    rw [if_pos (Nat.le_antisymm g4 (hk (t + 1)))]
theorem lst_same {f g : Nat → Nat} {n N j : Nat} (hf : Prm n f) (hg : Prm N g) (h1 : j < n) (h2 : j < N) (h : (∀ k, j ≤ it f k j) ↔ ∀ k, j ≤ it g k j) : lst f n j = lst g N j := by
  have a := lst_iff hf h1
  have b := lst_iff hg h2
  have c1 := lst_le f n j
  have c2 := lst_le g N j
  by_cases c : lst f n j = 1
  · rw [c, b.mpr (h.mp (a.mp c))]
  · have d : ¬ lst g N j = 1 := fun z => c (a.mpr (h.mpr (b.mp z)))
    omega
/-- the last place taken out of its ring -/
def shc (f : Nat → Nat) (N : Nat) : Nat → Nat := fun i => if f i = N then f N else f i
theorem shc_pos {f : Nat → Nat} {N i : Nat} (h : f i = N) : shc f N i = f N := if_pos h
theorem shc_neg {f : Nat → Nat} {N i : Nat} (h : ¬ f i = N) : shc f N i = f i := if_neg h
theorem Prm.last {f : Nat → Nat} {N : Nat} (h : Prm (N + 1) f) (e : f N = N) : Prm N f := by
  obtain ⟨h1, h2, h3⟩ := h
  refine ⟨fun i hi => ?_, fun i j hi hj z => h2 i j (by omega) (by omega) z, fun v hv => ?_⟩
  · have a := h1 i (by omega)
    have b : f i ≠ N := fun z => by
      have := h2 i N (by omega) (by omega) (z.trans e.symm)
      omega
    omega
  · obtain ⟨i, hi, z⟩ := h3 v (by omega)
    have b : i ≠ N := fun y => by rw [y, e] at z; omega
    exact ⟨i, by omega, z⟩
theorem Prm.shc {f : Nat → Nat} {N : Nat} (h : Prm (N + 1) f) (e : f N ≠ N) : Prm N (shc f N) := by
  obtain ⟨h1, h2, h3⟩ := h
  have hN := h1 N (by omega)
  refine ⟨fun i hi => ?_, fun i j hi hj z => ?_, fun v hv => ?_⟩
  · have a := h1 i (by omega)
    by_cases c : f i = N
    · rw [shc_pos c]; omega
    · rw [shc_neg c]; omega
  · by_cases c : f i = N <;> by_cases d : f j = N
    · exact h2 i j (by omega) (by omega) (c.trans d.symm)
    · rw [shc_pos c, shc_neg d] at z
      have := h2 N j (by omega) (by omega) z
      omega
    · rw [shc_neg c, shc_pos d] at z
      have := h2 i N (by omega) (by omega) z
      omega
    · rw [shc_neg c, shc_neg d] at z
      exact h2 i j (by omega) (by omega) z
  · obtain ⟨i, hi, z⟩ := h3 v (by omega)
    by_cases c : i = N
    · obtain ⟨i0, hi0, z0⟩ := h3 N (by omega)
      have : i0 ≠ N := fun y => e (by rw [y] at z0; exact z0)
      exact ⟨i0, by omega, by rw [shc_pos z0, ← c]; exact z⟩
    · exact ⟨i, by omega, by rw [shc_neg (by omega)]; exact z⟩
theorem shc_it1 (f : Nat → Nat) (N j : Nat) : ∀ k, ∃ k2, it (shc f N) k j = it f k2 j
  | 0 => ⟨0, rfl⟩
  | k + 1 => by
    obtain ⟨k2, e⟩ := shc_it1 f N j k
    by_cases c : f (it f k2 j) = N
    · refine ⟨k2 + 2, ?_⟩
      show shc f N (it (shc f N) k j) = f (f (it f k2 j))
      rw [e, shc_pos c, c]
    · refine ⟨k2 + 1, ?_⟩
      show shc f N (it (shc f N) k j) = f (it f k2 j)
      rw [e, shc_neg c]
theorem shc_it2 (f : Nat → Nat) (N j : Nat) : ∀ k, (∃ k2, it f k j = it (shc f N) k2 j) ∨ (it f k j = N ∧ ∃ k2, f (it (shc f N) k2 j) = N)
  | 0 => Or.inl ⟨0, rfl⟩
  | k + 1 => by
    rcases shc_it2 f N j k with ⟨k2, e⟩ | ⟨e, k2, e2⟩
    · by_cases c : f (it f k j) = N
      · exact Or.inr ⟨c, k2, by rw [← e]; exact c⟩
      · refine Or.inl ⟨k2 + 1, ?_⟩
        show f (it f k j) = shc f N (it (shc f N) k2 j)
        rw [← e, shc_neg c]
    · refine Or.inl ⟨k2 + 1, ?_⟩
      show f (it f k j) = shc f N (it (shc f N) k2 j)
      rw [shc_pos e2, e]
theorem lst_shc {f : Nat → Nat} {N j : Nat} (h : Prm (N + 1) f) (e : f N ≠ N) (hj : j < N) : lst f (N + 1) j = lst (shc f N) N j := by
  refine lst_same h (h.shc e) (by omega) hj ⟨fun z k => ?_, fun z k => ?_⟩
  · obtain ⟨k2, y⟩ := shc_it1 f N j k
    rw [y]; exact z k2
  · rcases shc_it2 f N j k with ⟨k2, y⟩ | ⟨y, -⟩
    · rw [y]; exact z k2
    · rw [y]; exact Nat.le_of_lt hj
theorem it_fix {f : Nat → Nat} {j : Nat} (e : f j = j) : ∀ k, it f k j = j
  | 0 => rfl
  | k + 1 => by show f (it f k j) = j; rw [it_fix e k, e]
theorem ivs_last (f : Nat → Nat) (N : Nat) : ivs f (N + 1) = ivs f N + sm (fun j => lsf f j N) N := by
  have h0 : lss f (N + 1) N = 0 := sm_zero (fun q hq => lsf_le (by omega))
  show sm (lss f (N + 1)) N + lss f (N + 1) N = _
  rw [h0, Nat.add_zero]
  exact (sm_congr (fun j _ => show lss f (N + 1) j = lss f N j + lsf f j N from rfl)).trans (sm_plus _ _ N)
theorem ivs_shc {f : Nat → Nat} {N : Nat} (h : Prm (N + 1) f) (e : f N ≠ N) : ∃ B, ivs f (N + 1) = ivs (shc f N) N + 2 * B + 1 := by
  obtain ⟨h1, h2, h3⟩ := id h
  obtain ⟨i0, hi0, z0⟩ := h3 N (by omega)
  have hi : i0 ≠ N := fun y => e (by rw [y] at z0; exact z0)
  have hi : i0 < N := by omega
  have hv : f N < N := by have := h1 N (by omega); omega
  have hne : ∀ q, q < N → q ≠ i0 → f q < N ∧ shc f N q = f q := fun q hq hn => by
    have a := h1 q (by omega)
    have b : f q ≠ N := fun z => hn (h2 q i0 (by omega) (by omega) (z.trans z0.symm))
    exact ⟨by omega, shc_neg b⟩
  have hgi : shc f N i0 = f N := shc_pos z0
  have hfv : ∀ q, q < N → f q ≠ f N := fun q hq z => by
    have := h2 q N (by omega) (by omega) z
    omega
  let E : Nat → Nat := fun q => if f N < f q then 1 else 0
  let B := sm (fun q => if i0 < q then E q else 0) N
  refine ⟨B, ?_⟩
  have hE : sm (fun j => lsf f j N) N = sm E N := sm_congr (fun j hj => by
    show (if j < N ∧ f N < f j then 1 else 0) = if f N < f j then 1 else 0
    by_cases c : f N < f j
    · rw [if_pos c, if_pos ⟨hj, c⟩]
    · rw [if_neg c, if_neg (fun z => c z.2)])
  have hrow : ∀ j, j < N → lss f N j + E j = lss (shc f N) N j + ((if i0 < j then E j else 0) + (if j = i0 then B + 1 else 0)) := by
    intro j hj
    by_cases c : j = i0
    · subst c
      have e1 : lss f N j = lss (shc f N) N j + B := by
        refine Eq.trans ?_ (sm_plus _ _ N)
        refine sm_congr (fun q hq => ?_)
        show (if j < q ∧ f q < f j then 1 else 0) = (if j < q ∧ shc f N q < shc f N j then 1 else 0) + (if j < q then E q else 0)
        by_cases d : j < q
        · obtain ⟨a1, a2⟩ := hne q hq (by omega)
          have a3 := hfv q hq
          rw [if_pos (show j < q ∧ f q < f j from ⟨d, by rw [z0]; exact a1⟩), if_pos d, a2, hgi]
          show 1 = (if j < q ∧ f q < f N then 1 else 0) + (if f N < f q then 1 else 0)
          by_cases b : f N < f q
          · rw [if_pos b, if_neg (fun z => absurd z.2 (by omega))]
          · rw [if_neg b, if_pos ⟨d, by omega⟩]
        · rw [if_neg (fun z => d z.1), if_neg (fun z => d z.1), if_neg d]
      have e2 : E j = 1 := if_pos (by rw [z0]; exact hv)
      rw [e1, e2, if_neg (Nat.lt_irrefl _), if_pos rfl]; omega
    · obtain ⟨a1, a2⟩ := hne j hj c
      rw [if_neg c, Nat.add_zero]
      by_cases d : i0 < j
      · rw [if_pos d]
        have : lss f N j = lss (shc f N) N j := sm_congr (fun q hq => by
          unfold lsf
          by_cases b : j < q
          · rw [(hne q hq (by omega)).2, a2]
          · rw [if_neg (fun z => b z.1), if_neg (fun z => b z.1)])
        rw [this]
      · rw [if_neg d, Nat.add_zero]
        have : lss (shc f N) N j = lss f N j + sm (fun q => if q = i0 then E j else 0) N := by
          refine Eq.trans ?_ (sm_plus _ _ N)
          refine sm_congr (fun q hq => ?_)
          show (if j < q ∧ shc f N q < shc f N j then 1 else 0) = (if j < q ∧ f q < f j then 1 else 0) + (if q = i0 then E j else 0)
          by_cases b : q = i0
          · subst b
            have y1 : (if j < q ∧ f q < f j then 1 else 0 : Nat) = 0 := if_neg (fun z => absurd z.2 (by rw [z0]; omega))
            rw [y1, hgi, a2, Nat.zero_add, if_pos (rfl : q = q)]
            show _ = if f N < f j then 1 else 0
            by_cases y : f N < f j
            · rw [if_pos y, if_pos ⟨by omega, y⟩]
            · rw [if_neg y, if_neg (fun z => y z.2)]
          · rw [if_neg b, Nat.add_zero, (hne q hq b).2, a2]
        rw [this, sm_one hi (fun q _ hn => if_neg hn)]
        show _ = lss f N j + (if i0 = i0 then E j else 0)
        rw [if_pos rfl]
  have hs : sm (fun j => lss f N j + E j) N = sm (fun j => lss (shc f N) N j + ((if i0 < j then E j else 0) + (if j = i0 then B + 1 else 0))) N := sm_congr hrow
  rw [sm_plus, sm_plus, sm_plus] at hs
  have hl : sm (fun j => if j = i0 then B + 1 else 0) N = B + 1 := by
    rw [sm_one hi (fun q _ hn => if_neg hn)]
    exact if_pos rfl
  rw [hl] at hs
  rw [ivs_last, hE]
  have hs : ivs f N + sm E N = ivs (shc f N) N + (B + (B + 1)) := hs
  omega
theorem par_rings : ∀ (n : Nat) (f : Nat → Nat), Prm n f → sm (lst f n) n ≤ n ∧ (n - sm (lst f n) n) % 2 = ivs f n % 2
  | 0, _, _ => ⟨Nat.le_refl _, rfl⟩
  | N + 1, f, h => by
    by_cases c : f N = N
    · obtain ⟨a, b⟩ := par_rings N f (h.last c)
      have e1 : lst f (N + 1) N = 1 := (lst_iff h (by omega)).mpr (fun k => by rw [it_fix c k]; exact Nat.le_refl _)
      have e2 : sm (lst f (N + 1)) (N + 1) = sm (lst f N) N + 1 := by
        rw [sm_succ, e1, sm_congr (fun j hj => lst_same h (h.last c) (by omega) hj Iff.rfl)]
      have e3 : ivs f (N + 1) = ivs f N := by
        rw [ivs_last, sm_zero (fun j hj => lsf0 (by have := (h.last c).1 j hj; omega)), Nat.add_zero]
      rw [e2, e3]
      omega
    · obtain ⟨a, b⟩ := par_rings N (shc f N) (h.shc c)
      obtain ⟨B, e3⟩ := ivs_shc h c
      have e1 : lst f (N + 1) N = 0 := by
        have a := lst_le f (N + 1) N
        have b : ¬ lst f (N + 1) N = 1 := fun z => by
          have y : N ≤ f N := (lst_iff h (by omega)).mp z 1
          have := h.1 N (by omega)
          omega
        omega
      have e2 : sm (lst f (N + 1)) (N + 1) = sm (lst (shc f N) N) N := by
        rw [sm_succ, e1, Nat.add_zero, sm_congr (fun j hj => lst_shc h c hj)]
      rw [e2, e3]
      omega
/-! a swap changes the parity -/
abbrev trn (i : Nat) : Nat → Nat := fun x => if x = i + 1 then i else if x = i then i + 1 else x
theorem sm_re {n : Nat} {a : Nat → Nat} (h : Prm n a) (F : Nat → Nat) : sm F n = sm (fun q => F (a q)) n := by
  rw [sm_prm h F n (Nat.le_refl _)]
  exact sm_congr (fun q hq => if_pos (h.1 q hq))
def swG (f : Nat → Nat) (i : Nat) (a b : Nat) : Nat := if (a < b ∧ ¬ (a = i ∧ b = i + 1)) ∧ f b < f a then 1 else 0
theorem trn_cond (i a b : Nat) : (a < b ∧ ¬ (a = i ∧ b = i + 1)) ↔ (trn i a < trn i b ∧ ¬ (trn i a = i ∧ trn i b = i + 1)) := by
  have h : ∀ x, (x = i + 1 ∧ trn i x = i) ∨ (x = i ∧ trn i x = i + 1) ∨ (x ≠ i + 1 ∧ x ≠ i ∧ trn i x = x) := fun x => by
    by_cases c : x = i + 1
    · exact Or.inl ⟨c, if_pos c⟩
    · by_cases d : x = i
      · exact Or.inr (Or.inl ⟨d, (if_neg c).trans (if_pos d)⟩)
      · exact Or.inr (Or.inr ⟨c, d, (if_neg c).trans (if_neg d)⟩)
  have ha := h a
  have hb := h b
  generalize trn i a = A at ha ⊢
  generalize trn i b = B at hb ⊢
  constructor <;> intro z <;> omega
theorem swG_re (f : Nat → Nat) (i a b : Nat) : swG (xch f i) i a b = swG f i (trn i a) (trn i b) := by
  unfold swG
  rw [xch_as, xch_as]
  have := trn_cond i a b
  by_cases c : a < b ∧ ¬ (a = i ∧ b = i + 1)
  · have d := this.mp c
    by_cases y : f (trn i b) < f (trn i a)
    · rw [if_pos ⟨c, y⟩, if_pos ⟨d, y⟩]
    · rw [if_neg (fun z => y z.2), if_neg (fun z => y z.2)]
  · have d : ¬ (trn i a < trn i b ∧ ¬ (trn i a = i ∧ trn i b = i + 1)) := fun z => c (this.mpr z)
    rw [if_neg (fun z => c z.1), if_neg (fun z => d z.1)]
theorem ivs_swG {f : Nat → Nat} {n i : Nat} (hi : i + 1 < n) : ivs f n = sm (fun j => sm (swG f i j) n) n + lsf f i (i + 1) := by
  have hrow : ∀ j, j < n → lss f n j = sm (swG f i j) n + (if j = i then lsf f i (i + 1) else 0) := fun j hj => by
    have e : sm (fun q => if q = i + 1 then (if j = i then lsf f i (i + 1) else 0) else 0) n = if j = i then lsf f i (i + 1) else 0 := by
      rw [sm_one hi (fun q _ hn => if_neg hn)]
      exact if_pos rfl
    rw [← e, ← sm_plus]
    refine sm_congr (fun q hq => ?_)
    show (if j < q ∧ f q < f j then 1 else 0) = (if (j < q ∧ ¬ (j = i ∧ q = i + 1)) ∧ f q < f j then 1 else 0) + (if q = i + 1 then (if j = i then lsf f i (i + 1) else 0) else 0)
    by_cases c : j = i ∧ q = i + 1
    · obtain ⟨c1, c2⟩ := c
      subst c1
      have y1 : (if (j < q ∧ ¬ (j = j ∧ q = j + 1)) ∧ f q < f j then 1 else 0 : Nat) = 0 := if_neg (fun z => z.1.2 ⟨rfl, c2⟩)
      rw [y1, if_pos c2, if_pos (rfl : j = j), Nat.zero_add, c2]
      rfl
    · have z0 : (if q = i + 1 then (if j = i then lsf f i (i + 1) else 0) else 0) = 0 := by
        by_cases d : q = i + 1
        · rw [if_pos d, if_neg (fun y => c ⟨y, d⟩)]
        · rw [if_neg d]
      rw [z0, Nat.add_zero]
      by_cases d : j < q ∧ f q < f j
      · rw [if_pos d, if_pos ⟨⟨d.1, c⟩, d.2⟩]
      · rw [if_neg d, if_neg (fun y => d ⟨y.1.1, y.2⟩)]
  have e : sm (fun j => if j = i then lsf f i (i + 1) else 0) n = lsf f i (i + 1) := by
    rw [sm_one (show i < n by omega) (fun q _ hn => if_neg hn)]
    exact if_pos rfl
  rw [← e, ← sm_plus]
  exact sm_congr hrow
theorem ivs_xch {f : Nat → Nat} {n i : Nat} (h : Prm n f) (hi : i + 1 < n) : ivs (xch f i) n % 2 ≠ ivs f n % 2 := by
  have e1 : sm (fun j => sm (swG (xch f i) i j) n) n = sm (fun j => sm (swG f i j) n) n := by
    rw [sm_re (Prm.tr hi) (fun j => sm (swG f i j) n)]
    refine sm_congr (fun j _ => ?_)
    rw [sm_re (Prm.tr hi) (swG f i _)]
    exact sm_congr (fun q _ => swG_re f i j q)
  rw [ivs_swG hi, ivs_swG (f := f) hi, e1]
  have a1 : xch f i i = f (i + 1) := by rw [xch_at, if_neg (by omega), if_pos rfl]
  have a2 : xch f i (i + 1) = f i := by rw [xch_at, if_pos rfl]
  have hn : f i ≠ f (i + 1) := fun z => by
    have := h.2.1 i (i + 1) (by omega) hi z
    omega
  generalize sm (fun j => sm (swG f i j) n) n = R
  rcases Nat.lt_or_gt_of_ne hn with c | c
  · rw [lsf1 (f := xch f i) (Nat.lt_succ_self i) (by rw [a1, a2]; exact c), lsf0 (f := f) (Nat.le_of_lt c)]
    omega
  · rw [lsf0 (f := xch f i) (by rw [a1, a2]; exact Nat.le_of_lt c), lsf1 (f := f) (Nat.lt_succ_self i) c]
    omega
theorem hrk_xch {f : Nat → Nat} {n i : Nat} (h : Prm n f) (hi : i + 1 < n) : hrk (xch f i) n n ≠ hrk f n n := fun e => by
  have := ivs_congr (hrk_inj (h.xch hi) h e)
  exact ivs_xch h hi (by rw [this])
/-! what turns back -/
theorem it_back2 {f g : Nat → Nat} {n : Nat} (hg : Prm n g) (e : ∀ i, i < n → f (g i) = i) {j : Nat} (hj : j < n) : ∀ k, it f k (it g k j) = j
  | 0 => rfl
  | k + 1 => by
    show it f (k + 1) (g (it g k j)) = j
    rw [it_add f k 1]
    show it f k (f (g (it g k j))) = j
    rw [e _ (it_ltn hg hj k)]
    exact it_back2 hg e hj k
theorem it_back_iff {f g : Nat → Nat} {n : Nat} (hf : Prm n f) (hg : Prm n g) (e : ∀ i, i < n → f (g i) = i) {j : Nat} (hj : j < n) (k : Nat) : it g k j = j ↔ it f k j = j := by
  have h := it_back2 hg e hj k
  constructor
  · intro z; rw [z] at h; exact h
  · intro z; exact it_inj hf (it_ltn hg hj k) hj k (h.trans z.symm)
theorem per_back {f g : Nat → Nat} {n : Nat} (hf : Prm n f) (hg : Prm n g) (e : ∀ i, i < n → f (g i) = i) {j : Nat} (hj : j < n) : per g n j = per f n j := by
  have : (fun i => it g (i + 1) j == j) = (fun i => it f (i + 1) j == j) := by
    funext i
    have := it_back_iff hf hg e hj (i + 1)
    by_cases c : it f (i + 1) j = j
    · rw [eq_b c, eq_b (this.mpr c)]
    · rw [neq_b c, neq_b (fun z => c (this.mp z))]
  unfold per
  rw [this]
theorem ord_per {f g : Nat → Nat} {n : Nat} (e : ∀ j, j < n → per g n j = per f n j) : ∀ k, k ≤ n → ord g n k = ord f n k
  | 0, _ => rfl
  | k + 1, hk => by
    show lmu (ord g n k) (per g n k) = lmu (ord f n k) (per f n k)
    rw [ord_per e k (by omega), e k (by omega)]
theorem back_sym {f g : Nat → Nat} {n : Nat} (hf : Prm n f) (hg : Prm n g) (e : ∀ i, i < n → f (g i) = i) : ∀ i, i < n → g (f i) = i := fun i hi =>
  hf.2.1 _ _ (hg.1 _ (hf.1 i hi)) hi (e _ (hf.1 i hi))
theorem least_back {f g : Nat → Nat} {n : Nat} (hf : Prm n f) (hg : Prm n g) (e : ∀ i, i < n → f (g i) = i) {j : Nat} (hj : j < n) (h : ∀ k, j ≤ it f k j) (k : Nat) : j ≤ it g k j := by
  have hd := per_it hf hj
  have h1 := per_1 f n j
  have e1 : it f k (it f (per f n j * k - k) j) = j := by
    have hle : k ≤ per f n j * k := Nat.le_mul_of_pos_left k h1
    rw [← it_add, show k + (per f n j * k - k) = per f n j * k by omega]
    exact it_mul hd k
  rw [it_inj hf (it_ltn hg hj k) (it_ltn hf hj _) k ((it_back2 hg e hj k).trans e1.symm)]
  exact h _
theorem ivs_back {f g : Nat → Nat} {n : Nat} (hf : Prm n f) (hg : Prm n g) (e : ∀ i, i < n → f (g i) = i) : ivs g n % 2 = ivs f n % 2 := by
  rw [← (par_rings n g hg).2, ← (par_rings n f hf).2]
  have : sm (lst g n) n = sm (lst f n) n := sm_congr (fun j hj => lst_same hg hf hj hj ⟨least_back hg hf (back_sym hf hg e) hj, least_back hf hg e hj⟩)
  rw [this]
/-! what is rung -/
theorem xch_cmp (f g : Nat → Nat) (i : Nat) : xch (fun x => f (g x)) i = fun x => f (xch g i x) := by
  funext x
  rw [xch_as, xch_as]
theorem rst_cmp {k n : Nat} (f : Nat → Nat) : ∀ (u i : Nat) (g : Nat → Nat), rst k n u i (fun x => f (g x)) = fun x => f (rst k n u i g x)
  | 0, _, _ => rfl
  | u + 1, i, g => by
    by_cases c : i + 1 < n
    · by_cases b : bitN k i = 1
      · rw [rst_k c b, rst_k c b]; exact rst_cmp f u _ g
      · have b0 : bitN k i = 0 := by have := bitN_lt k i; omega
        rw [rst_x c b0, rst_x c b0, xch_cmp]; exact rst_cmp f u _ _
    · rw [rst_end (by omega), rst_end (by omega)]
theorem rgs_cmp {kf : Nat → Nat} {st n : Nat} (f g : Nat → Nat) : ∀ k, rgs kf st n (fun x => f (g x)) k = fun x => f (rgs kf st n g k x)
  | 0 => rfl
  | k + 1 => by
    show rst (kf (k % st)) n n 0 (rgs kf st n (fun x => f (g x)) k) = fun x => f (rst (kf (k % st)) n n 0 (rgs kf st n g k) x)
    rw [rgs_cmp f g k, rst_cmp]
theorem rgs_shift {kf : Nat → Nat} {st n c : Nat} (g : Nat → Nat) (hc : c % st = 0) : ∀ k, rgs kf st n g (c + k) = rgs kf st n (rgs kf st n g c) k
  | 0 => rfl
  | k + 1 => by
    show rst (kf ((c + k) % st)) n n 0 (rgs kf st n g (c + k)) = rst (kf (k % st)) n n 0 (rgs kf st n (rgs kf st n g c) k)
    rw [rgs_shift g hc k, Nat.add_mod, hc, Nat.zero_add, Nat.mod_mod]
theorem df_back {kf : Nat → Nat} {st n c : Nat} {f : Nat → Nat} (h : Prm n f) (hc : c % st = 0) (e : hrk (rgs kf st n f c) n n = hrk f n n) (k : Nat) : hrk (rgs kf st n (fun i => i) (c + k)) n n = hrk (rgs kf st n (fun i => i) k) n n := by
  have h1 := hrk_inj (h.rgs c) h e
  have h2 : ∀ j, j < n → rgs kf st n (fun i => i) c j = j := fun j hj => by
    have := h1 j hj
    have e2 : rgs kf st n f c j = f (rgs kf st n (fun i => i) c j) := congrFun (rgs_cmp (kf := kf) (st := st) (n := n) f (fun i => i) c) j
    rw [e2] at this
    exact h.2.1 _ _ (((Prm.id n).rgs c).1 j hj) hj this
  rw [rgs_shift _ hc]
  exact hrk_congr (rgs_congr h2 k) n (Nat.le_refl _)
theorem df_le {g : Nat → Nat} {c : Nat} (h : ∀ k, g (c + k) = g k) (hc : 1 ≤ c) (m : Nat) : sm (nwf g) (c + m) ≤ c := by
  have e : sm (fun i => nwf g (c + i)) m = 0 := sm_zero (fun q _ => by
    show nwg g (c + q) (c + q) = 0
    exact nwg_0 (q := q) (h q).symm (by omega))
  rw [sm_add, e, Nat.add_zero]
  exact sm_nwf_le g c
theorem df_pos (g : Nat → Nat) (m : Nat) : 1 ≤ sm (nwf g) (1 + m) := by
  rw [sm_add]
  have : sm (nwf g) 1 = 1 := rfl
  omega
/-! rank and inversions -/
theorem hrk_zero {f : Nat → Nat} {n : Nat} : ∀ k, k ≤ n → (hrk f n k = 0 ↔ sm (lss f n) k = 0)
  | 0, _ => Iff.rfl
  | k + 1, hk => by
    have ih := hrk_zero (f := f) (n := n) k (by omega)
    show hrk f n k * (n - k) + lss f n k = 0 ↔ sm (lss f n) k + lss f n k = 0
    constructor
    · intro z
      have h1 : hrk f n k * (n - k) = 0 := by omega
      have h2 : hrk f n k = 0 := by
        rcases Nat.mul_eq_zero.mp h1 with y | y
        · exact y
        · omega
      have := ih.mp h2
      omega
    · intro z
      have := ih.mpr (by omega)
      rw [this]
      omega
/-! places -/
theorem own_per {f : Nat → Nat} {n j : Nat} (hn : 2 ≤ n) : (if per f n j = 1 then 1 else 0 : Nat) = own f j := by
  obtain ⟨h1, h2, h3⟩ := fnd_spec (fun i => it f (i + 1) j == j) (n - 1)
  unfold own per
  by_cases c : f j = j
  · have e : fnd (fun i => it f (i + 1) j == j) (n - 1) = 0 := fnd_eq (P := fun i => it f (i + 1) j == j) (Nat.zero_le _) (fun i hi => absurd hi (Nat.not_lt_zero _)) (fun _ => eq_b c)
    rw [if_pos c, e]
    rfl
  · rw [if_neg c]
    refine if_neg (fun z => ?_)
    have e : fnd (fun i => it f (i + 1) j == j) (n - 1) = 0 := by omega
    have := h3 (by omega)
    rw [e] at this
    have z1 : it f 1 j = j := by simpa using this
    exact c z1
theorem ap_self {f : Nat → Nat} {n : Nat} (h : Prm n f) : ivs (fun q => pos f n (f q)) n = 0 := by
  have e : ∀ i, i < n → pos f n (f i) = i := fun i hi => h.2.1 _ _ (pos_lt h (h.1 i hi)).1 hi (pos_lt h (h.1 i hi)).2
  rw [ivs_congr (b := fun i => i) e]
  exact sm_zero (fun j _ => sm_zero (fun q _ => by
    unfold lsf
    rw [if_neg (fun z => absurd z.1 (Nat.not_lt.mpr (Nat.le_of_lt (show q < j from z.2))))]))
/-- the bells seen, as bits -/
def orr (f : Nat → Nat) : Nat → Nat
  | 0 => 0
  | k + 1 => orr f k ||| 2 ^ f k
theorem orr_bit (f : Nat → Nat) (v : Nat) : ∀ k, (orr f k).testBit v = true ↔ ∃ q, q < k ∧ f q = v
  | 0 => by simp [orr]
  | k + 1 => by
    have ih := orr_bit f v k
    show (orr f k ||| 2 ^ f k).testBit v = true ↔ _
    rw [Nat.testBit_or, Nat.testBit_two_pow, Bool.or_eq_true, ih, decide_eq_true_eq]
    constructor
    · rintro (⟨q, h1, h2⟩ | h)
      · exact ⟨q, by omega, h2⟩
      · exact ⟨k, Nat.lt_succ_self k, h⟩
    · rintro ⟨q, h1, h2⟩
      by_cases c : q = k
      · exact Or.inr (by rw [← c]; exact h2)
      · exact Or.inl ⟨q, by omega, h2⟩
theorem orr_all {f : Nat → Nat} {n : Nat} (h : Prm n f) : orr f n = 2 ^ n - 1 := by
  refine Nat.eq_of_testBit_eq (fun v => ?_)
  rw [Nat.testBit_two_pow_sub_one]
  by_cases c : v < n
  · rw [decide_eq_true c]
    exact (orr_bit f v n).mpr (h.2.2 v c)
  · rw [decide_eq_false c]
    cases e : (orr f n).testBit v with
    | false => rfl
    | true =>
      obtain ⟨q, h1, h2⟩ := (orr_bit f v n).mp e
      have := h.1 q h1
      omega
theorem orr_lt {f : Nat → Nat} (h : ∀ i, f i < 8) : ∀ k, orr f k < 256
  | 0 => Nat.zero_lt_succ 255
  | k + 1 => Nat.or_lt_two_pow (n := 8) (orr_lt h k) (Nat.pow_lt_pow_right (by decide) (h k))
