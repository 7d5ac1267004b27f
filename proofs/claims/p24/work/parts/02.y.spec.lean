/-! WHAT THE METHODS COMPUTE, over natural numbers -/
theorem xinc1 (x : Nat) : nI x + Int32.ofInt 1 = nI (x + 1) := nI_1 x
theorem xinc2 (x : Nat) : nI x + Int32.ofInt 2 = nI (x + 2) := nI_add x 2
theorem xinc3 (x : Nat) : nI x + Int32.ofInt 3 = nI (x + 3) := nI_add x 3
def sm (g : Nat → Nat) : Nat → Nat
  | 0 => 0
  | k + 1 => sm g k + g k
theorem sm_succ (g : Nat → Nat) (k : Nat) : sm g (k + 1) = sm g k + g k := rfl
theorem sm_zero {g : Nat → Nat} : ∀ {k : Nat}, (∀ q, q < k → g q = 0) → sm g k = 0
  | 0, _ => rfl
  | k + 1, h => by rw [sm_succ, sm_zero (fun q hq => h q (Nat.lt_succ_of_lt hq)), h k (Nat.lt_succ_self k)]
theorem sm_congr {g g' : Nat → Nat} : ∀ {k : Nat}, (∀ q, q < k → g q = g' q) → sm g k = sm g' k
  | 0, _ => rfl
  | k + 1, h => by rw [sm_succ, sm_succ, sm_congr (fun q hq => h q (Nat.lt_succ_of_lt hq)), h k (Nat.lt_succ_self k)]
theorem sm_le {g : Nat → Nat} {b : Nat} : ∀ {k : Nat}, (∀ q, q < k → g q ≤ b) → sm g k ≤ k * b
  | 0, _ => by simp [sm]
  | k + 1, h => by
    have h1 := sm_le (k := k) (fun q hq => h q (Nat.lt_succ_of_lt hq))
    have h2 := h k (Nat.lt_succ_self k)
    rw [sm_succ, Nat.add_mul]
    omega
/-- the least number below n that has P, else n -/
def fnd (P : Nat → Bool) : Nat → Nat
  | 0 => 0
  | k + 1 => if fnd P k < k then fnd P k else if P k then k else k + 1
theorem fnd_spec (P : Nat → Bool) : ∀ n, fnd P n ≤ n ∧ (∀ i, i < fnd P n → P i = false) ∧ (fnd P n < n → P (fnd P n) = true)
  | 0 => ⟨Nat.le_refl _, fun i h => absurd h (Nat.not_lt_zero _), fun h => absurd h (Nat.lt_irrefl _)⟩
  | k + 1 => by
    obtain ⟨h1, h2, h3⟩ := fnd_spec P k
    unfold fnd
    by_cases h : fnd P k < k
    · rw [if_pos h]
      exact ⟨by omega, h2, fun _ => h3 h⟩
    · rw [if_neg h]
      have hk : fnd P k = k := by omega
      rw [hk] at h2
      by_cases hp : P k = true
      · rw [if_pos hp]
        exact ⟨by omega, h2, fun _ => hp⟩
      · rw [if_neg hp]
        refine ⟨by omega, fun i hi => ?_, fun h => absurd h (Nat.lt_irrefl _)⟩
        by_cases hik : i = k
        · subst hik
          simpa using hp
        · exact h2 i (by omega)
theorem fnd_eq {P : Nat → Bool} {n k : Nat} (h1 : k ≤ n) (h2 : ∀ i, i < k → P i = false) (h3 : k < n → P k = true) : fnd P n = k := by
  obtain ⟨g1, g2, g3⟩ := fnd_spec P n
  rcases Nat.lt_trichotomy (fnd P n) k with h | h | h
  · have a := g3 (by omega)
    rw [h2 _ h] at a
    cases a
  · exact h
  · have a := g2 k h
    rw [h3 (by omega)] at a
    cases a
def it (f : Nat → Nat) : Nat → Nat → Nat
  | 0, x => x
  | k + 1, x => f (it f k x)
theorem it_lt {f : Nat → Nat} (hf : ∀ i, f i < 8) {j : Nat} (hj : j < 8) : ∀ k, it f k j < 8
  | 0 => hj
  | _ + 1 => hf _
def lsf (f : Nat → Nat) (j q : Nat) : Nat := if j < q ∧ f q < f j then 1 else 0
def lss (f : Nat → Nat) (n j : Nat) : Nat := sm (lsf f j) n
def hrk (f : Nat → Nat) (n : Nat) : Nat → Nat
  | 0 => 0
  | k + 1 => hrk f n k * (n - k) + lss f n k
def ivs (f : Nat → Nat) (n : Nat) : Nat := sm (lss f n) n
theorem lsf0 {f : Nat → Nat} {j q : Nat} (h : f j ≤ f q) : lsf f j q = 0 := by
  unfold lsf; rw [if_neg (by omega)]
theorem lsf1 {f : Nat → Nat} {j q : Nat} (h0 : j < q) (h : f q < f j) : lsf f j q = 1 := by
  unfold lsf; rw [if_pos ⟨h0, h⟩]
theorem lsf_le {f : Nat → Nat} {j q : Nat} (h : q ≤ j) : lsf f j q = 0 := by
  unfold lsf; rw [if_neg (by omega)]
/-- a bell put ahead -/
def insA (f : Nat → Nat) (n j v : Nat) : Nat → Nat := fun i => if i = j then v else if j < i ∧ i < n ∧ v ≤ f i then f i + 1 else f i
theorem insA_0 (f : Nat → Nat) (j v : Nat) : va_up f j v = insA f (j + 1) j v := by
  funext i
  unfold insA va_up
  by_cases h : i = j
  · rw [if_pos h, if_pos h]
  · rw [if_neg h, if_neg h, if_neg (by omega)]
theorem insA_at {f : Nat → Nat} {i j v : Nat} (h : j < i) : insA f i j v i = f i := by
  unfold insA
  rw [if_neg (by omega), if_neg (by omega)]
theorem insA_hi {f : Nat → Nat} {i j v : Nat} (h : j < i) (h2 : v ≤ f i) : va_up (insA f i j v) i (f i + 1) = insA f (i + 1) j v := by
  funext q
  unfold insA va_up
  by_cases hq : q = i
  · subst hq
    rw [if_pos rfl, if_neg (by omega), if_pos ⟨h, by omega, h2⟩]
  · rw [if_neg hq]
    dsimp only
    by_cases hj : q = j
    · rw [if_pos hj, if_pos hj]
    · rw [if_neg hj, if_neg hj]
      by_cases h3 : j < q ∧ q < i ∧ v ≤ f q
      · rw [if_pos h3, if_pos ⟨h3.1, by omega, h3.2.2⟩]
      · rw [if_neg h3, if_neg (fun z => h3 ⟨z.1, by omega, z.2.2⟩)]
theorem insA_lo {f : Nat → Nat} {i j v : Nat} (h2 : f i < v) : insA f i j v = insA f (i + 1) j v := by
  funext q
  unfold insA
  by_cases hj : q = j
  · rw [if_pos hj, if_pos hj]
  · rw [if_neg hj, if_neg hj]
    by_cases h3 : j < q ∧ q < i ∧ v ≤ f q
    · rw [if_pos h3, if_pos ⟨h3.1, by omega, h3.2.2⟩]
    · rw [if_neg h3, if_neg (fun z => h3 ⟨z.1, by
        by_cases hq : q = i
        · subst hq; omega
        · omega, z.2.2⟩)]
theorem insA_bd {f : Nat → Nat} {n j v b : Nat} (hf : ∀ i, f i < b) (hv : v < b) (i : Nat) : insA f n j v i < b + 1 := by
  have := hf i
  unfold insA
  split
  · omega
  · split <;> omega
/-- the row of a rank, from its last place on -/
def srR (rk : Nat) : Nat → Nat
  | 0 => rk
  | t + 1 => srR rk t / (t + 1)
def srG (f : Nat → Nat) (n rk : Nat) : Nat → (Nat → Nat)
  | 0 => f
  | t + 1 => insA (srG f n rk t) n (n - (t + 1)) (srR rk t % (t + 1))
theorem srR_le (rk : Nat) : ∀ t, srR rk t ≤ rk
  | 0 => Nat.le_refl _
  | t + 1 => Nat.le_trans (Nat.div_le_self _ _) (srR_le rk t)
theorem srG_bd {f : Nat → Nat} {n rk b : Nat} (hf : ∀ i, f i < b) (hb : 8 ≤ b) : ∀ t, t ≤ 8 → ∀ i, srG f n rk t i < b + t
  | 0, _, i => hf i
  | t + 1, ht, i => by
    have h1 := srG_bd hf hb t (by omega) (n := n) (rk := rk)
    have h2 : srR rk t % (t + 1) < t + 1 := Nat.mod_lt _ (by omega)
    exact insA_bd (b := b + t) h1 (by omega) i
def cpy (f g : Nat → Nat) (t : Nat) : Nat → Nat := fun i => if i < t then g i else f i
theorem cpy_0 (f g : Nat → Nat) : cpy f g 0 = f := by
  funext i; unfold cpy; rw [if_neg (Nat.not_lt_zero _)]
theorem cpy_s (f g : Nat → Nat) (t : Nat) : va_up (cpy f g t) t (g t) = cpy f g (t + 1) := by
  funext i
  unfold cpy va_up
  by_cases h : i = t
  · subst h; rw [if_pos rfl, if_pos (Nat.lt_succ_self _)]
  · rw [if_neg h]
    dsimp only
    by_cases h2 : i < t
    · rw [if_pos h2, if_pos (by omega)]
    · rw [if_neg h2, if_neg (by omega)]
def bck (f g : Nat → Nat) : Nat → (Nat → Nat)
  | 0 => f
  | t + 1 => va_up (bck f g t) (g t) t
def xch (f : Nat → Nat) (j : Nat) : Nat → Nat := va_up (va_up f j (f (j + 1))) (j + 1) (f j)
def bitN (k i : Nat) : Nat := k / 2 ^ i % 2
/-- a step rung: by a bound on its rounds -/
def rst (k n : Nat) : Nat → Nat → (Nat → Nat) → (Nat → Nat)
  | 0, _, f => f
  | u + 1, i, f => if i + 1 < n then (if bitN k i = 1 then rst k n u (i + 1) f else rst k n u (i + 2) (xch f i)) else f
theorem rst_end {k n u i : Nat} {f : Nat → Nat} (h : n ≤ i + 1) : rst k n u i f = f := by
  cases u with
  | zero => rfl
  | succ u => show (if i + 1 < n then _ else f) = f; rw [if_neg (by omega)]
theorem rst_k {k n u i : Nat} {f : Nat → Nat} (h : i + 1 < n) (hb : bitN k i = 1) : rst k n (u + 1) i f = rst k n u (i + 1) f := by
  show (if i + 1 < n then (if bitN k i = 1 then _ else _) else f) = _
  rw [if_pos h, if_pos hb]
theorem rst_x {k n u i : Nat} {f : Nat → Nat} (h : i + 1 < n) (hb : bitN k i = 0) : rst k n (u + 1) i f = rst k n u (i + 2) (xch f i) := by
  show (if i + 1 < n then (if bitN k i = 1 then _ else _) else f) = _
  rw [if_pos h, if_neg (by omega)]
/-- how many places are in a place's ring -/
def per (f : Nat → Nat) (n j : Nat) : Nat := fnd (fun i => it f (i + 1) j == j) (n - 1) + 1
/-- 1, if a place is the least one of its ring -/
def lst (f : Nat → Nat) (n j : Nat) : Nat := if it f (fnd (fun i => decide (it f (i + 1) j ≤ j)) n + 1) j = j then 1 else 0
def mxr (f : Nat → Nat) (n : Nat) : Nat → Nat
  | 0 => 0
  | k + 1 => max (mxr f n k) (per f n k)
def lmu (a b : Nat) : Nat := a * (fnd (fun i => a * (i + 1) % b == 0) (b - 1) + 1)
def ord (f : Nat → Nat) (n : Nat) : Nat → Nat
  | 0 => 1
  | k + 1 => lmu (ord f n k) (per f n k)
def own (f : Nat → Nat) (j : Nat) : Nat := if f j = j then 1 else 0
def pos (f : Nat → Nat) (n v : Nat) : Nat := fnd (fun i => f i == v) n
/-- isStep(): by a bound on its rounds -/
def stp (k n : Nat) : Nat → Nat → Nat
  | 0, _ => 1
  | u + 1, i => if i < n then (if bitN k i = 1 then stp k n u (i + 1) else if i + 1 < n ∧ bitN k (i + 1) = 0 then stp k n u (i + 2) else 0) else 1
theorem bitN_lt (k i : Nat) : bitN k i < 2 := Nat.mod_lt _ (by decide)
/-- the cells of a change: the object and its row -/
def xCh (D : va_G) (cI : ClassId) (o r n : Nat) (f : Nat → Nat) (H : Heap) : Prop := va_at D vwCl (o, .inr (0, [.ref r, .int (nI n)])) H ∧ va_at D vwCl (r, .inl (cI, 8, .inl (xA f))) H
theorem xat_keep {D : va_G} {q : Nat × va_E} {H H1 : Heap} {A : Nat → Prop} (h : va_at D vwCl q H) (hk : ∀ x : Nat, x < H.size → ¬ A x → H1[x]? = H[x]?) (h1 : ¬ A q.1) : va_at D vwCl q H1 := h.kept (hk q.1 h.lt h1)
theorem xCh_keep {D : va_G} {cI : ClassId} {o r n : Nat} {f : Nat → Nat} {H H1 : Heap} {A : Nat → Prop} (h : xCh D cI o r n f H) (hk : ∀ x : Nat, x < H.size → ¬ A x → H1[x]? = H[x]?) (h1 : ¬ A o) (h2 : ¬ A r) : xCh D cI o r n f H1 := ⟨xat_keep h.1 hk h1, xat_keep h.2 hk h2⟩
abbrev xRm (k mc ms : Nat) : Room := { frames := k, cells := mc, slots := ms, locals := 40 * k }
