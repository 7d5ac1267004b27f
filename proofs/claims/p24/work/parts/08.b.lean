/-! THE MODEL: differ, digest -/
theorem sm_nwf_le (g : Nat → Nat) : ∀ k, sm (nwf g) k ≤ k
  | 0 => Nat.le_refl _
  | k + 1 => by
    have h1 := sm_nwf_le g k
    have h2 := nwg_lt g k k
    show sm (nwf g) k + nwg g k k ≤ k + 1
    omega
theorem nwg_1 {g : Nat → Nat} {k : Nat} : ∀ {i : Nat}, (∀ q, q < i → g q ≠ g k) → nwg g k i = 1
  | 0, _ => rfl
  | i + 1, h => by
    show nwg g k i * (if g i = g k then 0 else 1) = 1
    rw [if_neg (h i (Nat.lt_succ_self i)), nwg_1 (fun q hq => h q (by omega))]
theorem nwg_0 {g : Nat → Nat} {k q : Nat} (e : g q = g k) : ∀ {i : Nat}, q < i → nwg g k i = 0
  | 0, h => absurd h (Nat.not_lt_zero _)
  | i + 1, h => by
    show nwg g k i * (if g i = g k then 0 else 1) = 0
    by_cases c : q = i
    · rw [← c, if_pos e, Nat.mul_zero]
    · rw [nwg_0 e (show q < i by omega), Nat.zero_mul]
theorem df_0 {g gg : Nat → Nat} (h : g 0 = gg 0) : ∀ v9, (∃ i9, i9 < 1 ∧ gg i9 = v9) ↔ (∃ q8, q8 ≤ 0 ∧ g q8 = v9) := fun v => by
  constructor
  · rintro ⟨i, hi, e⟩
    have : i = 0 := by omega
    subst this
    exact ⟨0, Nat.le_refl _, by rw [h]; exact e⟩
  · rintro ⟨i, hi, e⟩
    have : i = 0 := by omega
    subst this
    exact ⟨0, Nat.one_pos, by rw [← h]; exact e⟩
theorem df_old {g gg : Nat → Nat} {L k r : Nat} (hset : ∀ v9, (∃ i9, i9 < L ∧ gg i9 = v9) ↔ (∃ q8, q8 ≤ k ∧ g q8 = v9)) (h : ∃ q8, q8 < L ∧ gg q8 = r) (hr : r = g (k + 1)) : nwf g (k + 1) = 0 ∧ ∀ v9, (∃ i9, i9 < L ∧ va_up gg L r i9 = v9) ↔ (∃ q8, q8 ≤ k + 1 ∧ g q8 = v9) := by
  obtain ⟨q, hq, e⟩ := (hset r).mp h
  refine ⟨nwg_0 (e.trans hr) (by omega), fun v => ?_⟩
  have e1 : (∃ i9, i9 < L ∧ va_up gg L r i9 = v) ↔ (∃ i9, i9 < L ∧ gg i9 = v) := by
    constructor
    · rintro ⟨i, hi, e⟩
      rw [va_up_ne _ _ (by omega)] at e
      exact ⟨i, hi, e⟩
    · rintro ⟨i, hi, e⟩
      exact ⟨i, hi, by rw [va_up_ne _ _ (by omega)]; exact e⟩
  rw [e1, hset v]
  constructor
  · rintro ⟨i, hi, e⟩
    exact ⟨i, by omega, e⟩
  · rintro ⟨i, hi, ei⟩
    by_cases c : i = k + 1
    · exact ⟨q, hq, by rw [e, hr, ← c, ei]⟩
    · exact ⟨i, by omega, ei⟩
theorem df_new {g gg : Nat → Nat} {L k r : Nat} (hset : ∀ v9, (∃ i9, i9 < L ∧ gg i9 = v9) ↔ (∃ q8, q8 ≤ k ∧ g q8 = v9)) (h : ∀ q8, q8 < L → gg q8 ≠ r) (hr : r = g (k + 1)) : nwf g (k + 1) = 1 ∧ ∀ v9, (∃ i9, i9 < L + 1 ∧ va_up gg L r i9 = v9) ↔ (∃ q8, q8 ≤ k + 1 ∧ g q8 = v9) := by
  refine ⟨nwg_1 (fun q hq e => ?_), fun v => ⟨?_, ?_⟩⟩
  · obtain ⟨i, hi, ei⟩ := (hset r).mpr ⟨q, by omega, by rw [e, hr]⟩
    exact h i hi ei
  · rintro ⟨i, hi, e⟩
    by_cases c : i = L
    · rw [c, va_up_self] at e
      exact ⟨k + 1, Nat.le_refl _, by rw [← hr, e]⟩
    · rw [va_up_ne _ _ c] at e
      obtain ⟨q, hq, eq⟩ := (hset v).mp ⟨i, by omega, e⟩
      exact ⟨q, by omega, eq⟩
  · rintro ⟨q, hq, e⟩
    by_cases c : q = k + 1
    · exact ⟨L, Nat.lt_succ_self _, by rw [va_up_self, hr, ← c, e]⟩
    · obtain ⟨i, hi, ei⟩ := (hset v).mpr ⟨q, by omega, e⟩
      exact ⟨i, by omega, by rw [va_up_ne _ _ (by omega)]; exact ei⟩
