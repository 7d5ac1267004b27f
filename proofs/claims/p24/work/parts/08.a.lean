abbrev xMA (o bk kp sz : Nat) : Nat → Prop := fun q9 => q9 = o ∨ q9 = bk ∨ q9 = kp ∨ sz ≤ q9
theorem ite_pos1 {P : Prop} [Decidable P] (h : 0 < (if P then 1 else 0 : Nat)) : P := by
  by_cases p : P
  · exact p
  · rw [if_neg p] at h; exact absurd h (Nat.lt_irrefl _)
theorem ite_zero1 {P : Prop} [Decidable P] (h : (if P then 1 else 0 : Nat) = 0) : ¬ P := fun p => by rw [if_pos p] at h; exact absurd h (by decide)
theorem xin_rng {x : Int32} {lo hi : Nat} (hh : hi < 2 ^ 30) (hl : lo < 2 ^ 30) : (nI lo ≤ x ∧ x ≤ nI hi) ↔ (inR x (hi + 1) ∧ lo ≤ xN x) := by
  by_cases h : x < 0
  · exact ⟨fun z => absurd (Int32.le_trans (nI_pos' (by omega)) z.1) (Int32.not_le.mpr h), fun z => absurd h z.1.1⟩
  · obtain ⟨j, hj, rfl⟩ := nI_of h
    rw [inR_nI hj, nI_leI (by omega) hj, nI_leI hj (by omega)]
    show lo ≤ j ∧ j ≤ hi ↔ j < hi + 1 ∧ lo ≤ (nI j).toNatClampNeg
    rw [nI_clamp hj]
    omega
theorem hrk_bd {f : Nat → Nat} {n : Nat} (hn : n ≤ 8) : hrk f n n < 40320 := Nat.lt_of_lt_of_le (hrk_lt f n) (fac_le n hn)
theorem up_rk {bf : Nat → Nat} {pm : Nat → Nat → Nat} {n ch j : Nat} {f : Nat → Nat} (h : ∀ k, k < ch → bf k = hrk (pm k) n n) : ∀ k, k < ch → va_up bf j (hrk f n n) k = hrk (va_up pm j f k) n n := fun k hk => by
  by_cases c : k = j
  · rw [c, va_up_self, va_up_self]
  · rw [va_up_ne _ _ c, va_up_ne _ _ c]; exact h k hk
theorem ad_rk {bf : Nat → Nat} {pm : Nat → Nat → Nat} {n ch : Nat} {f : Nat → Nat} (h : ∀ k, k < ch → bf k = hrk (pm k) n n) : ∀ k, k < ch + 1 → va_up bf ch (hrk f n n) k = hrk (va_up pm ch f k) n n := fun k hk => by
  by_cases c : k = ch
  · rw [c, va_up_self, va_up_self]
  · rw [va_up_ne _ _ c, va_up_ne _ _ c]; exact h k (by omega)
theorem up_bd {bf : Nat → Nat} {j v : Nat} (h : ∀ k, bf k < 40320) (hv : v < 40320) : ∀ k, va_up bf j v k < 40320 := fun k => by
  by_cases c : k = j
  · rw [c, va_up_self]; exact hv
  · rw [va_up_ne _ _ c]; exact h k
theorem prm_100 {n : Nat} {f : Nat → Nat} (h : Prm n f) (hn : n ≤ 8) : ∀ i, i < n → f i < 100 := fun i hi => Nat.lt_of_lt_of_le (h.1 i hi) (Nat.le_trans hn (by decide))
theorem prm_lt {n : Nat} {f : Nat → Nat} (h : Prm n f) : ∀ i, i < n → f i < n := h.1
theorem neq_b {a b : Nat} (h : a ≠ b) : (a == b) = false := by simpa using h
theorem eq_b {a b : Nat} (h : a = b) : (a == b) = true := by simpa using h
theorem xin0 {x : Int32} {hi N : Nat} (hN : hi + 1 = N) (hh : hi < 2 ^ 30) : (nI 0 ≤ x ∧ x ≤ nI hi) ↔ inR x N := by
  rw [xin_rng hh (by decide), hN]
  exact ⟨fun h => h.1, fun h => ⟨h, Nat.zero_le _⟩⟩
theorem stp_le (k n : Nat) : ∀ u i, stp k n u i ≤ 1
  | 0, _ => Nat.le_refl _
  | u + 1, i => by
    show (if i < n then (if bitN k i = 1 then stp k n u (i + 1) else (if i + 1 < n ∧ bitN k (i + 1) = 0 then stp k n u (i + 2) else 0)) else 1) ≤ 1
    by_cases h : i < n
    · rw [if_pos h]
      by_cases h2 : bitN k i = 1
      · rw [if_pos h2]; exact stp_le k n u _
      · rw [if_neg h2]
        by_cases h3 : i + 1 < n ∧ bitN k (i + 1) = 0
        · rw [if_pos h3]; exact stp_le k n u _
        · rw [if_neg h3]; exact Nat.zero_le _
    · rw [if_neg h]; exact Nat.le_refl _
theorem istep_le {P : Prop} [Decidable P] {v : Nat} (hv : v ≤ 1) : (if P then v else 0 : Nat) ≤ 1 := by
  by_cases p : P
  · rw [if_pos p]; exact hv
  · rw [if_neg p]; exact Nat.zero_le _
theorem istep_1 {P : Prop} [Decidable P] {v : Nat} (h : 0 < (if P then v else 0 : Nat)) (hv : v ≤ 1) : P ∧ v = 1 := by
  by_cases p : P
  · rw [if_pos p] at h; exact ⟨p, by omega⟩
  · rw [if_neg p] at h; exact absurd h (Nat.lt_irrefl _)
theorem istep_0 {P : Prop} [Decidable P] {v : Nat} (h : (if P then v else 0 : Nat) = 0) (_ : v ≤ 1) : ¬ (P ∧ v = 1) := fun z => by
  rw [if_pos z.1] at h; omega
theorem xdec1 {k : Nat} (h : 0 < k) : nI k + Int32.ofInt (-1) = nI (k - 1) := by
  obtain ⟨z, rfl⟩ : ∃ z, k = z + 1 := ⟨k - 1, by omega⟩
  exact pk_m1 z
theorem va_up_same {α : Type} (f : Nat → α) (k : Nat) : va_up f k (f k) = f := by
  funext j
  by_cases c : j = k
  · rw [c, va_up_self]
  · rw [va_up_ne _ _ c]
theorem ivs_congr {a b : Nat → Nat} {n : Nat} (h : ∀ i, i < n → a i = b i) : ivs a n = ivs b n := sm_congr (fun _ hq => lss_congr hq h)
theorem nwg_congr {g g' : Nat → Nat} {N : Nat} (h : ∀ k, k < N → g k = g' k) {k : Nat} (hk : k < N) : ∀ i, i ≤ k → nwg g k i = nwg g' k i
  | 0, _ => rfl
  | i + 1, hi => by
    show nwg g k i * (if g i = g k then 0 else 1) = nwg g' k i * (if g' i = g' k then 0 else 1)
    rw [nwg_congr h hk i (by omega), h i (by omega), h k hk]
theorem nwf_congr {g g' : Nat → Nat} {N : Nat} (h : ∀ k, k < N → g k = g' k) : sm (nwf g) N = sm (nwf g') N := sm_congr (fun k hk => nwg_congr h hk k (Nat.le_refl _))
theorem adB_le (g : Nat → Nat) : ∀ k, adB g k ≤ k
  | 0 => Nat.le_refl _
  | k + 1 => by
    show (if g (k + 1) < g (adB g k) then k + 1 else adB g k) ≤ k + 1
    have := adB_le g k
    split <;> omega
theorem nI_nm1 {k : Nat} (h : k < 2 ^ 30) : ¬ nI k = (-1) := fun e => by
  have h1 : (0 : Int32) ≤ nI k := nI_pos' (by omega)
  rw [e] at h1
  exact absurd h1 (by decide)
theorem xN_nI {j : Nat} (h : j < 2 ^ 31) : xN (nI j) = j := nI_clamp h
