/-! THE MODEL: its leaves that make rows or write -/
theorem rst_k2 {k n u i : Nat} {f : Nat → Nat} (h : i < n) (hb : bitN k i = 1) : rst k n (u + 1) i f = rst k n u (i + 1) f := by
  by_cases c : i + 1 < n
  · exact rst_k c hb
  · rw [rst_end (by omega), rst_end (by omega)]
theorem stp_inv {k n u i : Nat} (h : i < n) (hb : bitN k i = 0) (hs : stp k n (u + 1) i = 1) : i + 1 < n ∧ bitN k (i + 1) = 0 ∧ stp k n u (i + 2) = 1 := by
  by_cases c : i + 1 < n ∧ bitN k (i + 1) = 0
  · rw [stp_x h hb c.1 c.2] at hs
    exact ⟨c.1, c.2, hs⟩
  · rw [stp_0 h hb c] at hs
    exact absurd hs (by decide)
/-- 1, if a value is none of the first i -/
def nwg (g : Nat → Nat) (k : Nat) : Nat → Nat
  | 0 => 1
  | i + 1 => nwg g k i * (if g i = g k then 0 else 1)
def nwf (g : Nat → Nat) (k : Nat) : Nat := nwg g k k
theorem nwg_lt (g : Nat → Nat) (k : Nat) : ∀ i, nwg g k i < 2
  | 0 => Nat.one_lt_two
  | i + 1 => by
    have := nwg_lt g k i
    show nwg g k i * (if g i = g k then 0 else 1) < 2
    split <;> omega
def cvl (n ch st rg d : Nat) : Nat → Nat
  | 0 => n
  | 1 => fac n
  | 2 => ch
  | 3 => d
  | 4 => st
  | _ => rg
def tld (f : Nat → Nat) (n : Nat) : Nat → Nat
  | 0 => hrk f n n
  | 1 => ivs f n
  | 2 => ivs f n % 2
  | 3 => sm (lst f n) n
  | 4 => mxr f n n
  | 5 => ord f n n
  | 6 => sm (own f) n
  | _ => pos f n 0
theorem ivs_le (f : Nat → Nat) (n : Nat) : ivs f n ≤ n * n := sm_le (fun q _ => Nat.le_trans (lss_le f n q) (by omega))
theorem bck_at {n : Nat} {f g : Nat → Nat} (h : Prm n g) : ∀ t, t ≤ n → ∀ i, i < t → bck f g t (g i) = i
  | 0, _, i, hi => absurd hi (Nat.not_lt_zero _)
  | t + 1, ht, i, hi => by
    show va_up (bck f g t) (g t) t (g i) = i
    by_cases c : i = t
    · rw [c]; exact va_up_self _ _ _
    · rw [va_up_ne _ _ (fun e => c (h.2.1 i t (by omega) (by omega) e))]
      exact bck_at h t (by omega) i (by omega)
theorem bck_inv {n : Nat} {f g : Nat → Nat} (h : Prm n g) {v : Nat} (hv : v < n) : bck f g n v = pos g n v := by
  obtain ⟨i, hi, e⟩ := h.2.2 v hv
  rw [← e, bck_at h n (Nat.le_refl _) i hi]
  exact (fnd_eq (Nat.le_of_lt hi) (fun q hq => by
    have : g q ≠ g i := fun z => by have := h.2.1 q i (by omega) hi z; omega
    simpa using this) (fun _ => by simp)).symm
theorem bck_pos {n : Nat} {f g : Nat → Nat} (h : Prm n g) (hn : 0 < n) : bck f g n 0 = pos g n 0 := bck_inv h hn
