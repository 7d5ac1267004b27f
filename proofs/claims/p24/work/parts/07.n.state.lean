/-! THE STATE that class and reference share, and what each call makes of it: bells, changes written, their rows, steps, their bits, steps rung -/
abbrev AS : Type := Nat × Nat × (Nat → Nat → Nat) × Nat × (Nat → Nat) × Nat
def AI (S : AS) : Prop := (2 ≤ S.1 ∧ S.1 ≤ 8) ∧ S.2.1 ≤ 16 ∧ S.2.2.2.1 ≤ 10 ∧ (∀ k i, S.2.2.1 k i < 8) ∧ (∀ k, k < S.2.1 → Prm S.1 (S.2.2.1 k)) ∧ (∀ j, j < S.2.2.2.1 → stp (S.2.2.2.2.1 j) S.1 S.1 0 = 1) ∧ (∀ j, S.2.2.2.2.1 j < 2 ^ 31)
def rkS (S : AS) (k : Nat) : Nat := hrk (S.2.2.1 k) S.1 S.1
def upP (S : AS) (k : Nat) (f : Nat → Nat) : AS := (S.1, S.2.1, va_up S.2.2.1 k f, S.2.2.2)
def adP (S : AS) (f : Nat → Nat) : AS := (S.1, S.2.1 + 1, va_up S.2.2.1 S.2.1 f, S.2.2.2)
theorem AI_upP {S : AS} (h : AI S) {k : Nat} {f : Nat → Nat} (h8 : ∀ i, f i < 8) (hp : Prm S.1 f) : AI (upP S k f) := by
  obtain ⟨h1, h2, h3, h4, h5, h6, h7⟩ := h
  refine ⟨h1, h2, h3, fun q i => ?_, fun q hq => ?_, h6, h7⟩
  · show va_up S.2.2.1 k f q i < 8
    by_cases c : q = k
    · rw [c, va_up_self]; exact h8 i
    · rw [va_up_ne _ _ c]; exact h4 q i
  · show Prm S.1 (va_up S.2.2.1 k f q)
    by_cases c : q = k
    · rw [c, va_up_self]; exact hp
    · rw [va_up_ne _ _ c]; exact h5 q hq
theorem AI_adP {S : AS} (h : AI S) (hc : S.2.1 < 16) {f : Nat → Nat} (h8 : ∀ i, f i < 8) (hp : Prm S.1 f) : AI (adP S f) := by
  obtain ⟨h1, h2, h3, h4, h5, h6, h7⟩ := h
  refine ⟨h1, hc, h3, fun q i => ?_, fun q hq => ?_, h6, h7⟩
  · show va_up S.2.2.1 S.2.1 f q i < 8
    by_cases c : q = S.2.1
    · rw [c, va_up_self]; exact h8 i
    · rw [va_up_ne _ _ c]; exact h4 q i
  · have hq : q < S.2.1 + 1 := hq
    show Prm S.1 (va_up S.2.2.1 S.2.1 f q)
    by_cases c : q = S.2.1
    · rw [c, va_up_self]; exact hp
    · rw [va_up_ne _ _ c]; exact h5 q (by omega)
abbrev xN (x : Int32) : Nat := x.toNatClampNeg
/-! what is thrown (0: nothing), the state behind, the answer -/
def tSet (_ : AS) (x : Int32) : Nat := if inR x 9 ∧ 2 ≤ xN x then 0 else 1
def nSet (S : AS) (x : Int32) : AS := if tSet S x = 0 then (xN x, 0, S.2.2.1, 0, S.2.2.2.2.1, S.2.2.2.2.2) else S
def rSet (S : AS) (_ : Int32) : Int32 := nI S.1
def tWrite (S : AS) (x : Int32) : Nat := if inR x (fac S.1) then (if S.2.1 = 16 then 2 else 0) else 1
def nWrite (S : AS) (x : Int32) : AS := if tWrite S x = 0 then adP S (srG (S.2.2.1 S.2.1) S.1 (xN x) S.1) else S
def rWrite (S : AS) (_ : Int32) : Int32 := nI S.2.1
def tSwap (S : AS) (x y : Int32) : Nat := if inR x S.2.1 ∧ inR y (S.1 - 1) then 0 else 1
def nSwap (S : AS) (x y : Int32) : AS := if tSwap S x y = 0 then upP S (xN x) (xch (S.2.2.1 (xN x)) (xN y)) else S
def rSwap (S : AS) (x y : Int32) : Int32 := nI (hrk (xch (S.2.2.1 (xN x)) (xN y)) S.1 S.1)
def tIn (S : AS) (x : Int32) : Nat := if inR x S.2.1 then 0 else 1
def nxr (S : AS) (k : Nat) : Nat := (rkS S k + 1) % fac S.1
def nNext (S : AS) (x : Int32) : AS := if tIn S x = 0 then upP S (xN x) (srG (S.2.2.1 (xN x)) S.1 (nxr S (xN x)) S.1) else S
def rNext (S : AS) (x : Int32) : Int32 := nI (nxr S (xN x))
def tBehind (S : AS) (x y : Int32) : Nat := if inR x S.2.1 ∧ inR y S.2.1 then (if S.2.1 = 16 then 2 else 0) else 1
def bhF (S : AS) (a b : Nat) : Nat → Nat := fun q9 => S.2.2.1 a (S.2.2.1 b q9)
def nBehind (S : AS) (x y : Int32) : AS := if tBehind S x y = 0 then adP S (cpy (S.2.2.1 S.2.1) (bhF S (xN x) (xN y)) S.1) else S
def rBehind (S : AS) (_ _ : Int32) : Int32 := nI S.2.1
def bkF (S : AS) (k : Nat) : Nat → Nat := cpy (S.2.2.1 k) (bck (fun _ => 0) (S.2.2.1 k) S.1) S.1
def nBack (S : AS) (x : Int32) : AS := if tIn S x = 0 then upP S (xN x) (bkF S (xN x)) else S
def rBack (S : AS) (x : Int32) : Int32 := nI (hrk (bkF S (xN x)) S.1 S.1)
def tRepeat (S : AS) (x y : Int32) : Nat := if inR x S.2.1 then (if inR y 10000 then 0 else 2) else 1
def reF (S : AS) (k t : Nat) : Nat → Nat := cpy (S.2.2.1 k) (rpF (S.2.2.1 k) S.1 t) S.1
def nRepeat (S : AS) (x y : Int32) : AS := if tRepeat S x y = 0 then upP S (xN x) (reF S (xN x) (xN y)) else S
def rRepeat (S : AS) (x y : Int32) : Int32 := nI (hrk (reF S (xN x) (xN y)) S.1 S.1)
def tStep (S : AS) (x : Int32) : Nat := if inR x (2 ^ S.1) ∧ stp (xN x) S.1 S.1 0 = 1 then (if S.2.2.2.1 = 10 then 2 else 0) else 1
def nStep (S : AS) (x : Int32) : AS := if tStep S x = 0 then (S.1, S.2.1, S.2.2.1, S.2.2.2.1 + 1, va_up S.2.2.2.2.1 S.2.2.2.1 (xN x), S.2.2.2.2.2) else S
def rStep (S : AS) (_ : Int32) : Int32 := nI (S.2.2.2.1 + 1)
def nClear (S : AS) : AS := (S.1, S.2.1, S.2.2.1, 0, S.2.2.2.2.1, S.2.2.2.2.2)
def rClear (S : AS) : Int32 := nI S.2.2.2.1
def tRing (S : AS) (x y : Int32) : Nat := if inR x S.2.1 then (if inR y 201 ∧ 1 ≤ xN y then 0 else 2) else 1
def rgF (S : AS) (k t : Nat) : Nat → Nat := if S.2.2.2.1 = 0 then S.2.2.1 k else rgs S.2.2.2.2.1 S.2.2.2.1 S.1 (S.2.2.1 k) t
def nRing (S : AS) (x y : Int32) : AS := if tRing S x y = 0 then (S.1, S.2.1, va_up S.2.2.1 (xN x) (rgF S (xN x) (xN y)), S.2.2.2.1, S.2.2.2.2.1, if S.2.2.2.1 = 0 then S.2.2.2.2.2 else S.2.2.2.2.2 + xN y) else S
def rRing (S : AS) (x y : Int32) : Int32 := nI (hrk (rgF S (xN x) (xN y)) S.1 S.1)
def tBell (S : AS) (x y : Int32) : Nat := if inR x S.2.1 ∧ inR y S.1 then 0 else 1
def rBell (S : AS) (x y : Int32) : Int32 := nI (S.2.2.1 (xN x) (xN y))
def tTold (S : AS) (x y : Int32) : Nat := if inR x S.2.1 ∧ inR y 8 then 0 else 1
def rTold (S : AS) (x y : Int32) : Int32 := nI (tld (S.2.2.1 (xN x)) S.1 (xN y))
def rRound (S : AS) (x y : Int32) : Int32 := nI (per (S.2.2.1 (xN x)) S.1 (xN y))
def tTwo (S : AS) (x y : Int32) : Nat := if inR x S.2.1 ∧ inR y S.2.1 then 0 else 1
def apF (S : AS) (a b : Nat) : Nat → Nat := fun q9 => pos (S.2.2.1 b) S.1 (S.2.2.1 a q9)
def rApart (S : AS) (x y : Int32) : Int32 := nI (ivs (apF S (xN x) (xN y)) S.1)
def dsS (S : AS) : Nat := sm (nwf (rkS S)) S.2.1
def cvS (S : AS) (w : Nat) : Nat := cvl S.1 S.2.1 S.2.2.2.1 S.2.2.2.2.2 (dsS S) w
def tCount (_ : AS) (x : Int32) : Nat := if inR x 6 then 0 else 1
def rCount (S : AS) (x : Int32) : Int32 := nI (cvS S (xN x))
def tKept (S : AS) (x : Int32) : Nat := if inR x S.2.2.2.1 then 0 else 1
def rKept (S : AS) (x : Int32) : Int32 := nI (S.2.2.2.2.1 (xN x))
def cmP (S : AS) (k : Nat) : Nat → Bool := fun i => hrk (rgs S.2.2.2.2.1 S.2.2.2.1 S.1 (S.2.2.1 k) (i + 1)) S.1 S.1 == rkS S k
def cmF (S : AS) (k : Nat) : Int32 := if S.2.2.2.1 = 0 then -1 else if fnd (cmP S k) 400 < 400 then nI (fnd (cmP S k) 400 + 1) else -1
def rComes (S : AS) (x : Int32) : Int32 := cmF S (xN x)
def tDiffer (_ : AS) (x : Int32) : Nat := if inR x 201 ∧ 1 ≤ xN x then 0 else 1
def dfG (S : AS) (k : Nat) : Nat := hrk (rgs S.2.2.2.2.1 S.2.2.2.1 S.1 (fun i => i) k) S.1 S.1
def rDiffer (S : AS) (x : Int32) : Int32 := nI (if S.2.2.2.1 = 0 then 1 else sm (nwf (dfG S)) (xN x + 1))
def adG (S : AS) (a k : Nat) : Nat := ivs (bhF S a k) S.1
def adB (g : Nat → Nat) : Nat → Nat
  | 0 => 0
  | k + 1 => if g (k + 1) < g (adB g k) then k + 1 else adB g k
def rAdvise (S : AS) (x : Int32) : Int32 := nI (adB (adG S (xN x)) (S.2.1 - 1))
def mnS (S : AS) : Nat := sm (rkS S) S.2.1
/-! the checksum: counts, then of each change what is told of it and its bells, then the steps -/
def dgR (g : Nat → Nat) (d : Int64) : Nat → Int64
  | 0 => d
  | k + 1 => dgR g d k * 31 + (nI (g k)).toInt64
def dgB (S : AS) (d : Int64) : Nat → Int64
  | 0 => d
  | k + 1 => dgR (S.2.2.1 k) (dgR (tld (S.2.2.1 k) S.1) (dgB S d k) 8) S.1
def dgS (S : AS) : Int64 := dgR S.2.2.2.2.1 (dgB S (dgR (cvS S) 1579 6) S.2.1) S.2.2.2.1
/-! the state stays sound -/
theorem AI_set {S : AS} (h : AI S) (x : Int32) : AI (nSet S x) := by
  unfold nSet
  by_cases c : tSet S x = 0
  · rw [if_pos c]
    have c2 : inR x 9 ∧ 2 ≤ xN x := by
      unfold tSet at c
      by_cases z : inR x 9 ∧ 2 ≤ xN x
      · exact z
      · rw [if_neg z] at c; exact absurd c (by decide)
    obtain ⟨h1, h2, h3, h4, h5, h6, h7⟩ := h
    refine ⟨⟨c2.2, ?_⟩, Nat.zero_le _, Nat.zero_le _, h4, fun k hk => absurd hk (Nat.not_lt_zero _), fun j hj => absurd hj (Nat.not_lt_zero _), h7⟩
    have h9 : xN x < 9 := c2.1.2
    show xN x ≤ 8
    omega
  · rw [if_neg c]; exact h
theorem inR_lt {x : Int32} {N : Nat} (h : inR x N) : xN x < N := h.2
theorem t2_in {P Q : Prop} [Decidable P] [Decidable Q] (h : (if P then (if Q then 2 else 0) else 1 : Nat) = 0) : P ∧ ¬ Q := by
  by_cases p : P
  · by_cases q : Q
    · rw [if_pos p, if_pos q] at h; exact absurd h (by decide)
    · exact ⟨p, q⟩
  · rw [if_neg p] at h; exact absurd h (by decide)
theorem t3_in {P Q : Prop} [Decidable P] [Decidable Q] (h : (if P then (if Q then 0 else 2) else 1 : Nat) = 0) : P ∧ Q := by
  by_cases p : P
  · by_cases q : Q
    · exact ⟨p, q⟩
    · rw [if_pos p, if_neg q] at h; exact absurd h (by decide)
  · rw [if_neg p] at h; exact absurd h (by decide)
theorem t1_in {P : Prop} [Decidable P] (h : (if P then 0 else 1 : Nat) = 0) : P := by
  by_cases p : P
  · exact p
  · rw [if_neg p] at h; exact absurd h (by decide)
theorem AI_write {S : AS} (h : AI S) (x : Int32) : AI (nWrite S x) := by
  unfold nWrite
  by_cases c : tWrite S x = 0
  · rw [if_pos c]
    obtain ⟨c1, c2⟩ := t2_in c
    exact AI_adP h (by have := h.2.1; omega) (srG_bd8 h.1.2 (h.2.2.2.1 _) (inR_lt c1)) (srG_hrk (inR_lt c1)).1
  · rw [if_neg c]; exact h
theorem AI_swap {S : AS} (h : AI S) (x y : Int32) : AI (nSwap S x y) := by
  unfold nSwap
  by_cases c : tSwap S x y = 0
  · rw [if_pos c]
    obtain ⟨c1, c2⟩ := t1_in c
    exact AI_upP h (xch_bd (h.2.2.2.1 _)) ((h.2.2.2.2.1 _ (inR_lt c1)).xch (by have := inR_lt c2; omega))
  · rw [if_neg c]; exact h
theorem AI_next {S : AS} (h : AI S) (x : Int32) : AI (nNext S x) := by
  unfold nNext
  by_cases c : tIn S x = 0
  · rw [if_pos c]
    have hlt : nxr S (xN x) < fac S.1 := Nat.mod_lt _ (fac_pos _)
    exact AI_upP h (srG_bd8 h.1.2 (h.2.2.2.1 _) hlt) (srG_hrk hlt).1
  · rw [if_neg c]; exact h
theorem Prm_bh {S : AS} (h : AI S) {a b : Nat} (ha : a < S.2.1) (hb : b < S.2.1) : Prm S.1 (bhF S a b) := (h.2.2.2.2.1 a ha).comp (h.2.2.2.2.1 b hb)
theorem AI_behind {S : AS} (h : AI S) (x y : Int32) : AI (nBehind S x y) := by
  unfold nBehind
  by_cases c : tBehind S x y = 0
  · rw [if_pos c]
    obtain ⟨⟨c1, c2⟩, c3⟩ := t2_in c
    exact AI_adP h (by have := h.2.1; omega) (cpy_bd (h.2.2.2.1 _) (fun i _ => h.2.2.2.1 _ _)) (Prm_bh h (inR_lt c1) (inR_lt c2)).cpy
  · rw [if_neg c]; exact h
theorem AI_back {S : AS} (h : AI S) (x : Int32) : AI (nBack S x) := by
  unfold nBack
  by_cases c : tIn S x = 0
  · rw [if_pos c]
    have hp := h.2.2.2.2.1 _ (inR_lt (t1_in c))
    exact AI_upP h (cpy_bd (h.2.2.2.1 _) (fun i hi => by have := (Prm.bck (f := fun _ => 0) hp).1 i hi; have := h.1.2; omega)) (Prm.bck hp).cpy
  · rw [if_neg c]; exact h
theorem AI_repeat {S : AS} (h : AI S) (x y : Int32) : AI (nRepeat S x y) := by
  unfold nRepeat
  by_cases c : tRepeat S x y = 0
  · rw [if_pos c]
    have hp := h.2.2.2.2.1 _ (inR_lt (t3_in c).1)
    exact AI_upP h (cpy_bd (h.2.2.2.1 _) (fun i hi => by have := (hp.rpF (xN y)).1 i hi; have := h.1.2; omega)) (hp.rpF _).cpy
  · rw [if_neg c]; exact h
theorem AI_step {S : AS} (h : AI S) (x : Int32) : AI (nStep S x) := by
  unfold nStep
  by_cases c : tStep S x = 0
  · rw [if_pos c]
    obtain ⟨⟨c1, c2⟩, c3⟩ := t2_in c
    obtain ⟨h1, h2, h3, h4, h5, h6, h7⟩ := h
    refine ⟨h1, h2, ?_, h4, h5, fun j hj => ?_, fun j => ?_⟩
    · show S.2.2.2.1 + 1 ≤ 10; omega
    · have hj : j < S.2.2.2.1 + 1 := hj
      show stp (va_up S.2.2.2.2.1 S.2.2.2.1 (xN x) j) S.1 S.1 0 = 1
      by_cases z : j = S.2.2.2.1
      · rw [z, va_up_self]; exact c2
      · rw [va_up_ne _ _ z]; exact h6 j (by omega)
    · show va_up S.2.2.2.2.1 S.2.2.2.1 (xN x) j < 2 ^ 31
      by_cases z : j = S.2.2.2.1
      · rw [z, va_up_self]
        exact Nat.lt_trans (inR_lt c1) (Nat.pow_lt_pow_right (by decide) (by omega))
      · rw [va_up_ne _ _ z]; exact h7 j
  · rw [if_neg c]; exact h
theorem AI_clear {S : AS} (h : AI S) : AI (nClear S) := by
  obtain ⟨h1, h2, h3, h4, h5, h6, h7⟩ := h
  exact ⟨h1, h2, Nat.zero_le _, h4, h5, fun j hj => absurd hj (Nat.not_lt_zero _), h7⟩
theorem rgF_bd {S : AS} (h : AI S) (k t i : Nat) : rgF S k t i < 8 := by
  unfold rgF
  split
  · exact h.2.2.2.1 k i
  · exact rgs_bd (h.2.2.2.1 k) t i
theorem rgF_prm {S : AS} (h : AI S) {k : Nat} (hk : k < S.2.1) (t : Nat) : Prm S.1 (rgF S k t) := by
  unfold rgF
  split
  · exact h.2.2.2.2.1 k hk
  · exact Prm.rgs (h.2.2.2.2.1 k hk) t
theorem AI_ring {S : AS} (h : AI S) (x y : Int32) : AI (nRing S x y) := by
  unfold nRing
  by_cases c : tRing S x y = 0
  · rw [if_pos c]
    exact AI_upP (S := (S.1, S.2.1, S.2.2.1, S.2.2.2.1, S.2.2.2.2.1, _)) h (rgF_bd h _ _) (rgF_prm h (inR_lt (t3_in c).1) _)
  · rw [if_neg c]; exact h
