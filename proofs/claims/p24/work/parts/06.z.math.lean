/-! PERMUTATIONS, their rings and ranks -/
def Prm (n : Nat) (a : Nat → Nat) : Prop := (∀ i, i < n → a i < n) ∧ (∀ i j, i < n → j < n → a i = a j → i = j) ∧ (∀ v, v < n → ∃ i, i < n ∧ a i = v)
theorem pigeon : ∀ (n : Nat) (g : Nat → Nat), (∀ i, i ≤ n → g i < n) → ∃ i j, i < j ∧ j ≤ n ∧ g i = g j
  | 0, g, h => absurd (h 0 (Nat.le_refl _)) (Nat.not_lt_zero _)
  | n + 1, g, h => by
    by_cases hx : ∃ i, i ≤ n ∧ g i = g (n + 1)
    · obtain ⟨i, h1, h2⟩ := hx
      exact ⟨i, n + 1, by omega, Nat.le_refl _, h2⟩
    · have h0 : ∀ i, i ≤ n → g i ≠ g (n + 1) := fun i hi e => hx ⟨i, hi, e⟩
      have hn := h (n + 1) (Nat.le_refl _)
      obtain ⟨i, j, hij, hj, e⟩ := pigeon n (fun i => if g i = n then g (n + 1) else g i) (fun i hi => by
        have h1 := h0 i hi
        have h2 := h i (by omega)
        show (if g i = n then g (n + 1) else g i) < n
        split <;> omega)
      refine ⟨i, j, hij, by omega, ?_⟩
      have e : (if g i = n then g (n + 1) else g i) = (if g j = n then g (n + 1) else g j) := e
      have h1 := h0 i (by omega)
      have h2 := h0 j hj
      by_cases c1 : g i = n <;> by_cases c2 : g j = n
      · rw [c1, c2]
      · rw [if_pos c1, if_neg c2] at e; exact absurd e.symm h2
      · rw [if_neg c1, if_pos c2] at e; exact absurd e h1
      · rw [if_neg c1, if_neg c2] at e; exact e
theorem it_add (a : Nat → Nat) (k m j : Nat) : it a (k + m) j = it a k (it a m j) := by
  induction k with
  | zero => rw [Nat.zero_add]; rfl
  | succ k ih => rw [show k + 1 + m = (k + m) + 1 by omega]; show a (it a (k + m) j) = a (it a k (it a m j)); rw [ih]
theorem it_ltn {n : Nat} {a : Nat → Nat} (h : Prm n a) {j : Nat} (hj : j < n) : ∀ k, it a k j < n
  | 0 => hj
  | k + 1 => h.1 _ (it_ltn h hj k)
theorem it_inj {n : Nat} {a : Nat → Nat} (h : Prm n a) {x y : Nat} (hx : x < n) (hy : y < n) : ∀ k, it a k x = it a k y → x = y
  | 0, e => e
  | k + 1, e => it_inj h hx hy k (h.2.1 _ _ (it_ltn h hx k) (it_ltn h hy k) e)
theorem it_back {n : Nat} {a : Nat → Nat} (h : Prm n a) {j : Nat} (hj : j < n) : ∃ k, 1 ≤ k ∧ k ≤ n ∧ it a k j = j := by
  obtain ⟨i, k, hik, hk, e⟩ := pigeon n (fun i => it a i j) (fun i _ => it_ltn h hj i)
  refine ⟨k - i, by omega, by omega, ?_⟩
  have e : it a i j = it a k j := e
  rw [show k = i + (k - i) by omega, it_add] at e
  exact (it_inj h hj (it_ltn h hj _) i e).symm
theorem per_min {a : Nat → Nat} {n j i : Nat} (h1 : 1 ≤ i) (h2 : i < per a n j) : it a i j ≠ j := by
  have := (fnd_spec (fun k => it a (k + 1) j == j) (n - 1)).2.1 (i - 1) (by unfold per at h2; omega)
  rw [Nat.sub_add_cancel h1] at this
  simpa using this
theorem per_it {n : Nat} {a : Nat → Nat} (h : Prm n a) {j : Nat} (hj : j < n) : it a (per a n j) j = j := by
  obtain ⟨h1, h2, h3⟩ := fnd_spec (fun k => it a (k + 1) j == j) (n - 1)
  by_cases c : fnd (fun k => it a (k + 1) j == j) (n - 1) < n - 1
  · simpa [per] using h3 c
  · obtain ⟨k, k1, k2, k3⟩ := it_back h hj
    have e : per a n j = n := by unfold per; omega
    by_cases ck : k < n
    · exact absurd k3 (per_min k1 (by rw [e]; exact ck))
    · rw [e, show n = k by omega]; exact k3
theorem it_mul {a : Nat → Nat} {d j : Nat} (h : it a d j = j) : ∀ k, it a (d * k) j = j
  | 0 => rfl
  | k + 1 => by rw [Nat.mul_succ, it_add, h]; exact it_mul h k
theorem it_mod {a : Nat → Nat} {d j : Nat} (h : it a d j = j) (t : Nat) : it a t j = it a (t % d) j := by
  have e := Nat.mod_add_div t d
  rw [← e, it_add, it_mul h, Nat.add_mul_mod_self_left, Nat.mod_mod]
def fac : Nat → Nat
  | 0 => 1
  | k + 1 => (k + 1) * fac k
theorem fac_pos : ∀ k, 0 < fac k
  | 0 => Nat.one_pos
  | k + 1 => Nat.mul_pos (Nat.succ_pos k) (fac_pos k)
theorem fac_le : ∀ k, k ≤ 8 → fac k ≤ 40320 := by decide
theorem sm_add (F : Nat → Nat) (x : Nat) : ∀ y, sm F (x + y) = sm F x + sm (fun i => F (x + i)) y
  | 0 => rfl
  | y + 1 => by
    show sm F (x + y) + F (x + y) = sm F x + (sm (fun i => F (x + i)) y + F (x + y))
    rw [sm_add F x y, Nat.add_assoc]
theorem sm_plus (F G : Nat → Nat) : ∀ k, sm (fun q => F q + G q) k = sm F k + sm G k
  | 0 => rfl
  | k + 1 => by
    show sm (fun q => F q + G q) k + (F k + G k) = (sm F k + F k) + (sm G k + G k)
    rw [sm_plus F G k]; omega
theorem sm_one {F : Nat → Nat} {i : Nat} : ∀ {k : Nat}, i < k → (∀ q, q < k → q ≠ i → F q = 0) → sm F k = F i
  | 0, h, _ => absurd h (Nat.not_lt_zero _)
  | k + 1, h, h0 => by
    show sm F k + F k = F i
    by_cases c : i = k
    · subst c
      rw [sm_zero (fun q hq => h0 q (by omega) (by omega)), Nat.zero_add]
    · rw [sm_one (by omega) (fun q hq hn => h0 q (by omega) hn), h0 k (by omega) (Ne.symm c), Nat.add_zero]
/-- counting by values and by places -/
theorem sm_prm {n : Nat} {a : Nat → Nat} (h : Prm n a) (F : Nat → Nat) : ∀ v, v ≤ n → sm F v = sm (fun q => if a q < v then F (a q) else 0) n
  | 0, _ => (sm_zero (fun q _ => if_neg (Nat.not_lt_zero _))).symm
  | v + 1, hv => by
    obtain ⟨i, hi, e⟩ := h.2.2 v (by omega)
    have h1 : sm (fun q => if a q = v then F (a q) else 0) n = F v := by
      rw [sm_one hi (fun q hq hn => if_neg (fun z => hn (h.2.1 q i hq hi (z.trans e.symm))))]
      show (if a i = v then F (a i) else 0) = F v
      rw [if_pos e, e]
    have h2 : sm (fun q => if a q < v + 1 then F (a q) else 0) n = sm (fun q => (if a q < v then F (a q) else 0) + (if a q = v then F (a q) else 0)) n := sm_congr (fun q _ => by
      by_cases c1 : a q < v
      · rw [if_pos c1, if_neg (show ¬ a q = v by omega), if_pos (show a q < v + 1 by omega), Nat.add_zero]
      · by_cases c2 : a q = v
        · rw [if_neg c1, if_pos c2, if_pos (by omega), Nat.zero_add]
        · rw [if_neg c1, if_neg c2, if_neg (by omega)])
    show sm F v + F v = _
    rw [h2, sm_plus, h1, sm_prm h F v (by omega)]
theorem sm_const (c : Nat) : ∀ k, sm (fun _ => c) k = k * c
  | 0 => (Nat.zero_mul c).symm
  | k + 1 => by show sm (fun _ => c) k + c = _; rw [sm_const c k, Nat.succ_mul]
theorem sm_prm1 {n : Nat} {a : Nat → Nat} (h : Prm n a) {v : Nat} (hv : v ≤ n) : sm (fun q => if a q < v then 1 else 0) n = v := by
  have := sm_prm h (fun _ => 1) v hv
  rw [sm_const, Nat.mul_one] at this
  exact this.symm
/-! the rank -/
def mrk (f : Nat → Nat) (n : Nat) : Nat → Nat
  | 0 => 0
  | k + 1 => mrk f n k + lss f n k * fac (n - 1 - k)
theorem mrk_hrk (f : Nat → Nat) (n : Nat) : ∀ k, k ≤ n → mrk f n k = hrk f n k * fac (n - k)
  | 0, _ => (Nat.zero_mul _).symm
  | k + 1, h => by
    show mrk f n k + lss f n k * fac (n - 1 - k) = (hrk f n k * (n - k) + lss f n k) * fac (n - (k + 1))
    rw [mrk_hrk f n k (by omega), Nat.add_mul, Nat.mul_assoc, show n - (k + 1) = n - 1 - k by omega]
    have e : fac (n - k) = (n - k) * fac (n - 1 - k) := by
      rw [show n - k = (n - 1 - k) + 1 by omega]; rfl
    rw [e]
theorem mrk_eq (f : Nat → Nat) (n : Nat) : mrk f n n = hrk f n n := by
  rw [mrk_hrk f n n (Nat.le_refl _), Nat.sub_self]; exact Nat.mul_one _
theorem sm_lsf_le (f : Nat → Nat) (j : Nat) : ∀ k, sm (lsf f j) k ≤ k - (j + 1)
  | 0 => Nat.zero_le _
  | k + 1 => by
    show sm (lsf f j) k + lsf f j k ≤ k + 1 - (j + 1)
    have h1 := sm_lsf_le f j k
    by_cases c : j < k
    · have h2 : lsf f j k ≤ 1 := by unfold lsf; split <;> decide
      omega
    · rw [lsf_le (by omega), sm_zero (fun q hq => lsf_le (by omega))]
      omega
theorem lss_le (f : Nat → Nat) (n j : Nat) : lss f n j ≤ n - (j + 1) := sm_lsf_le f j n
/-- the last t digits -/
def trk (f : Nat → Nat) (n : Nat) : Nat → Nat
  | 0 => 0
  | t + 1 => lss f n (n - 1 - t) * fac t + trk f n t
theorem trk_lt (f : Nat → Nat) (n : Nat) : ∀ t, t ≤ n → trk f n t < fac t
  | 0, _ => Nat.one_pos
  | t + 1, h => by
    have h1 := trk_lt f n t (by omega)
    have h2 : lss f n (n - 1 - t) ≤ t := Nat.le_trans (lss_le f n _) (by omega)
    have h3 := Nat.mul_le_mul_right (fac t) h2
    show lss f n (n - 1 - t) * fac t + trk f n t < (t + 1) * fac t
    rw [Nat.succ_mul]
    omega
theorem mrk_trk (f : Nat → Nat) (n : Nat) : ∀ k, k ≤ n → mrk f n k + trk f n (n - k) = trk f n n
  | 0, _ => by rw [Nat.sub_zero]; exact Nat.zero_add _
  | k + 1, h => by
    rw [← mrk_trk f n k (by omega), show n - k = (n - (k + 1)) + 1 by omega]
    show mrk f n k + lss f n k * fac (n - 1 - k) + trk f n (n - (k + 1)) = mrk f n k + (lss f n (n - 1 - (n - (k + 1))) * fac (n - (k + 1)) + trk f n (n - (k + 1)))
    rw [show n - 1 - (n - (k + 1)) = k by omega, show n - 1 - k = n - (k + 1) by omega]
    omega
theorem trk_hrk (f : Nat → Nat) (n : Nat) : trk f n n = hrk f n n := by
  have := mrk_trk f n n (Nat.le_refl _)
  rw [Nat.sub_self] at this
  rw [← mrk_eq]
  exact this.symm
theorem hrk_lt (f : Nat → Nat) (n : Nat) : hrk f n n < fac n := by
  rw [← trk_hrk]; exact trk_lt f n n (Nat.le_refl _)
theorem trk_div (f : Nat → Nat) {n t : Nat} (h : t < n) : trk f n (t + 1) / fac t = lss f n (n - 1 - t) ∧ trk f n (t + 1) % fac t = trk f n t := by
  have h1 := trk_lt f n t (by omega)
  show (lss f n (n - 1 - t) * fac t + trk f n t) / fac t = _ ∧ (lss f n (n - 1 - t) * fac t + trk f n t) % fac t = _
  rw [Nat.mul_comm]
  refine ⟨?_, ?_⟩
  · rw [Nat.mul_add_div (fac_pos t), Nat.div_eq_of_lt h1, Nat.add_zero]
  · rw [Nat.mul_add_mod, Nat.mod_eq_of_lt h1]
/-- which bells below a place's own one stand behind it: all that don't stand ahead -/
theorem lss_free {n : Nat} {a : Nat → Nat} (h : Prm n a) {j : Nat} (hj : j < n) {F : Nat → Nat} (h0 : ∀ q, q < j → F (a q) = 0) (h1 : ∀ q, j ≤ q → q < n → F (a q) = 1) : sm F (a j) = lss a n j := by
  rw [sm_prm h F (a j) (Nat.le_of_lt (h.1 j hj))]
  refine sm_congr (fun q hq => ?_)
  by_cases c : a q < a j
  · rw [if_pos c]
    by_cases c2 : j < q
    · rw [h1 q (by omega) hq, lsf1 c2 c]
    · have c3 : q ≠ j := fun e => by rw [e] at c; omega
      rw [h0 q (by omega), lsf_le (by omega)]
  · rw [if_neg c, lsf0 (by omega)]
theorem lss_congr {a b : Nat → Nat} {n j : Nat} (hj : j < n) (h : ∀ i, i < n → a i = b i) : lss a n j = lss b n j := sm_congr (fun q hq => by unfold lsf; rw [h q hq, h j hj])
theorem hrk_congr {a b : Nat → Nat} {n : Nat} (h : ∀ i, i < n → a i = b i) : ∀ k, k ≤ n → hrk a n k = hrk b n k
  | 0, _ => rfl
  | k + 1, hk => by
    show hrk a n k * (n - k) + lss a n k = hrk b n k * (n - k) + lss b n k
    rw [hrk_congr h k (by omega), lss_congr (by omega) h]
theorem trk_dig {a b : Nat → Nat} {n : Nat} : ∀ t, t ≤ n → trk a n t = trk b n t → ∀ i, n - t ≤ i → i < n → lss a n i = lss b n i
  | 0, _, _, i, h1, h2 => absurd h1 (by omega)
  | t + 1, ht, e, i, h1, h2 => by
    have d1 := trk_div a (n := n) (t := t) (by omega)
    have d2 := trk_div b (n := n) (t := t) (by omega)
    rw [e] at d1
    by_cases c : i = n - 1 - t
    · rw [c, ← d1.1, d2.1]
    · exact trk_dig t (by omega) (by rw [← d1.2, d2.2]) i (by omega) h2
theorem hrk_inj {a b : Nat → Nat} {n : Nat} (ha : Prm n a) (hb : Prm n b) (e : hrk a n n = hrk b n n) : ∀ j, j < n → a j = b j := by
  have hd := trk_dig (a := a) (b := b) n (Nat.le_refl n) (by rw [trk_hrk, trk_hrk, e])
  intro j
  induction j using Nat.strongRecOn with
  | _ j ih =>
    intro hj
    have fa : ∀ (c : Nat → Nat), Prm n c → (∀ q, q < j → a q = c q) → sm (fun x => if ∃ q, q < j ∧ a q = x then 0 else 1) (c j) = lss c n j := fun c hc hq => by
      refine lss_free hc hj (fun q h => if_pos ⟨q, h, hq q h⟩) (fun q h1 h2 => if_neg (fun z => ?_))
      obtain ⟨x, hx, ex⟩ := z
      have := hc.2.1 x q (by omega) h2 ((hq x hx).symm.trans ex)
      omega
    have e1 := fa a ha (fun q _ => rfl)
    have e2 := fa b hb (fun q hq => ih q hq (by omega))
    rw [hd j (by omega) hj, ← e2] at e1
    have mono : ∀ x y, x < y → (¬ ∃ q, q < j ∧ a q = x) → sm (fun x => if ∃ q, q < j ∧ a q = x then 0 else 1) x < sm (fun x => if ∃ q, q < j ∧ a q = x then 0 else 1) y := by
      intro x y hxy hn
      rw [show y = (x + 1) + (y - (x + 1)) by omega, sm_add, sm_succ]
      have : (if ∃ q, q < j ∧ a q = x then 0 else 1) = 1 := if_neg hn
      omega
    rcases Nat.lt_trichotomy (a j) (b j) with c | c | c
    · have := mono _ _ c (fun z => by
        obtain ⟨x, hx, ex⟩ := z
        have := ha.2.1 x j (by omega) hj ex
        omega)
      omega
    · exact c
    · have := mono _ _ c (fun z => by
        obtain ⟨x, hx, ex⟩ := z
        have := hb.2.1 x j (by omega) hj ((ih x hx (by omega)).symm.trans ex)
        omega)
      omega
