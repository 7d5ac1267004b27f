/-! MORE OF PERMUTATIONS: what the calls make of them -/
theorem Prm.congr {n : Nat} {a b : Nat → Nat} (h : Prm n a) (e : ∀ i, i < n → a i = b i) : Prm n b :=
  ⟨fun i hi => by rw [← e i hi]; exact h.1 i hi, fun i j hi hj z => h.2.1 i j hi hj (by rw [e i hi, e j hj]; exact z), fun v hv => by
    obtain ⟨i, hi, z⟩ := h.2.2 v hv
    exact ⟨i, hi, by rw [← e i hi]; exact z⟩⟩
theorem Prm.comp {n : Nat} {a b : Nat → Nat} (ha : Prm n a) (hb : Prm n b) : Prm n (fun q => a (b q)) :=
  ⟨fun i hi => ha.1 _ (hb.1 i hi), fun i j hi hj z => hb.2.1 i j hi hj (ha.2.1 _ _ (hb.1 i hi) (hb.1 j hj) z), fun v hv => by
    obtain ⟨x, hx, e⟩ := ha.2.2 v hv
    obtain ⟨i, hi, e2⟩ := hb.2.2 x hx
    exact ⟨i, hi, by show a (b i) = v; rw [e2, e]⟩⟩
theorem Prm.id (n : Nat) : Prm n (fun i => i) := ⟨fun _ h => h, fun _ _ _ _ e => e, fun v hv => ⟨v, hv, rfl⟩⟩
theorem xch_at (f : Nat → Nat) (j i : Nat) : xch f j i = if i = j + 1 then f j else if i = j then f (j + 1) else f i := rfl
theorem xch_as (f : Nat → Nat) (j i : Nat) : xch f j i = f (if i = j + 1 then j else if i = j then j + 1 else i) := by
  rw [xch_at]
  by_cases h : i = j + 1
  · rw [if_pos h, if_pos h]
  · rw [if_neg h, if_neg h]
    by_cases h2 : i = j
    · rw [if_pos h2, if_pos h2]
    · rw [if_neg h2, if_neg h2]
theorem Prm.tr {n j : Nat} (h : j + 1 < n) : Prm n (fun i => if i = j + 1 then j else if i = j then j + 1 else i) :=
  ⟨fun i hi => by
    show (if i = j + 1 then j else if i = j then j + 1 else i) < n
    split
    · omega
    · split <;> omega, fun x y hx hy e => by
    have e : (if x = j + 1 then j else if x = j then j + 1 else x) = (if y = j + 1 then j else if y = j then j + 1 else y) := e
    by_cases a1 : x = j + 1 <;> by_cases a2 : x = j <;> by_cases b1 : y = j + 1 <;> by_cases b2 : y = j <;> simp only [a1, a2, b1, b2, if_true, if_false, if_pos, if_neg] at e <;> first | omega | (split at e <;> omega), fun v hv => by
    by_cases a1 : v = j
    · exact ⟨j + 1, h, by show (if j + 1 = j + 1 then j else _) = v; rw [if_pos rfl, a1]⟩
    · by_cases a2 : v = j + 1
      · exact ⟨j, by omega, by show (if j = j + 1 then j else if j = j then j + 1 else j) = v; rw [if_neg (by omega), if_pos rfl, a2]⟩
      · exact ⟨v, hv, by show (if v = j + 1 then j else if v = j then j + 1 else v) = v; rw [if_neg a2, if_neg a1]⟩⟩
theorem Prm.xch {n j : Nat} {f : Nat → Nat} (h : Prm n f) (hj : j + 1 < n) : Prm n (xch f j) := (h.comp (Prm.tr hj)).congr (fun i _ => (xch_as f j i).symm)
theorem Prm.rst {k n : Nat} : ∀ (u i : Nat) (f : Nat → Nat), Prm n f → Prm n (rst k n u i f)
  | 0, _, _, h => h
  | u + 1, i, f, h => by
    by_cases c : i + 1 < n
    · by_cases b : bitN k i = 1
      · rw [rst_k c b]; exact Prm.rst u _ _ h
      · rw [rst_x c (by have := bitN_lt k i; omega)]; exact Prm.rst u _ _ (h.xch c)
    · rw [rst_end (by omega)]; exact h
theorem xch_congr {n j : Nat} {f g : Nat → Nat} (hj : j + 1 < n) (e : ∀ i, i < n → f i = g i) : ∀ i, i < n → xch f j i = xch g j i := fun i hi => by
  rw [xch_as, xch_as]
  exact e _ (by split <;> (try split) <;> omega)
theorem rst_congr {k n : Nat} : ∀ (u i : Nat) (f g : Nat → Nat), (∀ x, x < n → f x = g x) → ∀ x, x < n → rst k n u i f x = rst k n u i g x
  | 0, _, _, _, e => e
  | u + 1, i, f, g, e => by
    by_cases c : i + 1 < n
    · by_cases b : bitN k i = 1
      · rw [rst_k c b, rst_k c b]; exact rst_congr u _ _ _ e
      · have b0 : bitN k i = 0 := by have := bitN_lt k i; omega
        rw [rst_x c b0, rst_x c b0]; exact rst_congr u _ _ _ (xch_congr c e)
    · rw [rst_end (by omega), rst_end (by omega)]; exact e
theorem xch_bd {f : Nat → Nat} {j b : Nat} (h : ∀ i, f i < b) (i : Nat) : xch f j i < b := by rw [xch_as]; exact h _
theorem rst_bd {k n b : Nat} : ∀ (u i : Nat) (f : Nat → Nat), (∀ x, f x < b) → ∀ x, rst k n u i f x < b
  | 0, _, _, h => h
  | u + 1, i, f, h => by
    by_cases c : i + 1 < n
    · by_cases q : bitN k i = 1
      · rw [rst_k c q]; exact rst_bd u _ _ h
      · rw [rst_x c (by have := bitN_lt k i; omega)]; exact rst_bd u _ _ (xch_bd h)
    · rw [rst_end (by omega)]; exact h
/-- rung on by so many steps -/
def rgs (kf : Nat → Nat) (st n : Nat) (f : Nat → Nat) : Nat → (Nat → Nat)
  | 0 => f
  | k + 1 => rst (kf (k % st)) n n 0 (rgs kf st n f k)
theorem Prm.rgs {kf : Nat → Nat} {st n : Nat} {f : Nat → Nat} (h : Prm n f) : ∀ k, Prm n (rgs kf st n f k)
  | 0 => h
  | k + 1 => Prm.rst _ _ _ (Prm.rgs h k)
theorem rgs_congr {kf : Nat → Nat} {st n : Nat} {f g : Nat → Nat} (e : ∀ x, x < n → f x = g x) : ∀ k x, x < n → rgs kf st n f k x = rgs kf st n g k x
  | 0, x, hx => e x hx
  | k + 1, x, hx => rst_congr _ _ _ _ (rgs_congr e k) x hx
theorem rgs_bd {kf : Nat → Nat} {st n b : Nat} {f : Nat → Nat} (h : ∀ x, f x < b) : ∀ k x, rgs kf st n f k x < b
  | 0, x => h x
  | k + 1, x => rst_bd _ _ _ (rgs_bd h k) x
theorem cpy_lt {f g : Nat → Nat} {t i : Nat} (h : i < t) : cpy f g t i = g i := if_pos h
theorem Prm.cpy {n : Nat} {f g : Nat → Nat} (h : Prm n g) : Prm n (cpy f g n) := h.congr (fun i hi => (cpy_lt hi).symm)
theorem cpy_bd {f g : Nat → Nat} {t b : Nat} (hf : ∀ i, f i < b) (hg : ∀ i, i < t → g i < b) (i : Nat) : cpy f g t i < b := by
  unfold cpy
  split
  · exact hg i (by assumption)
  · exact hf i
theorem cpy_eq {f g g' : Nat → Nat} {t : Nat} (h : ∀ i, i < t → g i = g' i) : cpy f g t = cpy f g' t := by
  funext i
  unfold cpy
  by_cases c : i < t
  · rw [if_pos c, if_pos c, h i c]
  · rw [if_neg c, if_neg c]
theorem cpy_cpy (f m g : Nat → Nat) (t : Nat) : cpy f (cpy m g t) t = cpy f g t := cpy_eq (fun _ h => cpy_lt h)
theorem pos_lt {n : Nat} {g : Nat → Nat} (h : Prm n g) {v : Nat} (hv : v < n) : pos g n v < n ∧ g (pos g n v) = v := by
  obtain ⟨i, hi, e⟩ := h.2.2 v hv
  obtain ⟨h1, h2, h3⟩ := fnd_spec (fun i => g i == v) n
  have hlt : fnd (fun i => g i == v) n < n := by
    rcases Nat.lt_or_ge (fnd (fun i => g i == v) n) n with c | c
    · exact c
    · have := h2 i (by omega)
      simp [e] at this
  have h4 := h3 hlt
  exact ⟨hlt, by unfold pos; simpa using h4⟩
theorem Prm.pos {n : Nat} {g : Nat → Nat} (h : Prm n g) : Prm n (pos g n) :=
  ⟨fun v hv => (pos_lt h hv).1, fun v w hv hw e => by rw [← (pos_lt h hv).2, ← (pos_lt h hw).2, e], fun i hi => ⟨g i, h.1 i hi, h.2.1 _ _ (pos_lt h (h.1 i hi)).1 hi (pos_lt h (h.1 i hi)).2⟩⟩
theorem Prm.bck {n : Nat} {f g : Nat → Nat} (h : Prm n g) : Prm n (bck f g n) := (Prm.pos h).congr (fun _ hv => (bck_inv h hv).symm)
theorem Prm.it {n : Nat} {g : Nat → Nat} (h : Prm n g) : ∀ k, Prm n (it g k)
  | 0 => Prm.id n
  | k + 1 => h.comp (Prm.it h k)
theorem rpF_it {n : Nat} {g : Nat → Nat} (h : Prm n g) (t : Nat) {i : Nat} (hi : i < n) : rpF g n t i = it g t i := (it_mod (per_it h hi) t).symm
theorem Prm.rpF {n : Nat} {g : Nat → Nat} (h : Prm n g) (t : Nat) : Prm n (rpF g n t) := (Prm.it h t).congr (fun i hi => (rpF_it h t hi).symm)
/-! the row of a rank -/
def bmp (v x : Nat) : Nat := if v ≤ x then x + 1 else x
theorem bmp_lt {v x y : Nat} : bmp v x < bmp v y ↔ x < y := by
  unfold bmp
  by_cases a : v ≤ x <;> by_cases b : v ≤ y
  · rw [if_pos a, if_pos b]; omega
  · rw [if_pos a, if_neg b]; omega
  · rw [if_neg a, if_pos b]; omega
  · rw [if_neg a, if_neg b]
theorem bmp_v {v x : Nat} : bmp v x < v ↔ x < v := by
  unfold bmp
  by_cases a : v ≤ x
  · rw [if_pos a]; omega
  · rw [if_neg a]
theorem bmp_ne {v x : Nat} : bmp v x ≠ v := by
  unfold bmp
  by_cases a : v ≤ x
  · rw [if_pos a]; omega
  · rw [if_neg a]; omega
theorem bmp_inj {v x y : Nat} (h : bmp v x = bmp v y) : x = y := by
  rcases Nat.lt_trichotomy x y with c | c | c
  · have := (bmp_lt (v := v)).mpr c; omega
  · exact c
  · have := (bmp_lt (v := v)).mpr c; omega
theorem srG_0 {f : Nat → Nat} {n rk t : Nat} : srG f n rk (t + 1) (n - (t + 1)) = srR rk t % (t + 1) := if_pos rfl
theorem srG_s {f : Nat → Nat} {n rk t q : Nat} (h1 : n - (t + 1) < q) (h2 : q < n) : srG f n rk (t + 1) q = bmp (srR rk t % (t + 1)) (srG f n rk t q) := by
  show insA (srG f n rk t) n (n - (t + 1)) (srR rk t % (t + 1)) q = _
  unfold insA bmp
  rw [if_neg (by omega)]
  by_cases c : srR rk t % (t + 1) ≤ srG f n rk t q
  · rw [if_pos ⟨h1, h2, c⟩, if_pos c]
  · rw [if_neg (fun z => c z.2.2), if_neg c]
theorem srG_prm {f : Nat → Nat} {n rk : Nat} : ∀ t, t ≤ n → Prm t (fun i => srG f n rk t (n - t + i))
  | 0, _ => ⟨fun i h => absurd h (Nat.not_lt_zero _), fun i _ h => absurd h (Nat.not_lt_zero _), fun v h => absurd h (Nat.not_lt_zero _)⟩
  | t + 1, ht => by
    have ih := srG_prm (f := f) (n := n) (rk := rk) t (by omega)
    have hv : srR rk t % (t + 1) < t + 1 := Nat.mod_lt _ (by omega)
    have e0 : srG f n rk (t + 1) (n - (t + 1) + 0) = srR rk t % (t + 1) := srG_0
    have es : ∀ i, i < t → srG f n rk (t + 1) (n - (t + 1) + (i + 1)) = bmp (srR rk t % (t + 1)) (srG f n rk t (n - t + i)) := fun i hi => by
      rw [srG_s (by omega) (by omega), show n - (t + 1) + (i + 1) = n - t + i by omega]
    generalize srR rk t % (t + 1) = v at hv e0 es
    refine ⟨fun i hi => ?_, fun i j hi hj e => ?_, fun w hw => ?_⟩
    · cases i with
      | zero => show srG f n rk (t + 1) (n - (t + 1) + 0) < t + 1; rw [e0]; exact hv
      | succ i =>
        show srG f n rk (t + 1) (n - (t + 1) + (i + 1)) < t + 1
        rw [es i (by omega)]
        have : srG f n rk t (n - t + i) < t := ih.1 i (by omega)
        unfold bmp
        split <;> omega
    · have e : srG f n rk (t + 1) (n - (t + 1) + i) = srG f n rk (t + 1) (n - (t + 1) + j) := e
      cases i with
      | zero =>
        cases j with
        | zero => rfl
        | succ j => rw [e0, es j (by omega)] at e; exact absurd e.symm bmp_ne
      | succ i =>
        cases j with
        | zero => rw [e0, es i (by omega)] at e; exact absurd e bmp_ne
        | succ j =>
          rw [es i (by omega), es j (by omega)] at e
          rw [ih.2.1 i j (by omega) (by omega) (bmp_inj e)]
    · rcases Nat.lt_trichotomy w v with c | c | c
      · obtain ⟨i, hi, e⟩ := ih.2.2 w (by omega)
        have e : srG f n rk t (n - t + i) = w := e
        refine ⟨i + 1, by omega, ?_⟩
        show srG f n rk (t + 1) (n - (t + 1) + (i + 1)) = w
        rw [es i hi, e]; unfold bmp; rw [if_neg (by omega)]
      · exact ⟨0, by omega, by show srG f n rk (t + 1) (n - (t + 1) + 0) = w; rw [e0, c]⟩
      · obtain ⟨i, hi, e⟩ := ih.2.2 (w - 1) (by omega)
        have e : srG f n rk t (n - t + i) = w - 1 := e
        refine ⟨i + 1, by omega, ?_⟩
        show srG f n rk (t + 1) (n - (t + 1) + (i + 1)) = w
        rw [es i hi, e]; unfold bmp; rw [if_pos (by omega)]; omega
theorem srG_dig {f : Nat → Nat} {n rk : Nat} : ∀ t, t ≤ n → ∀ j, n - t ≤ j → j < n → lss (srG f n rk t) n j = srR rk (n - 1 - j) % (n - j)
  | 0, _, j, h1, h2 => absurd h1 (by omega)
  | t + 1, ht, j, h1, h2 => by
    by_cases c : j = n - (t + 1)
    · have hv : srR rk t % (t + 1) ≤ t := Nat.le_of_lt_succ (Nat.mod_lt _ (by omega))
      have hp := srG_prm (f := f) (rk := rk) t (by omega : t ≤ n)
      rw [show n - 1 - j = t by omega, show n - j = t + 1 by omega]
      have e : sm (lsf (srG f n rk (t + 1)) j) n = sm (lsf (srG f n rk (t + 1)) j) (n - t) + sm (fun i => lsf (srG f n rk (t + 1)) j (n - t + i)) t := by
        rw [← sm_add, show n - t + t = n by omega]
      show sm (lsf (srG f n rk (t + 1)) j) n = _
      rw [e, sm_zero (fun q hq => lsf_le (by omega)), Nat.zero_add]
      refine Eq.trans (sm_congr (fun i hi => ?_)) (sm_prm1 hp hv)
      show lsf (srG f n rk (t + 1)) j (n - t + i) = if srG f n rk t (n - t + i) < srR rk t % (t + 1) then 1 else 0
      unfold lsf
      rw [c, srG_0, srG_s (by omega) (by omega)]
      by_cases d : srG f n rk t (n - t + i) < srR rk t % (t + 1)
      · rw [if_pos ⟨by omega, bmp_v.mpr d⟩, if_pos d]
      · rw [if_neg (fun z => d (bmp_v.mp z.2)), if_neg d]
    · rw [← srG_dig t (by omega) j (by omega) h2]
      refine sm_congr (fun q hq => ?_)
      unfold lsf
      by_cases d : j < q
      · rw [srG_s (by omega) hq, srG_s (by omega) h2]
        by_cases z : srG f n rk t q < srG f n rk t j
        · rw [if_pos ⟨d, bmp_lt.mpr z⟩, if_pos ⟨d, z⟩]
        · rw [if_neg (fun y => z (bmp_lt.mp y.2)), if_neg (fun y => z y.2)]
      · rw [if_neg (fun y => d y.1), if_neg (fun y => d y.1)]
theorem srR_fac (rk : Nat) : ∀ t, srR rk t * fac t ≤ rk
  | 0 => by show rk * 1 ≤ rk; omega
  | t + 1 => by
    show srR rk t / (t + 1) * ((t + 1) * fac t) ≤ rk
    rw [← Nat.mul_assoc]
    exact Nat.le_trans (Nat.mul_le_mul_right _ (Nat.div_mul_le_self _ _)) (srR_fac rk t)
theorem srG_hrk {f : Nat → Nat} {n rk : Nat} (h : rk < fac n) : Prm n (srG f n rk n) ∧ hrk (srG f n rk n) n n = rk := by
  refine ⟨(srG_prm n (Nat.le_refl _)).congr (fun i _ => by rw [Nat.sub_self, Nat.zero_add]), ?_⟩
  have key : ∀ k, k ≤ n → hrk (srG f n rk n) n k = srR rk (n - k) := by
    intro k
    induction k with
    | zero =>
      intro _
      have h1 := srR_fac rk n
      show 0 = srR rk n
      rcases Nat.eq_zero_or_pos (srR rk n) with c | c
      · exact c.symm
      · have := Nat.mul_le_mul_right (fac n) c
        omega
    | succ k ih =>
      intro hk
      show hrk (srG f n rk n) n k * (n - k) + lss (srG f n rk n) n k = srR rk (n - (k + 1))
      rw [ih (by omega), srG_dig n (Nat.le_refl _) k (by omega) (by omega), show n - 1 - k = n - (k + 1) by omega]
      have e : srR rk (n - k) = srR rk (n - (k + 1)) / (n - k) := by
        have : n - k = n - (k + 1) + 1 := by omega
        rw [this]; rfl
      rw [e, Nat.mul_comm]
      exact Nat.div_add_mod _ _
  have := key n (Nat.le_refl _)
  rw [Nat.sub_self] at this
  exact this
theorem srG_bd8 {f : Nat → Nat} {n rk : Nat} (hn : n ≤ 8) (hf : ∀ i, f i < 8) (h : rk < fac n) (i : Nat) : srG f n rk n i < 8 := by
  by_cases c : i < n
  · have := (srG_hrk (f := f) h).1.1 i c; omega
  · have key : ∀ t, t ≤ n → srG f n rk t i = f i := by
      intro t
      induction t with
      | zero => intro _; rfl
      | succ t ih =>
        intro ht
        show insA (srG f n rk t) n (n - (t + 1)) (srR rk t % (t + 1)) i = f i
        unfold insA
        by_cases d : i = n - (t + 1)
        · omega
        · rw [if_neg d, if_neg (fun z => absurd z.2.1 (by omega))]; exact ih (by omega)
    rw [key n (Nat.le_refl _)]; exact hf i
theorem hrk_id {n : Nat} : hrk (fun i => i) n n = 0 := by
  have h0 : ∀ j, lss (fun i => i) n j = 0 := fun j => sm_zero (fun q _ => by
    unfold lsf
    rw [if_neg (fun z => absurd z.1 (Nat.not_lt.mpr (Nat.le_of_lt (show q < j from z.2))))])
  have : ∀ k, hrk (fun i => i) n k = 0 := by
    intro k
    induction k with
    | zero => rfl
    | succ k ih => show hrk (fun i => i) n k * (n - k) + lss (fun i => i) n k = 0; rw [ih, h0, Nat.zero_mul]
  exact this n
