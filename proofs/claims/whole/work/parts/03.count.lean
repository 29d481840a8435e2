/-- how many of the first n -/
def ct_n (p : Nat → Bool) : Nat → Nat
  | 0 => 0
  | n + 1 => ct_n p n + (if p n = true then 1 else 0)
theorem ct_le (p : Nat → Bool) (n : Nat) : ct_n p n ≤ n := by
  induction n with
  | zero => exact Nat.le_refl 0
  | succ n ih => simp only [ct_n]; split <;> omega
theorem ct_congr {p q : Nat → Bool} {n : Nat} (h : ∀ i, i < n → p i = q i) : ct_n p n = ct_n q n := by
  induction n with
  | zero => rfl
  | succ n ih => simp only [ct_n]; rw [ih (fun i hi => h i (by omega)), h n (by omega)]
theorem ct_zero {p : Nat → Bool} {n : Nat} (h : ∀ i, i < n → p i = false) : ct_n p n = 0 := by
  induction n with
  | zero => rfl
  | succ n ih => simp only [ct_n]; rw [ih (fun i hi => h i (by omega)), h n (by omega)]; rfl
theorem ct_mono {p q : Nat → Bool} {n : Nat} (h : ∀ i, i < n → p i = true → q i = true) : ct_n p n ≤ ct_n q n := by
  induction n with
  | zero => exact Nat.le_refl 0
  | succ n ih =>
    simp only [ct_n]
    have h1 := ih (fun i hi => h i (by omega))
    have h2 := h n (by omega)
    by_cases hp : p n = true
    · rw [if_pos hp, if_pos (h2 hp)]; omega
    · rw [if_neg hp]; split <;> omega
theorem ct_up {p q : Nat → Bool} {n k : Nat} (hk : k < n) (hp : p k = false) (hq : q k = true) (ho : ∀ i, i < n → i ≠ k → q i = p i) : ct_n q n = ct_n p n + 1 := by
  induction n with
  | zero => omega
  | succ n ih =>
    simp only [ct_n]
    by_cases hkn : k = n
    · subst hkn
      rw [ct_congr (p := q) (q := p) (fun i hi => ho i (by omega) (by omega)), hp, hq]
      simp
    · rw [ih (by omega) (fun i hi => ho i (by omega)), ho n (by omega) (by omega)]
      omega
theorem ct_lt {p q : Nat → Bool} {n k : Nat} (h : ∀ i, i < n → p i = true → q i = true) (hk : k < n) (hp : p k = false) (hq : q k = true) : ct_n p n < ct_n q n := by
  have h1 : ct_n (fun i => if i = k then true else p i) n = ct_n p n + 1 := ct_up hk hp (by simp) (fun i _ hi => by simp [hi])
  have h2 : ct_n (fun i => if i = k then true else p i) n ≤ ct_n q n := ct_mono (fun i hi hh => by
    by_cases hik : i = k
    · rw [hik]; exact hq
    · simp [hik] at hh; exact h i hi hh)
  omega
theorem ct_ext {p : Nat → Bool} {n m : Nat} (hm : n ≤ m) (h : ∀ i, n ≤ i → i < m → p i = false) : ct_n p m = ct_n p n := by
  induction m with
  | zero => have : n = 0 := by omega
            rw [this]
  | succ m ih =>
    by_cases hn : n = m + 1
    · rw [hn]
    · simp only [ct_n]
      rw [ih (by omega) (fun i h1 h2 => h i h1 (by omega)), h m (by omega) (by omega)]
      simp
theorem ct_pos {p : Nat → Bool} {n k : Nat} (hk : k < n) (hp : p k = true) : 0 < ct_n p n := by
  have h := ct_lt (p := fun _ => false) (q := p) (n := n) (k := k) (fun _ _ h => by simp at h) hk rfl hp
  omega
theorem ct_none {p : Nat → Bool} {n k : Nat} (h : ct_n p n = 0) (hk : k < n) : p k = false := by
  cases hp : p k with
  | false => rfl
  | true => have := ct_pos hk hp; omega
theorem ct_some {p : Nat → Bool} {n : Nat} (h : 0 < ct_n p n) : ∃ k, k < n ∧ p k = true := by
  induction n with
  | zero => simp [ct_n] at h
  | succ n ih =>
    by_cases hp : p n = true
    · exact ⟨n, by omega, hp⟩
    · simp only [ct_n, if_neg hp] at h
      obtain ⟨k, h1, h2⟩ := ih h
      exact ⟨k, by omega, h2⟩
theorem ct_succ (p : Nat → Bool) (n : Nat) : ct_n p (n + 1) = ct_n p n + (if p n = true then 1 else 0) := rfl
theorem ct_st {p : Nat → Bool} {n : Nat} (h : p n = true) : ct_n p (n + 1) = ct_n p n + 1 := by rw [ct_succ, if_pos h]
theorem ct_sf {p : Nat → Bool} {n : Nat} (h : p n = false) : ct_n p (n + 1) = ct_n p n := by rw [ct_succ, h]; rfl
/-- two that never hold together -/
theorem ct_or {p q r : Nat → Bool} {n : Nat} (hr : ∀ i, i < n → r i = (p i || q i)) (hd : ∀ i, i < n → p i = true → q i = false) : ct_n r n = ct_n p n + ct_n q n := by
  induction n with
  | zero => rfl
  | succ n ih =>
    simp only [ct_n]
    rw [ih (fun i hi => hr i (by omega)) (fun i hi => hd i (by omega)), hr n (by omega)]
    have h := hd n (by omega)
    cases hp : p n <;> cases hq : q n <;> simp_all <;> omega
theorem ct_shift (p : Nat → Bool) (a n : Nat) : ct_n p (a + n) = ct_n p a + ct_n (fun i => p (a + i)) n := by
  induction n with
  | zero => rfl
  | succ n ih =>
    rw [← Nat.add_assoc, ct_succ, ct_succ, ih]
    omega
/-- sums -/
def sm_n (f : Nat → Nat) : Nat → Nat
  | 0 => 0
  | n + 1 => sm_n f n + f n
theorem sm_congr {f g : Nat → Nat} {n : Nat} (h : ∀ i, i < n → f i = g i) : sm_n f n = sm_n g n := by
  induction n with
  | zero => rfl
  | succ n ih => simp only [sm_n]; rw [ih (fun i hi => h i (by omega)), h n (by omega)]
theorem sm_add (f g : Nat → Nat) (n : Nat) : sm_n (fun i => f i + g i) n = sm_n f n + sm_n g n := by
  induction n with
  | zero => rfl
  | succ n ih => simp only [sm_n]; rw [ih]; omega
theorem sm_ct (p : Nat → Bool) (n : Nat) : sm_n (fun i => if p i = true then 1 else 0) n = ct_n p n := by
  induction n with
  | zero => rfl
  | succ n ih => simp only [sm_n, ct_n]; rw [ih]
theorem sm_zero {f : Nat → Nat} {n : Nat} (h : ∀ i, i < n → f i = 0) : sm_n f n = 0 := by
  induction n with
  | zero => rfl
  | succ n ih => simp only [sm_n]; rw [ih (fun i hi => h i (by omega)), h n (by omega)]
theorem sm_one {f : Nat → Nat} {n k : Nat} (hk : k < n) (h : ∀ i, i < n → i ≠ k → f i = 0) : sm_n f n = f k := by
  induction n with
  | zero => omega
  | succ n ih =>
    simp only [sm_n]
    by_cases e : k = n
    · subst e
      rw [sm_zero (fun i hi => h i (by omega) (by omega))]
      omega
    · rw [ih (by omega) (fun i hi => h i (by omega)), h n (by omega) (by omega)]
      omega
/-- rows with a first mark and a number below m: counted by their numbers -/
theorem ct_rows (p : Nat → Bool) (g : Nat → Nat) (m n : Nat) (hg : ∀ k, k < n → g k < m) : sm_n (fun v => ct_n (fun k => p k && (g k == v)) n) m = ct_n p n := by
  induction n with
  | zero => exact sm_zero (fun _ _ => rfl)
  | succ n ih =>
    rw [ct_succ, ← ih (fun k hk => hg k (by omega)), show (fun v => ct_n (fun k => p k && (g k == v)) (n + 1)) = (fun v => ct_n (fun k => p k && (g k == v)) n + (if (p n && (g n == v)) = true then 1 else 0)) from rfl, sm_add]
    congr 1
    rw [sm_one (k := g n) (hg n (by omega))]
    · simp
    · intro i _ hi
      have : (g n == i) = false := by simpa using fun h => hi h.symm
      simp [this]
/-- a counter that goes up to N -/
theorem lp_up {P : Nat → Prop} (N : Nat) (h : ∀ k, k ≤ N → (k < N → P (k + 1)) → P k) : ∀ k, k ≤ N → P k := by
  have : ∀ d k, k + d = N → P k := by
    intro d
    induction d with
    | zero => intro k hk; exact h k (by omega) (fun q => by omega)
    | succ d ih => intro k hk; exact h k (by omega) (fun _ => ih (k + 1) (by omega))
  exact fun k hk => this (N - k) k (by omega)
/-- a counter that goes down -/
theorem lp_dn {P : Nat → Prop} (h : ∀ k, (∀ j, j + 1 = k → P j) → P k) : ∀ k, P k := by
  intro k
  induction k with
  | zero => exact h 0 (fun j q => by omega)
  | succ k ih => exact h (k + 1) (fun j q => by have : j = k := by omega
                                                rw [this]; exact ih)
/-- a measure that falls -/
theorem lp_ms {α : Type} {P : α → Prop} (μ : α → Nat) (h : ∀ x, (∀ y, μ y < μ x → P y) → P x) : ∀ x, P x := by
  have : ∀ n x, μ x < n → P x := by
    intro n
    induction n with
    | zero => intro x hx; omega
    | succ n ih => intro x hx; exact h x (fun y hy => ih y (by omega))
  exact fun x => this (μ x + 1) x (by omega)
