/-- a proposition as a truth value -/
noncomputable def bx_b (p : Prop) : Bool := @decide p (Classical.propDecidable p)
theorem bx_iff {p : Prop} : bx_b p = true ↔ p := by unfold bx_b; exact @decide_eq_true_iff p (Classical.propDecidable p)
theorem bx_neg {p : Prop} : bx_b p = false ↔ ¬ p := by unfold bx_b; exact @decide_eq_false_iff_not p (Classical.propDecidable p)
theorem bx_eq {p : Prop} {b : Bool} (h : p ↔ b = true) : bx_b p = b := by
  cases b with
  | true => exact bx_iff.mpr (h.mpr rfl)
  | false => exact bx_neg.mpr (fun q => by have := h.mp q; simp at this)
theorem bx_congr {p q : Prop} (h : p ↔ q) : bx_b p = bx_b q := bx_eq (h.trans bx_iff.symm)
theorem bl_eq {a b : Bool} (h : a = true ↔ b = true) : a = b := by cases a <;> cases b <;> simp_all
/-- a truth value as an int of the machine -/
def b01 (b : Bool) : Int32 := if b = true then nI 1 else nI 0
theorem b01_t : b01 true = nI 1 := rfl
theorem b01_f : b01 false = nI 0 := rfl
theorem b01_or (b : Bool) : b01 b = nI 0 ∨ b01 b = nI 1 := by cases b <;> simp [b01]
theorem b01_ne {b : Bool} : ¬ b01 b = 0 ↔ b = true := by cases b <;> decide
theorem b01_eq {b : Bool} : b01 b = 0 ↔ b = false := by cases b <;> decide
/-- pigeons -/
theorem ph_h : ∀ (m : Nat) (f : Nat → Nat), (∀ i, i < m + 1 → f i < m) → ∃ i j, i < j ∧ j < m + 1 ∧ f i = f j := by
  intro m
  induction m with
  | zero => intro f h; exact absurd (h 0 (by omega)) (by omega)
  | succ m ih =>
    intro f h
    by_cases hx : ∃ i, i < m + 1 ∧ f i = f (m + 1)
    · obtain ⟨i, h1, h2⟩ := hx
      exact ⟨i, m + 1, h1, by omega, h2⟩
    · have hx' : ∀ i, i < m + 1 → f i ≠ f (m + 1) := fun i hi e => hx ⟨i, hi, e⟩
      have hc := h (m + 1) (by omega)
      obtain ⟨i, j, h1, h2, h3⟩ := ih (fun i => if f (m + 1) < f i then f i - 1 else f i) (fun i hi => by
        have a1 := h i (by omega)
        have a2 := hx' i hi
        try dsimp only
        split <;> omega)
      refine ⟨i, j, h1, by omega, ?_⟩
      have a1 := hx' i (by omega)
      have a2 := hx' j h2
      try dsimp only at h3
      split at h3 <;> split at h3 <;> omega
/-- the k-th above -/
def an_k (p : Nat → Nat) : Nat → Nat → Nat
  | 0, v => v
  | k + 1, v => an_k p k (p v)
theorem an_s (p : Nat → Nat) : ∀ (k v : Nat), an_k p (k + 1) v = p (an_k p k v) := by
  intro k
  induction k with
  | zero => intro v; rfl
  | succ k ih => intro v; exact ih (p v)
theorem an_add (p : Nat → Nat) : ∀ (i k v : Nat), an_k p (i + k) v = an_k p k (an_k p i v) := by
  intro i
  induction i with
  | zero => intro k v; rw [Nat.zero_add]; rfl
  | succ i ih => intro k v; rw [show i + 1 + k = (i + k) + 1 by omega]; exact ih k (p v)
/-- a tree: 100 stands for none; ranks fall upward -/
def tr_w (p : Nat → Nat) : Prop := (∀ v, p v ≤ 100) ∧ (∀ v, 100 ≤ v → p v = 100) ∧ ∃ ρ : Nat → Nat, ∀ v, v < 100 → p v < 100 → ρ (p v) < ρ v
/-- v lies on the way up from w -/
def ab_o (p : Nat → Nat) (w v : Nat) : Prop := ∃ k, an_k p k w = v
theorem ab_rf (p : Nat → Nat) (w : Nat) : ab_o p w w := ⟨0, rfl⟩
theorem ab_up {p : Nat → Nat} {w v : Nat} (h : ab_o p (p w) v) : ab_o p w v := by
  obtain ⟨k, h⟩ := h
  exact ⟨k + 1, h⟩
theorem ab_cs {p : Nat → Nat} {w v : Nat} : ab_o p w v ↔ w = v ∨ ab_o p (p w) v := by
  constructor
  · rintro ⟨k, h⟩
    cases k with
    | zero => exact Or.inl h
    | succ k => exact Or.inr ⟨k, h⟩
  · rintro (h | h)
    · exact ⟨0, h⟩
    · exact ab_up h
theorem ab_tr {p : Nat → Nat} {u v w : Nat} (h1 : ab_o p u v) (h2 : ab_o p v w) : ab_o p u w := by
  obtain ⟨i, h1⟩ := h1
  obtain ⟨k, h2⟩ := h2
  exact ⟨i + k, by rw [an_add, h1, h2]⟩
theorem an_out {p : Nat → Nat} (hp : ∀ v, 100 ≤ v → p v = 100) : ∀ (k v : Nat), 100 ≤ v → 100 ≤ an_k p k v := by
  intro k
  induction k with
  | zero => intro v h; exact h
  | succ k ih => intro v h; exact ih (p v) (by rw [hp v h]; exact Nat.le_refl _)
theorem ab_out {p : Nat → Nat} (hp : ∀ v, 100 ≤ v → p v = 100) {w v : Nat} (hw : 100 ≤ w) (hv : v < 100) : ¬ ab_o p w v := by
  rintro ⟨k, h⟩
  have := an_out hp k w hw
  omega
/-- no way up is longer than a hundred -/
theorem an_100 {p : Nat → Nat} (ht : tr_w p) (w : Nat) : 100 ≤ an_k p 100 w := by
  obtain ⟨-, hp, ρ, hρ⟩ := ht
  by_cases hx : 100 ≤ an_k p 100 w
  · exact hx
  · exfalso
    have hlt : ∀ i, i < 101 → an_k p i w < 100 := by
      intro i hi
      by_cases hi2 : an_k p i w < 100
      · exact hi2
      · exfalso
        have h1 := an_out hp (100 - i) (an_k p i w) (by omega)
        rw [← an_add, show i + (100 - i) = 100 by omega] at h1
        exact hx h1
    have hdec : ∀ d i, i + d < 101 → 0 < d → ρ (an_k p (i + d) w) < ρ (an_k p i w) := by
      intro d
      induction d with
      | zero => intro i _ h; omega
      | succ d ih =>
        intro i h _
        have h1 := hlt (i + d + 1) (by omega)
        rw [an_s] at h1
        have h2 := hρ (an_k p (i + d) w) (hlt (i + d) (by omega)) h1
        rw [show i + (d + 1) = i + d + 1 by omega, an_s]
        by_cases hd : d = 0
        · subst hd
          exact h2
        · have h3 := ih i (by omega) (by omega)
          omega
    obtain ⟨i, j, h1, h2, h3⟩ := ph_h 100 (fun i => an_k p i w) (fun i hi => hlt i hi)
    try dsimp only at h3
    have h4 := hdec (j - i) i (by omega) (by omega)
    rw [show i + (j - i) = j by omega, h3] at h4
    omega
/-- a value put below another one that doesn't lie at or below it -/
theorem tr_set {p : Nat → Nat} (ht : tr_w p) {v b : Nat} (hv : v < 100) (hb : b ≤ 100) (hr : b < 100 → ¬ ab_o p b v) : tr_w (fun u => if u = v then b else p u) := by
  obtain ⟨h1, h2, ρ, hρ⟩ := ht
  refine ⟨fun u => ?_, fun u hu => ?_, fun u => if bx_b (ab_o p u v) = true then ρ u + ρ b + 1 else ρ u, fun u hu hpu => ?_⟩
  · dsimp only
    split
    · exact hb
    · exact h1 u
  · dsimp only
    rw [if_neg (by omega)]
    exact h2 u hu
  · dsimp only at hpu ⊢
    by_cases e : u = v
    · subst e
      rw [if_pos rfl] at hpu ⊢
      rw [if_neg (fun q => hr hpu (bx_iff.mp q)), if_pos (bx_iff.mpr (ab_rf p u))]
      omega
    · rw [if_neg e] at hpu ⊢
      have h3 := hρ u hu hpu
      have h4 : ab_o p u v ↔ ab_o p (p u) v := by
        rw [ab_cs]
        constructor
        · rintro (h | h)
          · exact absurd h e
          · exact h
        · exact Or.inr
      rw [bx_congr h4]
      split <;> omega
/-- the abstract state: how many records, how many values; who has what; the trees; the hits; the chosen -/
abbrev ab_T : Type := (Nat × Nat) × (Nat → Nat → Nat → Bool) × (Nat → Nat → Nat) × (Nat → Bool) × (Nat → Nat → Bool)
abbrev a_n (a : ab_T) : Nat := a.1.1
abbrev a_v (a : ab_T) : Nat := a.1.2
abbrev a_own (a : ab_T) : Nat → Nat → Nat → Bool := a.2.1
abbrev a_par (a : ab_T) : Nat → Nat → Nat := a.2.2.1
abbrev a_hit (a : ab_T) : Nat → Bool := a.2.2.2.1
abbrev a_cho (a : ab_T) : Nat → Nat → Bool := a.2.2.2.2
def a_has (a : ab_T) (r f v : Nat) : Prop := ∃ w, w < 100 ∧ a_own a r f w = true ∧ ab_o (a_par a f) w v
def a_left (a : ab_T) (r : Nat) : Prop := a_hit a r = true ∧ ∀ f, f < 6 → (∃ v, v < 100 ∧ a_cho a f v = true) → ∃ v, v < 100 ∧ a_cho a f v = true ∧ a_has a r f v
def a_wf (a : ab_T) : Prop := a_n a ≤ 60 ∧ a_v a ≤ 400 ∧ (∀ r f v, a_own a r f v = true → 1 ≤ r ∧ r ≤ a_n a) ∧ (∀ r, a_hit a r = true → 1 ≤ r ∧ r ≤ a_n a) ∧ ∀ f, tr_w (a_par a f)
/-- a parent as the machine holds it -/
def en_p (u : Nat) : Int32 := if u < 100 then nI u else -1
theorem en_in {u : Nat} (h : u < 100) : en_p u = nI u := if_pos h
theorem en_no {u : Nat} (h : 100 ≤ u) : en_p u = -1 := if_neg (by omega)
theorem nI_m1 {j : Nat} (h : j < 2 ^ 31) : ¬ nI j = -1 := by
  intro e
  have h1 := nI_toInt h
  rw [e] at h1
  have h2 : (-1 : Int32).toInt = -1 := by decide
  omega
theorem en_m1 {u : Nat} : en_p u = -1 ↔ 100 ≤ u := by
  constructor
  · intro h
    rcases Nat.lt_or_ge u 100 with q | q
    · rw [en_in q] at h
      exact absurd h (nI_m1 (by omega))
    · exact q
  · exact en_no
theorem en_val {u : Nat} : (∃ j, j < 100 ∧ en_p u = nI j) ↔ u < 100 := by
  constructor
  · rintro ⟨j, h1, h2⟩
    rcases Nat.lt_or_ge u 100 with q | q
    · exact q
    · rw [en_no q] at h2
      exact absurd h2.symm (nI_m1 (by omega))
  · intro h
    exact ⟨u, h, en_in h⟩
theorem en_eq {u v : Nat} (hu : u ≤ 100) (hv : v ≤ 100) : en_p u = en_p v ↔ u = v := by
  constructor
  · intro h
    rcases Nat.lt_or_ge u 100 with q | q
    · rcases Nat.lt_or_ge v 100 with z | z
      · rw [en_in q, en_in z] at h
        exact (nI_eq (by omega) (by omega)).mp h
      · rw [en_no z] at h
        have := en_m1.mp h
        omega
    · rw [en_no q] at h
      have := en_m1.mp h.symm
      omega
  · rintro rfl
    rfl
/-- a walk up that has come out has met all -/
theorem ra_end {p : Nat → Nat} (ht : tr_w p) {k v c : Nat} (hk : k = 100 ∨ 100 ≤ an_k p k v) (hc : c < 100) : (∃ j, j < k ∧ an_k p j v = c) ↔ ab_o p v c := by
  constructor
  · rintro ⟨j, -, h⟩
    exact ⟨j, h⟩
  · rintro ⟨i, h⟩
    rcases Nat.lt_or_ge i k with q | q
    · exact ⟨i, q, h⟩
    · exfalso
      have h1 : 100 ≤ an_k p k v := by
        rcases hk with e | e
        · rw [e]; exact an_100 ht v
        · exact e
      have h2 := an_out ht.2.1 (i - k) (an_k p k v) h1
      rw [← an_add, show k + (i - k) = i by omega, h] at h2
      omega
