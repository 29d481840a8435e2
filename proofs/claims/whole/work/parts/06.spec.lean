/-- how many stand before v: more frequent ones, and of the same frequency those with a smaller number -/
def rk_b (c : Nat → Nat) (v : Nat) : Nat := ct_n (fun w => decide (c v < c w) || (decide (c w = c v) && decide (w < v))) 100
theorem rk_lt {c : Nat → Nat} {u v : Nat} (hu : u < 100) (h : c v < c u ∨ (c u = c v ∧ u < v)) : rk_b c u < rk_b c v := by
  refine ct_lt (k := u) (fun i _ hi => ?_) hu (by simp) (by simpa using h)
  simp only [Bool.or_eq_true, Bool.and_eq_true, decide_eq_true_eq] at hi ⊢
  omega
theorem rk_inj {c : Nat → Nat} {u v : Nat} (hu : u < 100) (hv : v < 100) (h : rk_b c u = rk_b c v) : u = v := by
  rcases Nat.lt_trichotomy (c u) (c v) with q | q | q
  · have := rk_lt (c := c) (u := v) (v := u) hv (Or.inl q)
    omega
  · rcases Nat.lt_trichotomy u v with z | z | z
    · have := rk_lt (c := c) (u := u) (v := v) hu (Or.inr ⟨q, z⟩)
      omega
    · exact z
    · have := rk_lt (c := c) (u := v) (v := u) hv (Or.inr ⟨q.symm, z⟩)
      omega
  · have := rk_lt (c := c) (u := u) (v := v) hu (Or.inl q)
    omega
theorem rk_le (c : Nat → Nat) (v : Nat) : rk_b c v ≤ 100 := ct_le _ _
/-- the answer: the value with just i before it, among those that are counted at all -/
def rk_res (c : Nat → Nat) (i r : Int32) : Prop := (∃ v, v < 100 ∧ 0 < c v ∧ nI (rk_b c v) = i ∧ r = nI v) ∨ (r = -1 ∧ ∀ v, v < 100 → 0 < c v → ¬ nI (rk_b c v) = i)
theorem rk_fun {c : Nat → Nat} {i r s : Int32} (h1 : rk_res c i r) (h2 : rk_res c i s) : r = s := by
  rcases h1 with ⟨u, hu, hu0, hui, rfl⟩ | ⟨rfl, h1⟩
  · rcases h2 with ⟨v, hv, hv0, hvi, rfl⟩ | ⟨rfl, h2⟩
    · have e : rk_b c u = rk_b c v := (nI_eq (by have := rk_le c u; omega) (by have := rk_le c v; omega)).mp (hui.trans hvi.symm)
      rw [rk_inj hu hv e]
    · exact absurd hui (h2 u hu hu0)
  · rcases h2 with ⟨v, hv, hv0, hvi, rfl⟩ | ⟨rfl, h2⟩
    · exact absurd hvi (h1 v hv hv0)
    · rfl
theorem rk_congr {c d : Nat → Nat} {i r : Int32} (h : ∀ v, v < 100 → c v = d v) (hr : rk_res c i r) : rk_res d i r := by
  have hb : ∀ v, v < 100 → rk_b c v = rk_b d v := fun v hv => ct_congr (fun w hw => by rw [h v hv, h w hw])
  rcases hr with ⟨v, hv, h0, hi, rfl⟩ | ⟨rfl, h1⟩
  · exact Or.inl ⟨v, hv, by rw [← h v hv]; exact h0, by rw [← hb v hv]; exact hi, rfl⟩
  · exact Or.inr ⟨rfl, fun v hv h0 => by rw [← hb v hv]; exact h1 v hv (by rw [h v hv]; exact h0)⟩
/-- going down the counts: how many were passed at (m, v) -/
def rk_p (c : Nat → Nat) (m v : Nat) : Nat := ct_n (fun w => decide (m < c w) || (decide (c w = m) && decide (w < v))) 100
theorem rk_p0 {c : Nat → Nat} (h : ∀ v, v < 100 → c v ≤ 60) : rk_p c 60 0 = 0 := ct_zero (fun w hw => by have := h w hw; simp; omega)
theorem rk_pb {c : Nat → Nat} {m v : Nat} (h : c v = m) : rk_p c m v = rk_b c v := by subst h; rfl
theorem rk_pt {c : Nat → Nat} {m v : Nat} (hv : v < 100) (h : c v = m) : rk_p c m (v + 1) = rk_p c m v + 1 := by
  refine ct_up hv (by simp [h]) (by simp [h]) (fun w _ hw => ?_)
  have : decide (w < v + 1) = decide (w < v) := by simp; omega
  rw [this]
theorem rk_pf {c : Nat → Nat} {m v : Nat} (h : ¬ c v = m) : rk_p c m (v + 1) = rk_p c m v := by
  refine ct_congr (fun w _ => ?_)
  by_cases e : w = v
  · subst e
    simp [h]
  · have : decide (w < v + 1) = decide (w < v) := by simp; omega
    rw [this]
theorem rk_pn {c : Nat → Nat} {m : Nat} : rk_p c (m + 1) 100 = rk_p c m 0 := by
  refine ct_congr (fun w hw => ?_)
  rw [Bool.eq_iff_iff]
  simp
  omega
theorem rk_ple (c : Nat → Nat) (m v : Nat) : rk_p c m v ≤ 100 := ct_le _ _
/-- the largest that divides both -/
theorem gd_top {p a d : Nat} (ha : 0 < a) (h1 : p % d = 0) (h2 : a % d = 0) (hd : 0 < d) (h : ∀ e, d < e → e ≤ a → ¬ (p % e = 0 ∧ a % e = 0)) : d = Nat.gcd p a := by
  have g1 : d ∣ Nat.gcd p a := Nat.dvd_gcd (Nat.dvd_of_mod_eq_zero h1) (Nat.dvd_of_mod_eq_zero h2)
  have g2 : 0 < Nat.gcd p a := Nat.gcd_pos_of_pos_right p ha
  have g3 : d ≤ Nat.gcd p a := Nat.le_of_dvd g2 g1
  have g4 : Nat.gcd p a ≤ a := Nat.le_of_dvd ha (Nat.gcd_dvd_right p a)
  rcases Nat.lt_or_ge d (Nat.gcd p a) with q | q
  · exact absurd ⟨Nat.mod_eq_zero_of_dvd (Nat.gcd_dvd_left p a), Nat.mod_eq_zero_of_dvd (Nat.gcd_dvd_right p a)⟩ (h _ q g4)
  · omega
