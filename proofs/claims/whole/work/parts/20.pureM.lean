theorem ct_one {p p2 : Nat → Bool} {N k : Nat} (hk : k < N) (h : ∀ i, i < N → i ≠ k → p2 i = p i) : ct_n p2 N + (if p k = true then 1 else 0) = ct_n p N + (if p2 k = true then 1 else 0) := by
  cases hp : p k <;> cases hp2 : p2 k
  · rw [ct_congr (p := p2) (q := p) (fun i hi => by
      by_cases e : i = k
      · rw [e, hp, hp2]
      · exact h i hi e)]
    try rfl
  · rw [ct_up hk hp hp2 h]
    simp
  · rw [ct_up (p := p2) (q := p) hk hp2 hp (fun i hi e => (h i hi e).symm)]
    simp
  · rw [ct_congr (p := p2) (q := p) (fun i hi => by
      by_cases e : i = k
      · rw [e, hp, hp2]
      · exact h i hi e)]
theorem ct_swap {α : Type} (R : Nat → α) (g : α → Bool) (N k : Nat) (hk : k ≤ N) : ct_n (fun i => g (if i = k then R N else R i)) N + (if g (R k) = true then 1 else 0) = ct_n (fun i => g (R i)) (N + 1) := by
  rw [ct_succ]
  by_cases e : k = N
  · subst e
    rw [ct_congr (q := fun i => g (R i)) (fun i hi => by rw [if_neg (by omega)])]
  · have h := ct_one (p := fun i => g (R i)) (p2 := fun i => g (if i = k then R N else R i)) (N := N) (k := k) (by omega) (fun i _ hi => by rw [if_neg hi])
    rw [if_pos rfl] at h
    exact h
/-- who has it stands in a row, and the other way round -/
theorem pm_own {a : ab_T} {R : Nat → Nat × Nat × Nat} {τ : sm_T} (hm : rm_r a R τ) (r f v : Nat) : a_own a r f v = true ↔ ∃ j, j < a_v a ∧ R j = (r, f, v) := by
  have h := hm.2.2.2.1 r f v
  constructor
  · intro ho
    rw [if_pos ho] at h
    obtain ⟨j, h1, h2⟩ := ct_some (by rw [h]; omega)
    exact ⟨j, h1, of_decide_eq_true h2⟩
  · rintro ⟨j, h1, h2⟩
    cases ho : a_own a r f v with
    | true => rfl
    | false =>
      rw [if_neg (by rw [ho]; decide)] at h
      have := ct_none h h1
      simp [h2] at this
theorem pm_pos {a : ab_T} {R : Nat → Nat × Nat × Nat} {τ : sm_T} (hm : rm_r a R τ) (r f v : Nat) (h : a_own a r f v = true) : 0 < a_v a := by
  obtain ⟨j, h1, -⟩ := (pm_own hm r f v).mp h
  omega
theorem pm_cnt {a : ab_T} {R : Nat → Nat × Nat × Nat} {τ : sm_T} (hm : rm_r a R τ) (r f : Nat) : ct_n (fun k => decide ((R k).1 = r) && decide ((R k).2.1 = f)) (a_v a) = ct_n (fun u => a_own a r f u) 100 := by
  rw [← ct_rows _ (fun k => (R k).2.2) 100 (a_v a) (fun k hk => (hm.2.2.1 k hk).2.2.2.1), ← sm_ct]
  refine sm_congr (fun v hv => ?_)
  rw [← hm.2.2.2.1 r f v]
  refine ct_congr (fun k hk => ?_)
  apply bl_eq
  rw [Bool.and_eq_true, Bool.and_eq_true, decide_eq_true_eq, decide_eq_true_eq, decide_eq_true_eq, beq_iff_eq]
  constructor
  · rintro ⟨⟨h1, h2⟩, h3⟩
    rw [← h1, ← h2, ← h3]
  · intro h
    rw [h]
    exact ⟨⟨rfl, rfl⟩, rfl⟩
theorem pm_val {a : ab_T} {R : Nat → Nat × Nat × Nat} {τ : sm_T} (hm : rm_r a R τ) {r f v : Nat} (hr1 : 1 ≤ r) (hr : r ≤ a_n a) (hf : f < 6) (hv : v < 100) (ho : a_own a r f v = false) {rows : Nat → Int32}
    (h1 : rows (3 * a_v a) = nI r) (h2 : rows (3 * a_v a + 1) = nI f) (h3 : rows (3 * a_v a + 2) = nI v) (h4 : ∀ i, i < 3 * a_v a → rows i = m_rows τ i) :
    rm_r (a_val a r f v) (fun k => if k = a_v a then (r, f, v) else R k) (ms_val (ms_rows τ rows) (nI (a_v a + 1))) := by
  obtain ⟨g1, g2, g3, g4, g5, g6, g7⟩ := hm
  refine ⟨g1, rfl, fun k hk => ?_, fun r2 f2 v2 => ?_, g5, g6, g7⟩
  · have hk : k < a_v a + 1 := hk
    show 1 ≤ (if k = a_v a then (r, f, v) else R k).1 ∧ (if k = a_v a then (r, f, v) else R k).1 ≤ a_n a ∧ (if k = a_v a then (r, f, v) else R k).2.1 < 6 ∧ (if k = a_v a then (r, f, v) else R k).2.2 < 100 ∧ rows (3 * k) = nI (if k = a_v a then (r, f, v) else R k).1 ∧ rows (3 * k + 1) = nI (if k = a_v a then (r, f, v) else R k).2.1 ∧ rows (3 * k + 2) = nI (if k = a_v a then (r, f, v) else R k).2.2
    by_cases e : k = a_v a
    · rw [if_pos e, e]
      exact ⟨hr1, hr, hf, hv, h1, h2, h3⟩
    · rw [if_neg e, h4 _ (by omega), h4 _ (by omega), h4 _ (by omega)]
      exact g3 k (by omega)
  · show ct_n (fun k => decide ((if k = a_v a then (r, f, v) else R k) = (r2, f2, v2))) (a_v a + 1) = if (if r2 = r ∧ f2 = f ∧ v2 = v then true else a_own a r2 f2 v2) = true then 1 else 0
    rw [ct_succ, if_pos rfl, ct_congr (q := fun k => decide (R k = (r2, f2, v2))) (fun i hi => by rw [if_neg (by omega)]), g4 r2 f2 v2]
    by_cases e : r2 = r ∧ f2 = f ∧ v2 = v
    · obtain ⟨rfl, rfl, rfl⟩ := e
      rw [ho]
      simp
    · rw [if_neg e, if_neg (c := decide ((r, f, v) = (r2, f2, v2)) = true) (fun g => e (by
        have g := of_decide_eq_true g
        simp only [Prod.mk.injEq] at g
        exact ⟨g.1.symm, g.2.1.symm, g.2.2.symm⟩))]
      rfl
theorem pm_gon {a : ab_T} {R : Nat → Nat × Nat × Nat} {τ : sm_T} (hm : rm_r a R τ) {r f v j : Nat} (hj : j < a_v a) (hR : R j = (r, f, v)) {rows : Nat → Int32}
    (h1 : ∀ i, i < 3 → rows (3 * j + i) = m_rows τ (3 * (a_v a - 1) + i)) (h2 : ∀ i, i < 3 * j ∨ 3 * j + 3 ≤ i → rows i = m_rows τ i) :
    rm_r (a_gon a r f v) (fun k => if k = j then R (a_v a - 1) else R k) (ms_val (ms_rows τ rows) (nI (a_v a - 1))) := by
  obtain ⟨g1, g2, g3, g4, g5, g6, g7⟩ := hm
  refine ⟨g1, rfl, fun k hk => ?_, fun r2 f2 v2 => ?_, g5, g6, g7⟩
  · have hk : k < a_v a - 1 := hk
    show 1 ≤ (if k = j then R (a_v a - 1) else R k).1 ∧ (if k = j then R (a_v a - 1) else R k).1 ≤ a_n a ∧ (if k = j then R (a_v a - 1) else R k).2.1 < 6 ∧ (if k = j then R (a_v a - 1) else R k).2.2 < 100 ∧ rows (3 * k) = nI (if k = j then R (a_v a - 1) else R k).1 ∧ rows (3 * k + 1) = nI (if k = j then R (a_v a - 1) else R k).2.1 ∧ rows (3 * k + 2) = nI (if k = j then R (a_v a - 1) else R k).2.2
    by_cases e : k = j
    · rw [if_pos e, e, h1 1 (by omega), h1 2 (by omega), show 3 * j = 3 * j + 0 by omega, h1 0 (by omega)]
      exact g3 (a_v a - 1) (by omega)
    · rw [if_neg e, h2 _ (by omega), h2 _ (by omega), h2 _ (by omega)]
      exact g3 k (by omega)
  · show ct_n (fun k => decide ((if k = j then R (a_v a - 1) else R k) = (r2, f2, v2))) (a_v a - 1) = if (if r2 = r ∧ f2 = f ∧ v2 = v then false else a_own a r2 f2 v2) = true then 1 else 0
    have h := ct_swap R (fun t => decide (t = (r2, f2, v2))) (a_v a - 1) j (by omega)
    rw [show a_v a - 1 + 1 = a_v a by omega, g4 r2 f2 v2, hR] at h
    by_cases e : r2 = r ∧ f2 = f ∧ v2 = v
    · obtain ⟨rfl, rfl, rfl⟩ := e
      have hown : a_own a r2 f2 v2 = true := by
        cases ho : a_own a r2 f2 v2 with
        | true => rfl
        | false =>
          rw [ho] at h
          simp at h
      rw [hown] at h
      simp at h
      simp
      exact h
    · rw [if_neg e]
      rw [if_neg (c := decide ((r, f, v) = (r2, f2, v2)) = true) (fun g => e (by
        have g := of_decide_eq_true g
        simp only [Prod.mk.injEq] at g
        exact ⟨g.1.symm, g.2.1.symm, g.2.2.symm⟩))] at h
      omega
theorem pm_nar {a : ab_T} {R : Nat → Nat × Nat × Nat} {τ : sm_T} (hm : rm_r a R τ) {f v b : Nat} (hv : v < 100) : rm_r (a_nar a f v b) R (ms_bro τ (upd (m_bro τ) (100 * f + v) (en_p b))) := by
  obtain ⟨g1, g2, g3, g4, g5, g6, g7⟩ := hm
  refine ⟨g1, g2, g3, g4, fun f2 v2 hf2 hv2 => ?_, g6, g7⟩
  show upd (m_bro τ) (100 * f + v) (en_p b) (100 * f2 + v2) = en_p (if f2 = f ∧ v2 = v then b else a_par a f2 v2)
  by_cases e : 100 * f2 + v2 = 100 * f + v
  · have e1 : f2 = f := by omega
    have e2 : v2 = v := by omega
    subst e1 e2
    rw [pk_us, if_pos ⟨rfl, rfl⟩]
  · rw [pk_un e, g5 f2 v2 hf2 hv2, if_neg (fun q => e (by rw [q.1, q.2]))]
theorem pm_cho {a : ab_T} {R : Nat → Nat × Nat × Nat} {τ : sm_T} (hm : rm_r a R τ) {f v : Nat} (hv : v < 100) : rm_r (a_chS a f v) R (ms_cho τ (upd (m_cho τ) (100 * f + v) (b01 (!a_cho a f v)))) := by
  obtain ⟨g1, g2, g3, g4, g5, g6, g7⟩ := hm
  refine ⟨g1, g2, g3, g4, g5, fun f2 v2 hf2 hv2 => ?_, g7⟩
  show upd (m_cho τ) (100 * f + v) (b01 (!a_cho a f v)) (100 * f2 + v2) = b01 (if f2 = f ∧ v2 = v then !a_cho a f2 v2 else a_cho a f2 v2)
  by_cases e : 100 * f2 + v2 = 100 * f + v
  · have e1 : f2 = f := by omega
    have e2 : v2 = v := by omega
    subst e1 e2
    rw [pk_us, if_pos ⟨rfl, rfl⟩]
  · rw [pk_un e, g6 f2 v2 hf2 hv2, if_neg (fun q => e (by rw [q.1, q.2]))]
theorem pm_hit {a : ab_T} {R : Nat → Nat × Nat × Nat} {τ : sm_T} (hm : rm_r a R τ) {r : Nat} {on : Bool} : rm_r (a_hiS a r on) R (ms_hits τ (upd (m_hits τ) r (b01 on))) := by
  obtain ⟨g1, g2, g3, g4, g5, g6, g7⟩ := hm
  refine ⟨g1, g2, g3, g4, g5, g6, fun r2 h1 h2 => ?_⟩
  show upd (m_hits τ) r (b01 on) r2 = b01 (if r2 = r then on else a_hit a r2)
  by_cases e : r2 = r
  · subst e
    rw [pk_us, if_pos rfl]
  · rw [pk_un e, g7 r2 h1 h2, if_neg e]
theorem pm_hv {a : ab_T} {R : Nat → Nat × Nat × Nat} {τ : sm_T} (hm : rm_r a R τ) (r f v : Nat) : a_has a r f v ↔ ∃ j, j < a_v a ∧ (R j).1 = r ∧ (R j).2.1 = f ∧ ab_o (a_par a f) (R j).2.2 v := by
  constructor
  · rintro ⟨w, h1, h2, h3⟩
    obtain ⟨j, g1, g2⟩ := (pm_own hm r f w).mp h2
    exact ⟨j, g1, by rw [g2], by rw [g2], by rw [g2]; exact h3⟩
  · rintro ⟨j, h1, h2, h3, h4⟩
    exact ⟨(R j).2.2, (hm.2.2.1 j h1).2.2.2.1, (pm_own hm r f _).mpr ⟨j, h1, by rw [← h2, ← h3]⟩, h4⟩
