/-- an int of the machine as a number below N -/
def ix_o (N : Nat) (x : Int32) : Option Nat := if 0 ≤ x.toInt ∧ x.toInt < N then some x.toInt.toNat else none
theorem ix_in {j N : Nat} (h : j < N) (hN : N < 2 ^ 31) : ix_o N (nI j) = some j := by
  have e := nI_toInt (show j < 2 ^ 31 by omega)
  unfold ix_o
  rw [e, if_pos (by omega)]
  simp
theorem ix_no {x : Int32} {N : Nat} (hN : N < 2 ^ 31) (h : ¬ ∃ j, j < N ∧ x = nI j) : ix_o N x = none := by
  unfold ix_o
  rw [if_neg]
  intro q
  refine h ⟨x.toInt.toNat, by omega, ?_⟩
  apply Int32.toInt_inj.mp
  rw [nI_toInt (by omega)]
  omega
/-- a record's number: 1 .. n -/
def rc_o (n : Nat) (x : Int32) : Option Nat := if 1 ≤ x.toInt ∧ x.toInt ≤ n then some x.toInt.toNat else none
theorem rc_in {j n : Nat} (h1 : 1 ≤ j) (h : j ≤ n) (hN : n < 2 ^ 31) : rc_o n (nI j) = some j := by
  have e := nI_toInt (show j < 2 ^ 31 by omega)
  unfold rc_o
  rw [e, if_pos (by omega)]
  simp
theorem rc_no {x : Int32} {n : Nat} (hN : n < 2 ^ 31) (h : ¬ ∃ j, 1 ≤ j ∧ j ≤ n ∧ x = nI j) : rc_o n x = none := by
  unfold rc_o
  rw [if_neg]
  intro q
  refine h ⟨x.toInt.toNat, by omega, by omega, ?_⟩
  apply Int32.toInt_inj.mp
  rw [nI_toInt (by omega)]
  omega
/-! the answers -/
noncomputable def sp_many (a : ab_T) : Nat := ct_n (fun r => bx_b (a_left a r)) 64
noncomputable def sp_cnt (a : ab_T) (f v : Nat) : Nat := ct_n (fun r => bx_b (a_left a r ∧ a_has a r f v)) 64
def a_rec (a : ab_T) : ab_T := ((a_n a + 1, a_v a), a_own a, a_par a, a_hit a, a_cho a)
def a_val (a : ab_T) (r f v : Nat) : ab_T := ((a_n a, a_v a + 1), (fun r2 f2 v2 => if r2 = r ∧ f2 = f ∧ v2 = v then true else a_own a r2 f2 v2), a_par a, a_hit a, a_cho a)
def a_gon (a : ab_T) (r f v : Nat) : ab_T := ((a_n a, a_v a - 1), (fun r2 f2 v2 => if r2 = r ∧ f2 = f ∧ v2 = v then false else a_own a r2 f2 v2), a_par a, a_hit a, a_cho a)
def a_nar (a : ab_T) (f v b : Nat) : ab_T := ((a_n a, a_v a), a_own a, (fun f2 v2 => if f2 = f ∧ v2 = v then b else a_par a f2 v2), a_hit a, a_cho a)
def a_hiS (a : ab_T) (r : Nat) (on : Bool) : ab_T := ((a_n a, a_v a), a_own a, a_par a, (fun r2 => if r2 = r then on else a_hit a r2), a_cho a)
def a_chS (a : ab_T) (f v : Nat) : ab_T := ((a_n a, a_v a), a_own a, a_par a, a_hit a, (fun f2 v2 => if f2 = f ∧ v2 = v then !a_cho a f2 v2 else a_cho a f2 v2))
def sp_record (a : ab_T) : Int32 × ab_T := if a_n a = 60 then (nI 0, a) else (nI (a_n a + 1), a_rec a)
def sp_value (a : ab_T) (x y z : Int32) : Int32 × ab_T := match rc_o (a_n a) x, ix_o 6 y, ix_o 100 z with
  | some r, some f, some v => if a_own a r f v = true ∨ a_v a = 400 then (nI 0, a) else (nI (ct_n (fun u => a_own (a_val a r f v) r f u) 100), a_val a r f v)
  | _, _, _ => (nI 0, a)
def sp_gone (a : ab_T) (x y z : Int32) : Int32 × ab_T := match rc_o (a_n a) x, ix_o 6 y, ix_o 100 z with
  | some r, some f, some v => if a_own a r f v = true then (nI 1, a_gon a r f v) else (nI 0, a)
  | _, _, _ => (nI 0, a)
noncomputable def sp_narrower (a : ab_T) (y z b : Int32) : Int32 × ab_T := match ix_o 6 y, ix_o 100 z with
  | some f, some v => if b = -1 then (nI 1, a_nar a f v 100) else match ix_o 100 b with
    | some u => if bx_b (ab_o (a_par a f) u v) = true then (nI 0, a) else (nI 1, a_nar a f v u)
    | none => (nI 0, a)
  | _, _ => (nI 0, a)
def sp_hit (a : ab_T) (x : Int32) (on : Bool) : Int32 × ab_T := match rc_o (a_n a) x with
  | some r => (nI (ct_n (a_hit (a_hiS a r on)) 64), a_hiS a r on)
  | none => (-1, a)
noncomputable def sp_choose (a : ab_T) (y z : Int32) : Int32 × ab_T := match ix_o 6 y, ix_o 100 z with
  | some f, some v => (nI (sp_many (a_chS a f v)), a_chS a f v)
  | _, _ => (-1, a)
noncomputable def sp_count (a : ab_T) (y z : Int32) : Int32 := match ix_o 6 y, ix_o 100 z with
  | some f, some v => nI (sp_cnt a f v)
  | _, _ => -1
noncomputable def sp_top (a : ab_T) (y i r : Int32) : Prop := match ix_o 6 y with
  | some f => rk_res (sp_cnt a f) i r
  | none => r = -1
noncomputable def sp_flt (a : ab_T) (f p : Nat) : Nat → Nat := fun w => if a_par a f w = p then sp_cnt a f w else 0
noncomputable def sp_below (a : ab_T) (y : Int32) (roots : Bool) (z i r : Int32) : Prop := match ix_o 6 y with
  | some f => if roots = true then rk_res (sp_flt a f 100) i r else match ix_o 100 z with
    | some p => rk_res (sp_flt a f p) i r
    | none => r = -1
  | none => r = -1
noncomputable def sp_band (a : ab_T) (y lo hi : Int32) : Int32 := match ix_o 6 y with
  | some f => if hi < lo then -1 else nI (ct_n (fun r => bx_b (a_left a r ∧ ∃ v : Nat, v < 100 ∧ lo.toInt ≤ (v : Int) ∧ (v : Int) ≤ hi.toInt ∧ a_own a r f v = true)) 64)
  | none => -1
noncomputable def sp_missing (a : ab_T) (y : Int32) : Int32 := match ix_o 6 y with
  | some f => nI (ct_n (fun r => bx_b (a_left a r ∧ ¬ ∃ v, v < 100 ∧ a_own a r f v = true)) 64)
  | none => -1
/-- the i-th that is left: r has just i before it -/
def sp_left (a : ab_T) (i q : Int32) : Prop := (∃ r, r < 64 ∧ a_left a r ∧ nI (ct_n (fun s => bx_b (a_left a s)) r) = i ∧ q = nI r) ∨ (q = nI 0 ∧ ∀ r, r < 64 → a_left a r → ¬ nI (ct_n (fun s => bx_b (a_left a s)) r) = i)
/-- a share: none is left: it throws -/
noncomputable def sp_share (a : ab_T) (y z side : Int32) : Option Int64 := match ix_o 6 y, ix_o 100 z with
  | some f, some v => if sp_many a = 0 then none else
      some (if side = 0 then lN (sp_cnt a f v / Nat.gcd (sp_cnt a f v) (sp_many a)) else lN (sp_many a / Nat.gcd (sp_cnt a f v) (sp_many a)))
  | _, _ => some (-1)
/-! the class's state and the reference's, and how they hold the abstract one -/
abbrev sx_T : Type := ((Nat → Int64) × (Nat → Int64) × (Nat → Int32) × (Nat → Int32) × (Nat → Int32)) × (Int32 × Int32 × Int64)
abbrev x_hold (σ : sx_T) : Nat → Int64 := σ.1.1
abbrev x_hav (σ : sx_T) : Nat → Int64 := σ.1.2.1
abbrev x_bro (σ : sx_T) : Nat → Int32 := σ.1.2.2.1
abbrev x_cho (σ : sx_T) : Nat → Int32 := σ.1.2.2.2.1
abbrev x_cnt (σ : sx_T) : Nat → Int32 := σ.1.2.2.2.2
abbrev x_rec (σ : sx_T) : Int32 := σ.2.1
abbrev x_held (σ : sx_T) : Int32 := σ.2.2.1
abbrev x_hits (σ : sx_T) : Int64 := σ.2.2.2
def rx_r (a : ab_T) (σ : sx_T) : Prop := x_rec σ = nI (a_n a) ∧ x_held σ = nI (a_v a) ∧
  (∀ f v r, f < 6 → v < 100 → r < 64 → tb_b (x_hold σ (f * 100 + v)) r = a_own a r f v) ∧
  (∀ f v r, f < 6 → v < 100 → r < 64 → tb_b (x_hav σ (f * 100 + v)) r = bx_b (a_has a r f v)) ∧
  (∀ f v, f < 6 → v < 100 → x_bro σ (f * 100 + v) = en_p (a_par a f v)) ∧
  (∀ f v, f < 6 → v < 100 → x_cho σ (f * 100 + v) = b01 (a_cho a f v)) ∧
  (∀ r, r < 64 → tb_b (x_hits σ) r = a_hit a r)
abbrev sm_T : Type := ((Nat → Int32) × (Nat → Int32) × (Nat → Int32) × (Nat → Int32) × (Nat → Int32) × (Nat → Int32) × (Nat → Int32) × (Nat → Int32) × (Nat → Int32)) × (Int32 × Int32 × Int32 × Int32)
abbrev m_rows (τ : sm_T) : Nat → Int32 := τ.1.1
abbrev m_bro (τ : sm_T) : Nat → Int32 := τ.1.2.1
abbrev m_hits (τ : sm_T) : Nat → Int32 := τ.1.2.2.1
abbrev m_cho (τ : sm_T) : Nat → Int32 := τ.1.2.2.2.1
abbrev m_cnt (τ : sm_T) : Nat → Int32 := τ.1.2.2.2.2.1
abbrev m_mrk (τ : sm_T) : Nat → Int32 := τ.1.2.2.2.2.2.1
abbrev m_any (τ : sm_T) : Nat → Int32 := τ.1.2.2.2.2.2.2.1
abbrev m_one (τ : sm_T) : Nat → Int32 := τ.1.2.2.2.2.2.2.2.1
abbrev m_lft (τ : sm_T) : Nat → Int32 := τ.1.2.2.2.2.2.2.2.2
abbrev m_thr (τ : sm_T) : Int32 := τ.2.1
abbrev m_rec (τ : sm_T) : Int32 := τ.2.2.1
abbrev m_val (τ : sm_T) : Int32 := τ.2.2.2.1
abbrev m_man (τ : sm_T) : Int32 := τ.2.2.2.2
def rm_r (a : ab_T) (R : Nat → Nat × Nat × Nat) (τ : sm_T) : Prop := m_rec τ = nI (a_n a) ∧ m_val τ = nI (a_v a) ∧
  (∀ k, k < a_v a → 1 ≤ (R k).1 ∧ (R k).1 ≤ a_n a ∧ (R k).2.1 < 6 ∧ (R k).2.2 < 100 ∧ m_rows τ (3 * k) = nI (R k).1 ∧ m_rows τ (3 * k + 1) = nI (R k).2.1 ∧ m_rows τ (3 * k + 2) = nI (R k).2.2) ∧
  (∀ r f v, ct_n (fun k => decide (R k = (r, f, v))) (a_v a) = if a_own a r f v = true then 1 else 0) ∧
  (∀ f v, f < 6 → v < 100 → m_bro τ (100 * f + v) = en_p (a_par a f v)) ∧
  (∀ f v, f < 6 → v < 100 → m_cho τ (100 * f + v) = b01 (a_cho a f v)) ∧
  (∀ r, 1 ≤ r → r ≤ 60 → m_hits τ r = b01 (a_hit a r))
