theorem wb_tb (n : Nat) : (lN n).toBitVec = BitVec.ofNat 64 n := rfl
theorem wb_inj {a b : Int64} (h : a.toBitVec = b.toBitVec) : a = b := Int64.toBitVec_inj.mp h
theorem wb_tn {n : Nat} (h : n < 2 ^ 64) : (lN n).toBitVec.toNat = n := by rw [wb_tb, BitVec.toNat_ofNat, Nat.mod_eq_of_lt h]
theorem wb_of (x : Int64) : ∃ n, n < 2 ^ 64 ∧ x = lN n := ⟨x.toBitVec.toNat, x.toBitVec.isLt, wb_inj (by rw [wb_tb]; simp)⟩
theorem wb_of32 (x : Int32) : ∃ n, n < 2 ^ 32 ∧ x = nI n := ⟨x.toBitVec.toNat, x.toBitVec.isLt, Int32.toBitVec_inj.mp (by show _ = BitVec.ofNat 32 _; simp)⟩
theorem wb_c : ∀ k, k < 64 → ((nI k).toInt64 &&& 63) = lN k := by decide +kernel
theorem wb_cu : ∀ k, k < 64 → ((nI k).toInt64.toUInt64 &&& Int64.toUInt64 63) = UInt64.ofNat k := by decide +kernel
theorem wb_sm : ∀ k, k < 64 → (BitVec.ofNat 64 k).smod 64 = BitVec.ofNat 64 k := by decide +kernel
theorem wb_pw {a b : Nat} (h : a ≤ b) : 2 ^ b = 2 ^ a * 2 ^ (b - a) := by rw [← Nat.pow_add]; congr 1; omega
theorem wb_lt2 {a b : Nat} (h : a < b) : 2 ^ a < 2 ^ b := Nat.pow_lt_pow_right (by decide) h
theorem wb_mod (n : Nat) : lN n = lN (n % 2 ^ 64) := wb_inj (by rw [wb_tb, wb_tb]; apply BitVec.eq_of_toNat_eq; rw [BitVec.toNat_ofNat, BitVec.toNat_ofNat, Nat.mod_mod])
theorem wb_shr {n k : Nat} (hn : n < 2 ^ 64) (hk : k < 64) : ((lN n).toUInt64 >>> ((nI k).toInt64.toUInt64 &&& Int64.toUInt64 63)).toInt64 = lN (n / 2 ^ k) := by
  rw [wb_cu k hk]
  apply wb_inj
  apply BitVec.eq_of_toNat_eq
  show ((lN n).toUInt64 >>> UInt64.ofNat k).toNat = (BitVec.ofNat 64 _).toNat
  have h1 : (UInt64.ofNat k).toNat = k := by
    show (BitVec.ofNat 64 k).toNat = k
    rw [BitVec.toNat_ofNat, Nat.mod_eq_of_lt (by omega)]
  have h2 : (lN n).toUInt64.toNat = n := wb_tn hn
  rw [UInt64.toNat_shiftRight, h1, h2, Nat.mod_eq_of_lt hk, Nat.shiftRight_eq_div_pow, BitVec.toNat_ofNat, Nat.mod_eq_of_lt (Nat.lt_of_le_of_lt (Nat.div_le_self _ _) hn)]
theorem wb_shl (n : Nat) {k : Nat} (hk : k < 64) : lN n <<< ((nI k).toInt64 &&& 63) = lN (n * 2 ^ k) := by
  rw [wb_c k hk]
  apply wb_inj
  rw [Int64.toBitVec_shiftLeft, wb_tb, wb_tb, wb_tb, wb_sm k hk]
  apply BitVec.eq_of_toNat_eq
  rw [BitVec.shiftLeft_eq', BitVec.toNat_shiftLeft, BitVec.toNat_ofNat, BitVec.toNat_ofNat, BitVec.toNat_ofNat, Nat.mod_eq_of_lt (show k < 2 ^ 64 by omega), Nat.shiftLeft_eq, Nat.mul_mod, Nat.mod_mod, ← Nat.mul_mod]
theorem wb_and {a b : Nat} (ha : a < 2 ^ 64) (hb : b < 2 ^ 64) : lN a &&& lN b = lN (a &&& b) := by
  apply wb_inj
  rw [Int64.toBitVec_and, wb_tb, wb_tb, wb_tb]
  apply BitVec.eq_of_toNat_eq
  rw [BitVec.toNat_and, BitVec.toNat_ofNat, BitVec.toNat_ofNat, BitVec.toNat_ofNat, Nat.mod_eq_of_lt ha, Nat.mod_eq_of_lt hb, Nat.mod_eq_of_lt (Nat.and_lt_two_pow _ hb)]
/-- bit r of a long -/
def tb_b (x : Int64) (r : Nat) : Bool := x.toBitVec.getLsbD r
theorem tb_or (x y : Int64) (r : Nat) : tb_b (x ||| y) r = (tb_b x r || tb_b y r) := by
  simp [tb_b, Int64.toBitVec_or]
theorem tb_and (x y : Int64) (r : Nat) : tb_b (x &&& y) r = (tb_b x r && tb_b y r) := by
  simp [tb_b, Int64.toBitVec_and]
theorem tb_xor (x y : Int64) (r : Nat) : tb_b (x ^^^ y) r = (tb_b x r ^^ tb_b y r) := by
  simp [tb_b, Int64.toBitVec_xor]
theorem tb_m1 : ∀ r, r < 64 → tb_b (-1) r = true := by decide +kernel
theorem tb_0 (r : Nat) : tb_b 0 r = false := by simp [tb_b]
theorem tb_big {x : Int64} {r : Nat} (h : 64 ≤ r) : tb_b x r = false := BitVec.getLsbD_of_ge _ _ h
theorem tb_not (x : Int64) {r : Nat} (h : r < 64) : tb_b (x ^^^ (-1)) r = !tb_b x r := by
  rw [tb_xor, tb_m1 r h]; simp
theorem tb_ext {x y : Int64} (h : ∀ r, r < 64 → tb_b x r = tb_b y r) : x = y :=
  Int64.toBitVec_inj.mp (BitVec.eq_of_getLsbD_eq (fun r hr => h r hr))
theorem tb_1s : ∀ r, r < 64 → ((1 : Int64) <<< ((nI r).toInt64 &&& 63)).toBitVec = BitVec.twoPow 64 r := by decide +kernel
/-- the long that holds bit r alone -/
def tb_1 (r : Nat) : Int64 := (1 : Int64) <<< ((nI r).toInt64 &&& 63)
theorem tb_one {r : Nat} (h : r < 64) (j : Nat) : tb_b (tb_1 r) j = decide (j = r) := by
  unfold tb_b tb_1
  rw [tb_1s r h, BitVec.getLsbD_twoPow]
  simp [h, eq_comm]
theorem tb_has {x : Int64} {r : Nat} (h : r < 64) : (x &&& tb_1 r) = 0 ↔ tb_b x r = false := by
  constructor
  · intro e
    have h1 := tb_and x (tb_1 r) r
    rw [e, tb_0, tb_one h] at h1
    simpa using h1.symm
  · intro e
    apply tb_ext
    intro j hj
    rw [tb_and, tb_0, tb_one h]
    by_cases q : j = r
    · rw [q, e]; rfl
    · simp [q]
theorem tb_set {x : Int64} {r j : Nat} (h : r < 64) : tb_b (x ||| tb_1 r) j = (tb_b x j || decide (j = r)) := by
  rw [tb_or, tb_one h]
theorem tb_clr {x : Int64} {r j : Nat} (h : r < 64) (hj : j < 64) : tb_b (x &&& (tb_1 r ^^^ (-1))) j = (tb_b x j && !decide (j = r)) := by
  rw [tb_and, tb_not _ hj, tb_one h]
/-! how many bits: the library's way, byte by byte -/
def by_n : List Nat → Nat
  | [] => 0
  | b :: r => 2 ^ 8 * by_n r + b
theorem by_and1 {A a M m : Nat} (ha : a < 2 ^ 8) (hm : m < 2 ^ 8) : (2 ^ 8 * A + a) &&& (2 ^ 8 * M + m) = 2 ^ 8 * (A &&& M) + (a &&& m) := by
  apply Nat.eq_of_testBit_eq
  intro j
  rw [Nat.testBit_and, Nat.testBit_two_pow_mul_add _ ha, Nat.testBit_two_pow_mul_add _ hm, Nat.testBit_two_pow_mul_add _ (Nat.lt_of_le_of_lt Nat.and_le_left ha)]
  by_cases h : j < 8
  · simp [h]
  · simp [h]
theorem by_and {f : Nat → Nat} {m : Nat} (hm : m < 2 ^ 8) (hf : ∀ b, b < 2 ^ 8 → b &&& m = f b) : ∀ l : List Nat, (∀ b ∈ l, b < 2 ^ 8) → by_n l &&& by_n (List.replicate l.length m) = by_n (l.map f) := by
  intro l
  induction l with
  | nil => intro _; simp [by_n]
  | cons b r ih =>
    intro h
    have hb := h b List.mem_cons_self
    simp only [List.length_cons, List.replicate_succ, List.map_cons, by_n]
    rw [by_and1 hb hm, ih (fun x hx => h x (List.mem_cons_of_mem _ hx)), hf b hb]
theorem by_shr1 {A a s : Nat} (hs : s ≤ 8) : (2 ^ 8 * A + a) >>> s = 2 ^ 8 * (A >>> s) + (2 ^ (8 - s) * (A % 2 ^ s) + a >>> s) := by
  rw [Nat.shiftRight_eq_div_pow, Nat.shiftRight_eq_div_pow, Nat.shiftRight_eq_div_pow]
  have h1 : 2 ^ 8 = 2 ^ s * 2 ^ (8 - s) := by rw [← Nat.pow_add]; congr 1; omega
  have h2 : A = 2 ^ s * (A / 2 ^ s) + A % 2 ^ s := (Nat.div_add_mod A (2 ^ s)).symm
  have hp : 0 < 2 ^ s := Nat.two_pow_pos s
  have h3 : 2 ^ 8 * A + a = 2 ^ s * (2 ^ 8 * (A / 2 ^ s) + 2 ^ (8 - s) * (A % 2 ^ s)) + a := by
    conv => lhs; rw [h2]
    rw [Nat.mul_add, Nat.mul_add]
    congr 2
    · rw [← Nat.mul_assoc, ← Nat.mul_assoc, Nat.mul_comm (2 ^ 8)]
    · rw [h1, Nat.mul_assoc]
  rw [h3, Nat.mul_add_div hp, Nat.add_assoc]
theorem by_and3 {A c a M m s : Nat} (hs : s ≤ 8) (hc : c < 2 ^ s) (ha : a < 2 ^ (8 - s)) (hm : m < 2 ^ (8 - s)) : (2 ^ 8 * A + (2 ^ (8 - s) * c + a)) &&& (2 ^ 8 * M + m) = 2 ^ 8 * (A &&& M) + (a &&& m) := by
  have h1 : 2 ^ 8 = 2 ^ (8 - s) * 2 ^ s := by rw [← Nat.pow_add]; congr 1; omega
  have h2 : 2 ^ (8 - s) * c + a < 2 ^ 8 := by
    have h3 : 2 ^ (8 - s) * (c + 1) ≤ 2 ^ (8 - s) * 2 ^ s := Nat.mul_le_mul_left _ hc
    rw [Nat.mul_add] at h3
    omega
  have h4 : m < 2 ^ 8 := Nat.lt_of_lt_of_le hm (Nat.pow_le_pow_right (by omega) (by omega))
  rw [by_and1 h2 h4]
  congr 1
  apply Nat.eq_of_testBit_eq
  intro j
  rw [Nat.testBit_and, Nat.testBit_and, Nat.testBit_two_pow_mul_add _ ha]
  by_cases h : j < 8 - s
  · simp [h]
  · have h5 : m.testBit j = false := Nat.testBit_lt_two_pow (Nat.lt_of_lt_of_le hm (Nat.pow_le_pow_right (by omega) (by omega)))
    simp [h, h5]
theorem by_shr {f : Nat → Nat} {m s : Nat} (hs : s ≤ 8) (hm : m < 2 ^ (8 - s)) (hf : ∀ b, b < 2 ^ 8 → (b >>> s) &&& m = f b) : ∀ l : List Nat, (∀ b ∈ l, b < 2 ^ 8) → (by_n l >>> s) &&& by_n (List.replicate l.length m) = by_n (l.map f) := by
  intro l
  induction l with
  | nil => intro _; simp [by_n]
  | cons b r ih =>
    intro h
    have hb := h b List.mem_cons_self
    simp only [List.length_cons, List.replicate_succ, List.map_cons, by_n]
    have h1 : 2 ^ 8 = 2 ^ (8 - s) * 2 ^ s := by rw [← Nat.pow_add]; congr 1; omega
    have hb2 : b >>> s < 2 ^ (8 - s) := by
      rw [Nat.shiftRight_eq_div_pow]
      exact (Nat.div_lt_iff_lt_mul (Nat.two_pow_pos s)).mpr (by rw [← h1]; exact hb)
    rw [by_shr1 hs, by_and3 hs (Nat.mod_lt _ (Nat.two_pow_pos s)) hb2 hm, ih (fun x hx => h x (List.mem_cons_of_mem _ hx)), hf b hb]
theorem by_add {f g : Nat → Nat} : ∀ l : List Nat, by_n (l.map f) + by_n (l.map g) = by_n (l.map (fun b => f b + g b)) := by
  intro l
  induction l with
  | nil => rfl
  | cons b r ih => simp only [List.map_cons, by_n]; rw [← ih]; omega
theorem by_sub {f g : Nat → Nat} : ∀ l : List Nat, (∀ b ∈ l, g b ≤ f b) → by_n (l.map g) ≤ by_n (l.map f) ∧ by_n (l.map f) - by_n (l.map g) = by_n (l.map (fun b => f b - g b)) := by
  intro l
  induction l with
  | nil => intro _; exact ⟨Nat.le_refl _, rfl⟩
  | cons b r ih =>
    intro h
    have h1 := h b List.mem_cons_self
    have h2 := ih (fun x hx => h x (List.mem_cons_of_mem _ hx))
    simp only [List.map_cons, by_n]
    refine ⟨by omega, ?_⟩
    rw [← h2.2]
    omega
theorem by_nib1 : ∀ c, c < 5 → ∀ b, b < 69 → (b + (b >>> 4) + 2 ^ 4 * c) &&& 15 = (b + (b >>> 4)) &&& 15 := by decide +kernel
/-- bytes whose halves are at most 4 -/
theorem by_nib : ∀ l : List Nat, (∀ b ∈ l, b < 69 ∧ b % 16 < 5) → by_n l % 16 < 5 ∧ (by_n l + (by_n l >>> 4)) &&& by_n (List.replicate l.length 15) = by_n (l.map (fun b => (b + (b >>> 4)) &&& 15)) := by
  intro l
  induction l with
  | nil => intro _; exact ⟨by decide, rfl⟩
  | cons b r ih =>
    intro h
    obtain ⟨hb, hb2⟩ := h b List.mem_cons_self
    obtain ⟨h1, h2⟩ := ih (fun x hx => h x (List.mem_cons_of_mem _ hx))
    simp only [List.length_cons, List.replicate_succ, List.map_cons, by_n]
    refine ⟨by omega, ?_⟩
    rw [by_shr1 (by omega), ← h2]
    have e : 2 ^ 8 * by_n r + b + (2 ^ 8 * (by_n r >>> 4) + (2 ^ (8 - 4) * (by_n r % 2 ^ 4) + b >>> 4)) = 2 ^ 8 * (by_n r + by_n r >>> 4) + (b + (b >>> 4) + 2 ^ 4 * (by_n r % 16)) := by
      rw [show (8 : Nat) - 4 = 4 from rfl, show (2 : Nat) ^ 4 = 16 from rfl]
      omega
    have hs : b >>> 4 ≤ 4 := by rw [Nat.shiftRight_eq_div_pow]; omega
    rw [e, by_and1 (by omega) (by decide), by_nib1 _ h1 b hb]
def g1_b (b : Nat) : Nat := b - ((b >>> 1) &&& 85)
def g2_b (b : Nat) : Nat := (b &&& 51) + ((b >>> 2) &&& 51)
def g3_b (b : Nat) : Nat := (b + (b >>> 4)) &&& 15
theorem g1_ok : ∀ b, b < 2 ^ 8 → (b >>> 1) &&& 85 ≤ b ∧ g1_b b < 2 ^ 8 := by decide +kernel
theorem g2_ok : ∀ b, b < 2 ^ 8 → g2_b (g1_b b) < 69 ∧ g2_b (g1_b b) % 16 < 5 := by decide +kernel
theorem g3_ok : ∀ b, b < 2 ^ 8 → g3_b (g2_b (g1_b b)) = ct_n b.testBit 8 := by decide +kernel
theorem by_ct : ∀ l : List Nat, (∀ b ∈ l, b < 2 ^ 8) → ct_n (by_n l).testBit (8 * l.length) = (l.map (fun b => ct_n b.testBit 8)).sum := by
  intro l
  induction l with
  | nil => intro _; rfl
  | cons b r ih =>
    intro h
    have hb := h b List.mem_cons_self
    rw [List.length_cons, show 8 * (r.length + 1) = 8 + 8 * r.length by omega, ct_shift, List.map_cons, List.sum_cons, ← ih (fun x hx => h x (List.mem_cons_of_mem _ hx))]
    congr 1
    · apply ct_congr
      intro i hi
      rw [by_n, Nat.testBit_two_pow_mul_add _ hb, if_pos hi]
    · apply ct_congr
      intro i hi
      rw [by_n, Nat.testBit_two_pow_mul_add _ hb, if_neg (by omega), show 8 + i - 8 = i by omega]
theorem by_ex : ∀ k n : Nat, n < 2 ^ (8 * k) → ∃ l : List Nat, l.length = k ∧ (∀ b ∈ l, b < 2 ^ 8) ∧ by_n l = n := by
  intro k
  induction k with
  | zero => intro n h; exact ⟨[], rfl, by simp, by simp [by_n]; omega⟩
  | succ k ih =>
    intro n h
    obtain ⟨l, h1, h2, h3⟩ := ih (n / 2 ^ 8) (by
      rw [Nat.div_lt_iff_lt_mul (Nat.two_pow_pos 8), ← Nat.pow_add]
      exact h)
    refine ⟨(n % 2 ^ 8) :: l, by simp [h1], ?_, ?_⟩
    · intro b hb
      rcases List.mem_cons.mp hb with e | e
      · rw [e]; exact Nat.mod_lt _ (Nat.two_pow_pos 8)
      · exact h2 b e
    · rw [by_n, h3]; exact Nat.div_add_mod n (2 ^ 8)
theorem by_8 (n : Nat) (h : n < 2 ^ 64) : ∃ b0 b1 b2 b3 b4 b5 b6 b7 : Nat, (∀ b ∈ [b0, b1, b2, b3, b4, b5, b6, b7], b < 2 ^ 8) ∧ n = by_n [b0, b1, b2, b3, b4, b5, b6, b7] := by
  obtain ⟨l, h1, h2, h3⟩ := by_ex 8 n h
  match l, h1, h2, h3 with
  | [b0, b1, b2, b3, b4, b5, b6, b7], _, h2, h3 => exact ⟨b0, b1, b2, b3, b4, b5, b6, b7, h2, h3.symm⟩
theorem by_lt : ∀ l : List Nat, (∀ b ∈ l, b < 2 ^ 8) → by_n l < 2 ^ (8 * l.length) := by
  intro l
  induction l with
  | nil => intro _; decide
  | cons b r ih =>
    intro h
    have hb := h b List.mem_cons_self
    have hr := ih (fun x hx => h x (List.mem_cons_of_mem _ hx))
    rw [by_n, List.length_cons, show 8 * (r.length + 1) = 8 * r.length + 8 by omega, Nat.pow_add]
    have : (by_n r + 1) * 2 ^ 8 ≤ 2 ^ (8 * r.length) * 2 ^ 8 := Nat.mul_le_mul_right _ hr
    omega
theorem bc_s1 (l : List Nat) (h8 : l.length = 8) (h : ∀ b ∈ l, b < 2 ^ 8) : lN (by_n l) - (lN (by_n l / 2 ^ 1) &&& 0x5555555555555555) = lN (by_n (l.map g1_b)) := by
  have hlt := by_lt l h
  rw [h8] at hlt
  have hm : by_n (List.replicate l.length 85) = 0x5555555555555555 := by rw [h8]; rfl
  have e1 : (by_n l >>> 1) &&& by_n (List.replicate l.length 85) = by_n (l.map (fun b => (b >>> 1) &&& 85)) := by_shr (by omega) (by decide) (fun _ _ => rfl) l h
  rw [show (0x5555555555555555 : Int64) = lN (by_n (List.replicate l.length 85)) by rw [hm]; rfl, wb_and (Nat.lt_of_le_of_lt (Nat.div_le_self _ _) hlt) (by rw [hm]; decide), ← Nat.shiftRight_eq_div_pow, e1]
  obtain ⟨q1, q2⟩ := by_sub (f := fun b => b) (g := fun b => (b >>> 1) &&& 85) l (fun b hb => (g1_ok b (h b hb)).1)
  rw [List.map_id'] at q1 q2
  rw [lN_sub q1, q2]
  rfl
theorem bc_s2 (l : List Nat) (h8 : l.length = 8) (h : ∀ b ∈ l, b < 2 ^ 8) : (lN (by_n l) &&& 0x3333333333333333) + (lN (by_n l / 2 ^ 2) &&& 0x3333333333333333) = lN (by_n (l.map g2_b)) := by
  have hlt := by_lt l h
  rw [h8] at hlt
  have hm : by_n (List.replicate l.length 51) = 0x3333333333333333 := by rw [h8]; rfl
  have e1 : (by_n l >>> 2) &&& by_n (List.replicate l.length 51) = by_n (l.map (fun b => (b >>> 2) &&& 51)) := by_shr (by omega) (by decide) (fun _ _ => rfl) l h
  have e2 : by_n l &&& by_n (List.replicate l.length 51) = by_n (l.map (fun b => b &&& 51)) := by_and (by decide) (fun _ _ => rfl) l h
  rw [show (0x3333333333333333 : Int64) = lN (by_n (List.replicate l.length 51)) by rw [hm]; rfl, wb_and (Nat.lt_of_le_of_lt (Nat.div_le_self _ _) hlt) (by rw [hm]; decide), wb_and hlt (by rw [hm]; decide), ← Nat.shiftRight_eq_div_pow, e1, e2, lN_add, by_add]
  rfl
theorem bc_s3 (l : List Nat) (h8 : l.length = 8) (h : ∀ b ∈ l, b < 69 ∧ b % 16 < 5) : (lN (by_n l) + lN (by_n l / 2 ^ 4)) &&& 0x0f0f0f0f0f0f0f0f = lN (by_n (l.map g3_b)) := by
  have hm : by_n (List.replicate l.length 15) = 0x0f0f0f0f0f0f0f0f := by rw [h8]; rfl
  have e1 := (by_nib l h).2
  have hlt : by_n l + by_n l / 2 ^ 4 < 2 ^ 64 := by
    match l, h8, h with
    | [b0, b1, b2, b3, b4, b5, b6, b7], _, h =>
      have := (h b0 (by simp)).1
      have := (h b1 (by simp)).1
      have := (h b2 (by simp)).1
      have := (h b3 (by simp)).1
      have := (h b4 (by simp)).1
      have := (h b5 (by simp)).1
      have := (h b6 (by simp)).1
      have := (h b7 (by simp)).1
      simp only [by_n]
      omega
  rw [lN_add, show (0x0f0f0f0f0f0f0f0f : Int64) = lN (by_n (List.replicate l.length 15)) by rw [hm]; rfl, wb_and hlt (by rw [hm]; decide), ← Nat.shiftRight_eq_div_pow, e1]
  rfl
theorem by_div {b : Nat} {r : List Nat} (h : b < 2 ^ 8) : by_n (b :: r) / 2 ^ 8 = by_n r := by
  rw [by_n, Nat.mul_add_div (Nat.two_pow_pos 8), Nat.div_eq_of_lt h, Nat.add_zero]
theorem bc_s4 {d0 d1 d2 d3 d4 d5 d6 d7 a b c z : Nat} (h0 : d0 ≤ 8) (h1 : d1 ≤ 8) (h2 : d2 ≤ 8) (h3 : d3 ≤ 8) (h4 : d4 ≤ 8) (h5 : d5 ≤ 8) (h6 : d6 ≤ 8) (h7 : d7 ≤ 8) (ea : a = by_n [d0, d1, d2, d3, d4, d5, d6, d7]) (eb : b = a + a / 2 ^ 8) (ec : c = b + b / 2 ^ 16) (ez : z = c + c / 2 ^ 32) : z % 2 ^ 32 % 2 ^ 7 = d0 + d1 + d2 + d3 + d4 + d5 + d6 + d7 ∧ z < 2 ^ 64 ∧ c < 2 ^ 64 ∧ b < 2 ^ 64 := by
  have q1 : a / 2 ^ 8 = by_n [d1, d2, d3, d4, d5, d6, d7] := by rw [ea]; exact by_div (by omega)
  have eb2 : b = by_n [d0 + d1, d1 + d2, d2 + d3, d3 + d4, d4 + d5, d5 + d6, d6 + d7, d7] := by
    rw [eb, q1, ea]; simp only [by_n]; omega
  have q2 : b / 2 ^ 16 = by_n [d2 + d3, d3 + d4, d4 + d5, d5 + d6, d6 + d7, d7] := by
    rw [eb2, show (2 : Nat) ^ 16 = 2 ^ 8 * 2 ^ 8 from rfl, ← Nat.div_div_eq_div_mul, by_div (by omega), by_div (by omega)]
  have ec2 : c = by_n [d0 + d1 + (d2 + d3), d1 + d2 + (d3 + d4), d2 + d3 + (d4 + d5), d3 + d4 + (d5 + d6), d4 + d5 + (d6 + d7), d5 + d6 + d7, d6 + d7, d7] := by
    rw [ec, q2, eb2]; simp only [by_n]; omega
  have q3 : c / 2 ^ 32 = by_n [d4 + d5 + (d6 + d7), d5 + d6 + d7, d6 + d7, d7] := by
    rw [ec2, show (2 : Nat) ^ 32 = 2 ^ 8 * 2 ^ 8 * 2 ^ 8 * 2 ^ 8 from rfl, ← Nat.div_div_eq_div_mul, ← Nat.div_div_eq_div_mul, ← Nat.div_div_eq_div_mul, by_div (by omega), by_div (by omega), by_div (by omega), by_div (by omega)]
  have ez2 : z = by_n [d0 + d1 + (d2 + d3) + (d4 + d5 + (d6 + d7)), d1 + d2 + (d3 + d4) + (d5 + d6 + d7), d2 + d3 + (d4 + d5) + (d6 + d7), d3 + d4 + (d5 + d6) + d7, d4 + d5 + (d6 + d7), d5 + d6 + d7, d6 + d7, d7] := by
    rw [ez, q3, ec2]; simp only [by_n]; omega
  have hlt : ∀ l : List Nat, l.length = 8 → (∀ x ∈ l, x < 2 ^ 8) → by_n l < 2 ^ 64 := fun l h8 h => by
    have := by_lt l h
    rw [h8] at this
    exact this
  refine ⟨?_, ?_, ?_, ?_⟩
  · rw [ez2, by_n]
    generalize by_n [d1 + d2 + (d3 + d4) + (d5 + d6 + d7), d2 + d3 + (d4 + d5) + (d6 + d7), d3 + d4 + (d5 + d6) + d7, d4 + d5 + (d6 + d7), d5 + d6 + d7, d6 + d7, d7] = K
    omega
  · rw [ez2]
    refine hlt _ rfl (fun x hx => ?_)
    simp only [List.mem_cons, List.not_mem_nil, or_false] at hx
    omega
  · rw [ec2]
    refine hlt _ rfl (fun x hx => ?_)
    simp only [List.mem_cons, List.not_mem_nil, or_false] at hx
    omega
  · rw [eb2]
    refine hlt _ rfl (fun x hx => ?_)
    simp only [List.mem_cons, List.not_mem_nil, or_false] at hx
    omega
theorem bc_tb {n : Nat} (h : n < 2 ^ 64) (r : Nat) : tb_b (lN n) r = n.testBit r := by
  unfold tb_b
  rw [wb_tb, BitVec.getLsbD_ofNat]
  by_cases hr : r < 64
  · simp [hr]
  · simp only [hr, decide_false, Bool.false_and]
    exact (Nat.testBit_lt_two_pow (Nat.lt_of_lt_of_le h (Nat.pow_le_pow_right (by omega) (by omega)))).symm
/-- THE LIBRARY'S bitCount, its seven values named -/
theorem bc_main {x i1 i2 i3 i4 i5 i6 : Int64}
    (e1 : i1 = x - ((x.toUInt64 >>> ((nI 1).toInt64.toUInt64 &&& Int64.toUInt64 63)).toInt64 &&& 0x5555555555555555))
    (e2 : i2 = (i1 &&& 0x3333333333333333) + ((i1.toUInt64 >>> ((nI 2).toInt64.toUInt64 &&& Int64.toUInt64 63)).toInt64 &&& 0x3333333333333333))
    (e3 : i3 = (i2 + (i2.toUInt64 >>> ((nI 4).toInt64.toUInt64 &&& Int64.toUInt64 63)).toInt64) &&& 0x0f0f0f0f0f0f0f0f)
    (e4 : i4 = i3 + (i3.toUInt64 >>> ((nI 8).toInt64.toUInt64 &&& Int64.toUInt64 63)).toInt64)
    (e5 : i5 = i4 + (i4.toUInt64 >>> ((nI 16).toInt64.toUInt64 &&& Int64.toUInt64 63)).toInt64)
    (e6 : i6 = i5 + (i5.toUInt64 >>> ((nI 32).toInt64.toUInt64 &&& Int64.toUInt64 63)).toInt64) :
    i6.toInt32 &&& nI 127 = nI (ct_n (tb_b x) 64) := by
  obtain ⟨n, hn, rfl⟩ := wb_of x
  obtain ⟨b0, b1, b2, b3, b4, b5, b6, b7, hb, rfl⟩ := by_8 n hn
  have hlt : ∀ l : List Nat, l.length = 8 → (∀ b ∈ l, b < 2 ^ 8) → by_n l < 2 ^ 64 := fun l h8 h => by
    have := by_lt l h
    rw [h8] at this
    exact this
  rw [wb_shr hn (by omega), bc_s1 _ rfl hb] at e1
  have hb1 : ∀ b ∈ [b0, b1, b2, b3, b4, b5, b6, b7].map g1_b, b < 2 ^ 8 := fun b h => by
    obtain ⟨c, h1, rfl⟩ := List.mem_map.mp h
    exact (g1_ok c (hb c h1)).2
  rw [e1, wb_shr (hlt _ rfl hb1) (by omega), bc_s2 _ rfl hb1] at e2
  have hb2 : ∀ b ∈ ([b0, b1, b2, b3, b4, b5, b6, b7].map g1_b).map g2_b, b < 69 ∧ b % 16 < 5 := fun b h => by
    obtain ⟨c, h1, rfl⟩ := List.mem_map.mp h
    obtain ⟨d, h2, rfl⟩ := List.mem_map.mp h1
    exact g2_ok d (hb d h2)
  rw [e2, wb_shr (hlt _ rfl (fun b h => Nat.lt_trans (hb2 b h).1 (by decide))) (by omega), bc_s3 _ rfl hb2] at e3
  have hb3 : ∀ b ∈ [b0, b1, b2, b3, b4, b5, b6, b7], g3_b (g2_b (g1_b b)) = ct_n b.testBit 8 ∧ g3_b (g2_b (g1_b b)) ≤ 8 := fun b h => by
    have := g3_ok b (hb b h)
    exact ⟨this, by rw [this]; exact ct_le _ 8⟩
  have g0 := hb3 b0 (by simp)
  have g1 := hb3 b1 (by simp)
  have g2 := hb3 b2 (by simp)
  have g3 := hb3 b3 (by simp)
  have g4 := hb3 b4 (by simp)
  have g5 := hb3 b5 (by simp)
  have g6 := hb3 b6 (by simp)
  have g7 := hb3 b7 (by simp)
  have hz := @bc_s4 _ _ _ _ _ _ _ _ _ _ _ _ g0.2 g1.2 g2.2 g3.2 g4.2 g5.2 g6.2 g7.2 rfl rfl rfl rfl
  have hA : by_n ((([b0, b1, b2, b3, b4, b5, b6, b7].map g1_b).map g2_b).map g3_b) < 2 ^ 64 := hlt _ rfl (fun b h => by
    obtain ⟨c, h1, rfl⟩ := List.mem_map.mp h
    have : ∀ c, g3_b c ≤ 15 := fun c => Nat.and_le_right
    exact Nat.lt_of_le_of_lt (this c) (by decide))
  generalize hAe : by_n ((([b0, b1, b2, b3, b4, b5, b6, b7].map g1_b).map g2_b).map g3_b) = A at e3 hA
  change by_n [g3_b (g2_b (g1_b b0)), g3_b (g2_b (g1_b b1)), g3_b (g2_b (g1_b b2)), g3_b (g2_b (g1_b b3)), g3_b (g2_b (g1_b b4)), g3_b (g2_b (g1_b b5)), g3_b (g2_b (g1_b b6)), g3_b (g2_b (g1_b b7))] = A at hAe
  rw [hAe] at hz
  rw [e3, wb_shr hA (by omega), lN_add] at e4
  rw [e4, wb_shr hz.2.2.2 (by omega), lN_add] at e5
  rw [e5, wb_shr hz.2.2.1 (by omega), lN_add] at e6
  rw [e6, lN_i, pk_and _ (m := nI 127) 7 (by decide)]
  congr 1
  have ht : ∀ Z : Nat, (nI Z).toBitVec.toNat = Z % 2 ^ 32 := fun Z => rfl
  rw [ht, hz.1, ct_congr (fun i _ => bc_tb hn i), show (64 : Nat) = 8 * [b0, b1, b2, b3, b4, b5, b6, b7].length from rfl, by_ct _ hb]
  simp only [List.map_cons, List.map_nil, List.sum_cons, List.sum_nil, g0.1, g1.1, g2.1, g3.1, g4.1, g5.1, g6.1, g7.1]
  omega
