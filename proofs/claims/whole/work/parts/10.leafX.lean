theorem fx_p {α S : Type} {σ : S} {P : α → Prop} {G : α → S → Prop} (kk : ∀ r, P r → G r σ) : ∀ r u, (u = σ ∧ P r) → G r u := fun r u h => by rw [h.1]; exact kk r h.2
theorem rg_neg {x : Int32} {N : Nat} (hN : N < 2 ^ 31) (h : x < 0) : ¬ ∃ j, j < N ∧ x = nI j := by
  rintro ⟨j, hj, rfl⟩
  exact nI_pos (by omega) h
theorem rg_big {x : Int32} {N : Nat} (hN : N < 2 ^ 31) (h : nI N ≤ x) : ¬ ∃ j, j < N ∧ x = nI j := by
  rintro ⟨j, hj, rfl⟩
  exact nI_ge hj hN h
theorem rg_in {x : Int32} {N : Nat} (hN : N < 2 ^ 31) (h0 : ¬ x < 0) (h1 : ¬ nI N ≤ x) : ∃ j, j < N ∧ x = nI j := by
  rcases pk_ix x hN with h | h | h
  · exact absurd h h0
  · exact absurd h h1
  · exact h
/-- a test of a range: the answer 1 or 0 -/
def rg_q (P : Prop) (r : Int32) : Prop := (r = nI 1 ∧ P) ∨ (r = nI 0 ∧ ¬ P)
section LX
variable (l : Launch) (D : va_G) (tys : List (ClassId × FieldType)) {S : Type} (w : S → va_W) (σ : S)
theorem cX_isFacet (x : Int32) : fx_MI l D cl_s tys w y_X_isFacet (k_X_isFacet :: tb_l) rm_X_isFacet [.int x] σ (fun r u => u = σ ∧ rg_q (∃ j, j < 6 ∧ x = nI j) r) := by
  refine fx_enterI (by decide +kernel) [some (.int x)] rfl (Nat.le_of_ble_eq_true rfl) (Nat.le_of_ble_eq_true rfl) (fun X C hR => ?_)
  refine jr_iload_0 C d_X_isFacet_0 ?_
  refine jr_if_lt (tgt := 14) C d_X_isFacet_1 (by decide) (fun h => ?_) (fun h => ?_)
  · refine jr_iconst (v := nI 0) C d_X_isFacet_14 (by decide) ?_
    exact hR _ _ _ _ d_X_isFacet_15 rfl ⟨rfl, Or.inr ⟨rfl, rg_neg (by omega) h⟩⟩
  · refine jr_iload_0 C d_X_isFacet_4 ?_
    refine jr_bipush (v := nI 6) C d_X_isFacet_5 (by decide) ?_
    refine jr_icmp_ge (tgt := 14) C d_X_isFacet_7 (by decide) (fun h2 => ?_) (fun h2 => ?_)
    · refine jr_iconst (v := nI 0) C d_X_isFacet_14 (by decide) ?_
      exact hR _ _ _ _ d_X_isFacet_15 rfl ⟨rfl, Or.inr ⟨rfl, rg_big (by omega) h2⟩⟩
    · refine jr_iconst (v := nI 1) C d_X_isFacet_10 (by decide) ?_
      refine jr_goto (tgt := 15) C d_X_isFacet_11 (by decide) ?_
      exact hR _ _ _ _ d_X_isFacet_15 rfl ⟨rfl, Or.inl ⟨rfl, rg_in (by omega) h h2⟩⟩
theorem cX_isValue (x : Int32) : fx_MI l D cl_s tys w y_X_isValue (k_X_isValue :: tb_l) rm_X_isValue [.int x] σ (fun r u => u = σ ∧ rg_q (∃ j, j < 100 ∧ x = nI j) r) := by
  refine fx_enterI (by decide +kernel) [some (.int x)] rfl (Nat.le_of_ble_eq_true rfl) (Nat.le_of_ble_eq_true rfl) (fun X C hR => ?_)
  refine jr_iload_0 C d_X_isValue_0 ?_
  refine jr_if_lt (tgt := 14) C d_X_isValue_1 (by decide) (fun h => ?_) (fun h => ?_)
  · refine jr_iconst (v := nI 0) C d_X_isValue_14 (by decide) ?_
    exact hR _ _ _ _ d_X_isValue_15 rfl ⟨rfl, Or.inr ⟨rfl, rg_neg (by omega) h⟩⟩
  · refine jr_iload_0 C d_X_isValue_4 ?_
    refine jr_bipush (v := nI 100) C d_X_isValue_5 (by decide) ?_
    refine jr_icmp_ge (tgt := 14) C d_X_isValue_7 (by decide) (fun h2 => ?_) (fun h2 => ?_)
    · refine jr_iconst (v := nI 0) C d_X_isValue_14 (by decide) ?_
      exact hR _ _ _ _ d_X_isValue_15 rfl ⟨rfl, Or.inr ⟨rfl, rg_big (by omega) h2⟩⟩
    · refine jr_iconst (v := nI 1) C d_X_isValue_10 (by decide) ?_
      refine jr_goto (tgt := 15) C d_X_isValue_11 (by decide) ?_
      exact hR _ _ _ _ d_X_isValue_15 rfl ⟨rfl, Or.inl ⟨rfl, rg_in (by omega) h h2⟩⟩
theorem cX_cell (f v : Nat) : fx_MI l D cl_s tys w y_X_cell (k_X_cell :: tb_l) rm_X_cell [.int (nI f), .int (nI v)] σ (fun r u => u = σ ∧ r = nI (f * 100 + v)) := by
  refine fx_enterI (by decide +kernel) [some (.int (nI f)), some (.int (nI v))] rfl (Nat.le_of_ble_eq_true rfl) (Nat.le_of_ble_eq_true rfl) (fun X C hR => ?_)
  refine jr_iload_0 C d_X_cell_0 ?_
  refine jr_bipush (v := nI 100) C d_X_cell_1 (by decide) ?_
  refine jr_imulN C d_X_cell_3 ?_
  refine jr_iload_1 C d_X_cell_4 ?_
  refine jr_iaddN C d_X_cell_5 ?_
  exact hR _ _ _ _ d_X_cell_6 rfl ⟨rfl, rfl⟩
theorem cX_bit (r : Nat) : fx_ML l D cl_s tys w y_X_bit (k_X_bit :: tb_l) rm_X_bit [.int (nI r)] σ (fun z u => u = σ ∧ z = tb_1 r) := by
  refine fx_enterL (by decide +kernel) [some (.int (nI r))] rfl (Nat.le_of_ble_eq_true rfl) (Nat.le_of_ble_eq_true rfl) (fun X C hR => ?_)
  refine jr_lconst (v := 1) C d_X_bit_0 (by decide) ?_
  refine jr_iload_0 C d_X_bit_1 ?_
  refine jr_lshl C d_X_bit_2 rfl ?_
  exact hR _ _ _ _ d_X_bit_3 ⟨rfl, rfl⟩
theorem cJ_bitCount (x : Int64) : fx_MI l D cl_s tys w y_JL_bitCount (k_JL_bitCount :: tb_l) rm_JL_bitCount [.long x] σ (fun r u => u = σ ∧ r = nI (ct_n (tb_b x) 64)) := by
  refine fx_enterI (by decide +kernel) [some (.long x), none] rfl (Nat.le_of_ble_eq_true rfl) (Nat.le_of_ble_eq_true rfl) (fun X C hR => ?_)
  refine jr_lload_0 C d_JL_bitCount_0 ?_
  refine jr_lload_0 C d_JL_bitCount_1 ?_
  refine jr_iconst (v := nI 1) C d_JL_bitCount_2 (by decide) ?_
  refine jr_lushr C d_JL_bitCount_3 rfl ?_
  refine jr_ldc2 C d_JL_bitCount_4 (List.mem_cons_of_mem _ cl_JL_314) ?_
  refine jr_land C d_JL_bitCount_7 ?_
  refine jr_lsub C d_JL_bitCount_8 ?_
  refine jr_topl (fun i1 e1 => ?_)
  refine jr_lstore_0 C d_JL_bitCount_9 ?_
  refine jr_lload_0 C d_JL_bitCount_10 ?_
  refine jr_ldc2 C d_JL_bitCount_11 (List.mem_cons_of_mem _ cl_JL_316) ?_
  refine jr_land C d_JL_bitCount_14 ?_
  refine jr_lload_0 C d_JL_bitCount_15 ?_
  refine jr_iconst (v := nI 2) C d_JL_bitCount_16 (by decide) ?_
  refine jr_lushr C d_JL_bitCount_17 rfl ?_
  refine jr_ldc2 C d_JL_bitCount_18 (List.mem_cons_of_mem _ cl_JL_316) ?_
  refine jr_land C d_JL_bitCount_21 ?_
  refine jr_ladd C d_JL_bitCount_22 ?_
  refine jr_topl (fun i2 e2 => ?_)
  refine jr_lstore_0 C d_JL_bitCount_23 ?_
  refine jr_lload_0 C d_JL_bitCount_24 ?_
  refine jr_lload_0 C d_JL_bitCount_25 ?_
  refine jr_iconst (v := nI 4) C d_JL_bitCount_26 (by decide) ?_
  refine jr_lushr C d_JL_bitCount_27 rfl ?_
  refine jr_ladd C d_JL_bitCount_28 ?_
  refine jr_ldc2 C d_JL_bitCount_29 (List.mem_cons_of_mem _ cl_JL_318) ?_
  refine jr_land C d_JL_bitCount_32 ?_
  refine jr_topl (fun i3 e3 => ?_)
  refine jr_lstore_0 C d_JL_bitCount_33 ?_
  refine jr_lload_0 C d_JL_bitCount_34 ?_
  refine jr_lload_0 C d_JL_bitCount_35 ?_
  refine jr_bipush (v := nI 8) C d_JL_bitCount_36 (by decide) ?_
  refine jr_lushr C d_JL_bitCount_38 rfl ?_
  refine jr_ladd C d_JL_bitCount_39 ?_
  refine jr_topl (fun i4 e4 => ?_)
  refine jr_lstore_0 C d_JL_bitCount_40 ?_
  refine jr_lload_0 C d_JL_bitCount_41 ?_
  refine jr_lload_0 C d_JL_bitCount_42 ?_
  refine jr_bipush (v := nI 16) C d_JL_bitCount_43 (by decide) ?_
  refine jr_lushr C d_JL_bitCount_45 rfl ?_
  refine jr_ladd C d_JL_bitCount_46 ?_
  refine jr_topl (fun i5 e5 => ?_)
  refine jr_lstore_0 C d_JL_bitCount_47 ?_
  refine jr_lload_0 C d_JL_bitCount_48 ?_
  refine jr_lload_0 C d_JL_bitCount_49 ?_
  refine jr_bipush (v := nI 32) C d_JL_bitCount_50 (by decide) ?_
  refine jr_lushr C d_JL_bitCount_52 rfl ?_
  refine jr_ladd C d_JL_bitCount_53 ?_
  refine jr_topl (fun i6 e6 => ?_)
  refine jr_lstore_0 C d_JL_bitCount_54 ?_
  refine jr_lload_0 C d_JL_bitCount_55 ?_
  refine jr_l2i C d_JL_bitCount_56 rfl ?_
  refine jr_bipush (v := nI 127) C d_JL_bitCount_57 (by decide) ?_
  refine jr_iand C d_JL_bitCount_59 ?_
  exact hR _ _ _ _ d_JL_bitCount_60 rfl ⟨rfl, bc_main e1 e2 e3 e4 e5 e6⟩
theorem cX_commonDivisor (p a : Nat) (hp : p < 2 ^ 31) (ha : a < 2 ^ 31) (h0 : 0 < a) : fx_MI l D cl_s tys w y_X_commonDivisor (k_X_commonDivisor :: tb_l) rm_X_commonDivisor [.int (nI p), .int (nI a)] σ (fun r u => u = σ ∧ r = nI (Nat.gcd p a)) := by
  refine fx_enterI (by decide +kernel) [some (.int (nI p)), some (.int (nI a)), none] rfl (Nat.le_of_ble_eq_true rfl) (Nat.le_of_ble_eq_true rfl) (fun X C hR => ?_)
  refine jr_iload_1 C d_X_commonDivisor_0 ?_
  refine jr_istore_2 C d_X_commonDivisor_1 rfl ?_
  have L : ∀ d, d ≤ a → (∀ e, d < e → e ≤ a → ¬ (p % e = 0 ∧ a % e = 0)) → fx_J X (w σ) 2 [some (.int (nI p)), some (.int (nI a)), some (.int (nI d))] [] := by
    refine lp_dn (fun d ih hd hn => ?_)
    refine jr_iload_2 C d_X_commonDivisor_2 ?_
    refine jr_iconst (v := nI 1) C d_X_commonDivisor_3 (by decide) ?_
    refine jr_N_le (tgt := 27) C d_X_commonDivisor_4 (by decide) (by omega) (by omega) (fun h => ?_) (fun h => ?_)
    · refine jr_iconst (v := nI 1) C d_X_commonDivisor_27 (by decide) ?_
      refine (fun hz => ?_) (gd_top (d := 1) h0 (Nat.mod_one p) (Nat.mod_one a) (by omega) (fun e he hea => hn e (by omega) hea))
      exact hR _ _ _ _ d_X_commonDivisor_28 rfl ⟨rfl, by rw [← hz]⟩
    · have go : ¬ (p % d = 0 ∧ a % d = 0) → fx_J X (w σ) 21 [some (.int (nI p)), some (.int (nI a)), some (.int (nI d))] [] := by
        intro hnd
        obtain ⟨c, rfl⟩ : ∃ c, d = c + 1 := ⟨d - 1, by omega⟩
        refine jr_decN_2 C d_X_commonDivisor_21 rfl ?_
        refine jr_goto (tgt := 2) C d_X_commonDivisor_24 (by decide) ?_
        refine ih c rfl (by omega) (fun e he hea => ?_)
        by_cases q : e = c + 1
        · subst q
          exact hnd
        · exact hn e (by omega) hea
      refine jr_iload_0 C d_X_commonDivisor_7 ?_
      refine jr_iload_2 C d_X_commonDivisor_8 ?_
      refine jr_iremN C d_X_commonDivisor_9 (by omega) (by omega) (by omega) ?_
      refine jr_if_ne (tgt := 21) C d_X_commonDivisor_10 (by decide) (fun h1 => ?_) (fun h1 => ?_)
      · exact go (fun q => h1 (by rw [q.1]; exact nI_0))
      · refine jr_iload_1 C d_X_commonDivisor_13 ?_
        refine jr_iload_2 C d_X_commonDivisor_14 ?_
        refine jr_iremN C d_X_commonDivisor_15 (by omega) (by omega) (by omega) ?_
        refine jr_if_ne (tgt := 21) C d_X_commonDivisor_16 (by decide) (fun h2 => ?_) (fun h2 => ?_)
        · exact go (fun q => h2 (by rw [q.2]; exact nI_0))
        · refine jr_iload_2 C d_X_commonDivisor_19 ?_
          have e1 : p % d = 0 := (nI_eq (by have := Nat.mod_lt p (show 0 < d by omega); omega) (by omega)).mp (h1.trans nI_0.symm)
          have e2 : a % d = 0 := (nI_eq (by have := Nat.mod_lt a (show 0 < d by omega); omega) (by omega)).mp (h2.trans nI_0.symm)
          exact hR _ _ _ _ d_X_commonDivisor_20 rfl ⟨rfl, by rw [← gd_top h0 e1 e2 (by omega) hn]⟩
  exact L a (Nat.le_refl a) (fun e h1 h2 => by omega)
end LX
section KX
variable {X : fx_M} {l : Launch} {rm : Room} {D : va_G} {tys : List (ClassId × FieldType)} {cc : ByteArray} {c0 : Cond} {pc : Nat} {pl : List (Option Value)} {rest : List Value} {S : Type} {w : S → va_W} {σ : S}
theorem kX_cell {f v : Nat} (C : fx_C X l rm D cl_s tys cc (c0 :: tb_l) R_X) (hR : rm_X_cell.frames + 1 ≤ rm.frames ∧ 8 + (2 + 11) + rm_X_cell.locals ≤ rm.locals) (hrest : (rest.map fun v => v.category).sum ≤ 8) (hd : decode cc pc = .ok (.invokestatic 58, 3)) (kk : fx_J X (w σ) (pc + 3) pl (.int (nI (f * 100 + v)) :: rest)) : fx_J X (w σ) pc pl (.int (nI v) :: .int (nI f) :: rest) := qX_X_cell C (cX_cell l D tys w σ f v) hR hrest hd (fx_p (fun r h => by rw [h]; exact kk))
theorem kX_bit {r : Nat} (C : fx_C X l rm D cl_s tys cc (c0 :: tb_l) R_X) (hR : rm_X_bit.frames + 1 ≤ rm.frames ∧ 8 + (1 + 11) + rm_X_bit.locals ≤ rm.locals) (hrest : (rest.map fun v => v.category).sum ≤ 8) (hd : decode cc pc = .ok (.invokestatic 62, 3)) (kk : fx_J X (w σ) (pc + 3) pl (.long (tb_1 r) :: rest)) : fx_J X (w σ) pc pl (.int (nI r) :: rest) := qX_X_bit C (cX_bit l D tys w σ r) hR hrest hd (fx_p (fun r h => by rw [h]; exact kk))
theorem jr_eqi {ws : va_W} {st : List Value} {x y : Int32} (h : x = y) (kk : fx_J X ws pc pl (.int y :: st)) : fx_J X ws pc pl (.int x :: st) := by rw [h]; exact kk
theorem jr_eql {ws : va_W} {st : List Value} {x y : Int64} (h : x = y) (kk : fx_J X ws pc pl (.long y :: st)) : fx_J X ws pc pl (.long x :: st) := by rw [h]; exact kk
theorem mm_min : Lib.Math.min.name = y_JM_min := by decide +kernel
theorem mb_min : Lib.Math.min.code = b_JM_min := by decide +kernel
theorem mm_max : Lib.Math.max.name = y_JM_max := by decide +kernel
theorem mb_max : Lib.Math.max.code = b_JM_max := by decide +kernel
theorem kX_min {ws : va_W} {x y : Int32} (C : fx_C X l rm D cl_s tys cc (c0 :: tb_l) R_X) (hf : 1 ≤ rm.frames) (hlo : (rest.map fun v => v.category).sum + 13 ≤ rm.locals) (hd : decode cc pc = .ok (.invokestatic 117, 3)) (kk : fx_J X ws (pc + 3) pl (.int (if y < x then y else x) :: rest)) : fx_J X ws pc pl (.int y :: .int x :: rest) := by
  intro H locs ls hP hD hS hl
  obtain ⟨hx, hb, hml, hown, hts, hK, hA, hl0, hrm, hDD, hcl2, hfit⟩ := C
  exact va_mmin hx hb (by rw [hml]; exact hl.2.1.symm) hown (by rw [mm_min]; exact hts _ (List.mem_cons_of_mem _ ml_X_JM_min)) (by rw [mm_min]; exact hts _ (List.mem_cons_of_mem _ st_JM_min)) (hts _ (List.mem_cons_of_mem _ ii_JM)) (by rw [mm_min, mb_min]; exact hts _ (List.mem_cons_of_mem _ ci_JM_min)) (by rw [hrm]; exact hf) (by rw [hrm]; exact hlo) (by rw [hrm]; exact hfit.1) (by rw [hrm]; exact hfit.2) hd (kk H locs ls hP hD hS hl)
theorem kX_max {ws : va_W} {x y : Int32} (C : fx_C X l rm D cl_s tys cc (c0 :: tb_l) R_X) (hf : 1 ≤ rm.frames) (hlo : (rest.map fun v => v.category).sum + 13 ≤ rm.locals) (hd : decode cc pc = .ok (.invokestatic 122, 3)) (kk : fx_J X ws (pc + 3) pl (.int (if x < y then y else x) :: rest)) : fx_J X ws pc pl (.int y :: .int x :: rest) := by
  intro H locs ls hP hD hS hl
  obtain ⟨hx, hb, hml, hown, hts, hK, hA, hl0, hrm, hDD, hcl2, hfit⟩ := C
  exact va_mmax hx hb (by rw [hml]; exact hl.2.1.symm) hown (by rw [mm_max]; exact hts _ (List.mem_cons_of_mem _ ml_X_JM_max)) (by rw [mm_max]; exact hts _ (List.mem_cons_of_mem _ st_JM_max)) (hts _ (List.mem_cons_of_mem _ ii_JM)) (by rw [mm_max, mb_max]; exact hts _ (List.mem_cons_of_mem _ ci_JM_max)) (by rw [hrm]; exact hf) (by rw [hrm]; exact hlo) (by rw [hrm]; exact hfit.1) (by rw [hrm]; exact hfit.2) hd (kk H locs ls hP hD hS hl)
end KX
