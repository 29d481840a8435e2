theorem rc_le {x : Int32} {n : Nat} (hn : n < 2 ^ 31) (h : x ≤ 0) : ¬ ∃ j, 1 ≤ j ∧ j ≤ n ∧ x = nI j := by
  rintro ⟨j, h1, h2, rfl⟩
  exact nI_nle (by omega) (by omega) h
theorem rc_ok2 {x : Int32} {n : Nat} (hn : n < 2 ^ 31) (h1 : ¬ x ≤ 0) (h2 : ¬ nI n < x) : ∃ j, 1 ≤ j ∧ j ≤ n ∧ x = nI j := by
  refine rc_ok hn (fun h => h1 ?_) h2
  rw [Int32.lt_iff_toInt_lt, nI_toInt (by omega)] at h
  rw [Int32.le_iff_toInt_le, Int32.toInt_zero]
  omega
section LM
variable (l : Launch) (D : va_G) (tys : List (ClassId × FieldType)) {S : Type} (w : S → va_W) (σ : S)
theorem cM_isFacet (x : Int32) : fx_MI l D cl_s tys w y_M_isFacet (k_M_isFacet :: tb_l) rm_M_isFacet [.int x] σ (fun r u => u = σ ∧ rg_q (∃ j, j < 6 ∧ x = nI j) r) := by
  refine fx_enterI (by decide +kernel) [some (.int x)] rfl (Nat.le_of_ble_eq_true rfl) (Nat.le_of_ble_eq_true rfl) (fun X C hR => ?_)
  refine jr_iload_0 C d_M_isFacet_0 ?_
  refine jr_if_lt (tgt := 14) C d_M_isFacet_1 (by decide) (fun h => ?_) (fun h => ?_)
  · refine jr_iconst (v := nI 0) C d_M_isFacet_14 (by decide) ?_
    exact hR _ _ _ _ d_M_isFacet_15 rfl ⟨rfl, Or.inr ⟨rfl, rg_neg (by omega) h⟩⟩
  · refine jr_iload_0 C d_M_isFacet_4 ?_
    refine jr_bipush (v := nI 6) C d_M_isFacet_5 (by decide) ?_
    refine jr_icmp_ge (tgt := 14) C d_M_isFacet_7 (by decide) (fun h2 => ?_) (fun h2 => ?_)
    · refine jr_iconst (v := nI 0) C d_M_isFacet_14 (by decide) ?_
      exact hR _ _ _ _ d_M_isFacet_15 rfl ⟨rfl, Or.inr ⟨rfl, rg_big (by omega) h2⟩⟩
    · refine jr_iconst (v := nI 1) C d_M_isFacet_10 (by decide) ?_
      refine jr_goto (tgt := 15) C d_M_isFacet_11 (by decide) ?_
      exact hR _ _ _ _ d_M_isFacet_15 rfl ⟨rfl, Or.inl ⟨rfl, rg_in (by omega) h h2⟩⟩
theorem cM_isValue (x y : Int32) : fx_MI l D cl_s tys w y_M_isValue (k_M_isValue :: tb_l) rm_M_isValue [.int x, .int y] σ (fun r u => u = σ ∧ rg_q ((∃ j, j < 6 ∧ x = nI j) ∧ ∃ j, j < 100 ∧ y = nI j) r) := by
  refine fx_enterI (by decide +kernel) [some (.int x), some (.int y)] rfl (Nat.le_of_ble_eq_true rfl) (Nat.le_of_ble_eq_true rfl) (fun X C hR => ?_)
  refine jr_iload_0 C d_M_isValue_0 ?_
  refine qM_M_isFacet C (cM_isFacet l D tys w σ x) ⟨Nat.le_of_ble_eq_true rfl, Nat.le_of_ble_eq_true rfl⟩ (Nat.le_of_ble_eq_true rfl) d_M_isValue_1 (fx_p (fun z hz => ?_))
  rcases hz with ⟨rfl, hz⟩ | ⟨rfl, hz⟩
  · refine jr_if_eq (tgt := 21) C d_M_isValue_4 (by decide) (fun h => ?_) (fun h => ?_)
    · exact absurd h (by decide)
    · refine jr_iload_1 C d_M_isValue_7 ?_
      refine jr_if_lt (tgt := 21) C d_M_isValue_8 (by decide) (fun h1 => ?_) (fun h1 => ?_)
      · refine jr_iconst (v := nI 0) C d_M_isValue_21 (by decide) ?_
        exact hR _ _ _ _ d_M_isValue_22 rfl ⟨rfl, Or.inr ⟨rfl, fun q => rg_neg (by omega) h1 q.2⟩⟩
      · refine jr_iload_1 C d_M_isValue_11 ?_
        refine jr_bipush (v := nI 100) C d_M_isValue_12 (by decide) ?_
        refine jr_icmp_ge (tgt := 21) C d_M_isValue_14 (by decide) (fun h2 => ?_) (fun h2 => ?_)
        · refine jr_iconst (v := nI 0) C d_M_isValue_21 (by decide) ?_
          exact hR _ _ _ _ d_M_isValue_22 rfl ⟨rfl, Or.inr ⟨rfl, fun q => rg_big (by omega) h2 q.2⟩⟩
        · refine jr_iconst (v := nI 1) C d_M_isValue_17 (by decide) ?_
          refine jr_goto (tgt := 22) C d_M_isValue_18 (by decide) ?_
          exact hR _ _ _ _ d_M_isValue_22 rfl ⟨rfl, Or.inl ⟨rfl, hz, rg_in (by omega) h1 h2⟩⟩
  · refine jr_if_eq (tgt := 21) C d_M_isValue_4 (by decide) (fun h => ?_) (fun h => ?_)
    · refine jr_iconst (v := nI 0) C d_M_isValue_21 (by decide) ?_
      exact hR _ _ _ _ d_M_isValue_22 rfl ⟨rfl, Or.inr ⟨rfl, fun q => hz q.1⟩⟩
    · exact absurd nI_0 h
end LM
section LM2
variable (l : Launch) (D : va_G) (q : Nat → Nat) (k : Nat → ClassId) (τ : sm_T)
theorem cM_thrown : fx_MI l D cl_s (ty_M k) (w_M q k) y_M_thrown (k_M_thrown :: tb_l) rm_M_thrown [.ref (q 0)] τ (fun r u => u = τ ∧ r = m_thr τ) := by
  refine fx_enterI (by decide +kernel) [some (.ref (q 0))] rfl (Nat.le_of_ble_eq_true rfl) (Nat.le_of_ble_eq_true rfl) (fun X C hR => ?_)
  refine jr_aload_0 C d_M_thrown_0 ?_
  refine gM_thrown C d_M_thrown_1 ?_
  exact hR _ _ _ _ d_M_thrown_4 rfl ⟨rfl, rfl⟩
theorem cM_isRecord (x : Int32) (n : Nat) (hn : n ≤ 60) (hr : m_rec τ = nI n) : fx_MI l D cl_s (ty_M k) (w_M q k) y_M_isRecord (k_M_isRecord :: tb_l) rm_M_isRecord [.ref (q 0), .int x] τ (fun r u => u = τ ∧ rg_q (∃ j, 1 ≤ j ∧ j ≤ n ∧ x = nI j) r) := by
  refine fx_enterI (by decide +kernel) [some (.ref (q 0)), some (.int x)] rfl (Nat.le_of_ble_eq_true rfl) (Nat.le_of_ble_eq_true rfl) (fun X C hR => ?_)
  refine jr_iload_1 C d_M_isRecord_0 ?_
  refine jr_if_le (tgt := 16) C d_M_isRecord_1 (by decide) (fun h => ?_) (fun h => ?_)
  · refine jr_iconst (v := nI 0) C d_M_isRecord_16 (by decide) ?_
    exact hR _ _ _ _ d_M_isRecord_17 rfl ⟨rfl, Or.inr ⟨rfl, rc_le (by omega) h⟩⟩
  · refine jr_iload_1 C d_M_isRecord_4 ?_
    refine jr_aload_0 C d_M_isRecord_5 ?_
    refine gM_records C d_M_isRecord_6 ?_
    refine jr_eqi hr ?_
    refine jr_icmp_gt (tgt := 16) C d_M_isRecord_9 (by decide) (fun h2 => ?_) (fun h2 => ?_)
    · refine jr_iconst (v := nI 0) C d_M_isRecord_16 (by decide) ?_
      exact hR _ _ _ _ d_M_isRecord_17 rfl ⟨rfl, Or.inr ⟨rfl, rc_gt (by omega) h2⟩⟩
    · refine jr_iconst (v := nI 1) C d_M_isRecord_12 (by decide) ?_
      refine jr_goto (tgt := 17) C d_M_isRecord_13 (by decide) ?_
      exact hR _ _ _ _ d_M_isRecord_17 rfl ⟨rfl, Or.inl ⟨rfl, rc_ok2 (by omega) h h2⟩⟩
theorem cM_find (a : ab_T) (R : Nat → Nat × Nat × Nat) (hv4 : a_v a ≤ 400) (hm : rm_r a R τ) (x y z : Int32) : fx_MI l D cl_s (ty_M k) (w_M q k) y_M_find (k_M_find :: tb_l) rm_M_find [.ref (q 0), .int x, .int y, .int z] τ (fun r u => u = τ ∧ ((∃ j, j < a_v a ∧ r = nI j ∧ nI (R j).1 = x ∧ nI (R j).2.1 = y ∧ nI (R j).2.2 = z) ∨ (r = -1 ∧ ∀ j, j < a_v a → ¬ (nI (R j).1 = x ∧ nI (R j).2.1 = y ∧ nI (R j).2.2 = z)))) := by
  obtain ⟨-, hval, hrow, -⟩ := hm
  refine fx_enterI (by decide +kernel) [some (.ref (q 0)), some (.int x), some (.int y), some (.int z), none] rfl (Nat.le_of_ble_eq_true rfl) (Nat.le_of_ble_eq_true rfl) (fun X C hR => ?_)
  refine jr_iconst (v := nI 0) C d_M_find_0 (by decide) ?_
  refine jr_istore_4 C d_M_find_1 rfl ?_
  have L := lp_up (P := fun i => (∀ j, j < i → ¬ (nI (R j).1 = x ∧ nI (R j).2.1 = y ∧ nI (R j).2.2 = z)) → fx_J X (w_M q k τ) 3 [some (.ref (q 0)), some (.int x), some (.int y), some (.int z), some (.int (nI i))] []) (a_v a) (fun i hi ih hno => ?_)
  · exact L 0 (by omega) (fun j hj => by omega)
  · refine jr_iload_4 C d_M_find_3 ?_
    refine jr_aload_0 C d_M_find_5 ?_
    refine gM_values C d_M_find_6 ?_
    refine jr_eqi hval ?_
    refine jr_N_ge (tgt := 64) C d_M_find_9 (by decide) (by omega) (by omega) (fun h => ?_) (fun h => ?_)
    · refine jr_iconst (v := -1) C d_M_find_64 (by decide) ?_
      exact hR _ _ _ _ d_M_find_65 rfl ⟨rfl, Or.inr ⟨rfl, fun j hj => hno j (by omega)⟩⟩
    · obtain ⟨-, -, -, -, r1, r2, r3⟩ := hrow i h
      have go : ¬ (nI (R i).1 = x ∧ nI (R i).2.1 = y ∧ nI (R i).2.2 = z) → fx_J X (w_M q k τ) 58 [some (.ref (q 0)), some (.int x), some (.int y), some (.int z), some (.int (nI i))] [] := by
        intro hn
        refine jr_incN_4 C d_M_find_58 rfl ?_
        refine jr_goto (tgt := 3) C d_M_find_61 (by decide) ?_
        refine ih h (fun j hj => ?_)
        by_cases e : j = i
        · rw [e]; exact hn
        · exact hno j (by omega)
      refine jr_aload_0 C d_M_find_12 ?_
      refine gM_rows C d_M_find_13 ?_
      refine jr_iconst (v := nI 3) C d_M_find_16 (by decide) ?_
      refine jr_iload_4 C d_M_find_17 ?_
      refine jr_imulN C d_M_find_19 ?_
      refine aM_rows C (by omega) d_M_find_20 ?_
      refine jr_eqi r1 ?_
      refine jr_iload_1 C d_M_find_21 ?_
      refine jr_icmp_ne (tgt := 58) C d_M_find_22 (by decide) (fun h1 => ?_) (fun h1 => ?_)
      · exact go (fun q => h1 q.1)
      · refine jr_aload_0 C d_M_find_25 ?_
        refine gM_rows C d_M_find_26 ?_
        refine jr_iconst (v := nI 3) C d_M_find_29 (by decide) ?_
        refine jr_iload_4 C d_M_find_30 ?_
        refine jr_imulN C d_M_find_32 ?_
        refine jr_iconst (v := nI 1) C d_M_find_33 (by decide) ?_
        refine jr_iaddN C d_M_find_34 ?_
        refine aM_rows C (by omega) d_M_find_35 ?_
        refine jr_eqi r2 ?_
        refine jr_iload_2 C d_M_find_36 ?_
        refine jr_icmp_ne (tgt := 58) C d_M_find_37 (by decide) (fun h2 => ?_) (fun h2 => ?_)
        · exact go (fun q => h2 q.2.1)
        · refine jr_aload_0 C d_M_find_40 ?_
          refine gM_rows C d_M_find_41 ?_
          refine jr_iconst (v := nI 3) C d_M_find_44 (by decide) ?_
          refine jr_iload_4 C d_M_find_45 ?_
          refine jr_imulN C d_M_find_47 ?_
          refine jr_iconst (v := nI 2) C d_M_find_48 (by decide) ?_
          refine jr_iaddN C d_M_find_49 ?_
          refine aM_rows C (by omega) d_M_find_50 ?_
          refine jr_eqi r3 ?_
          refine jr_iload_3 C d_M_find_51 ?_
          refine jr_icmp_ne (tgt := 58) C d_M_find_52 (by decide) (fun h3 => ?_) (fun h3 => ?_)
          · exact go (fun q => h3 q.2.2)
          · refine jr_iload_4 C d_M_find_55 ?_
            exact hR _ _ _ _ d_M_find_57 rfl ⟨rfl, Or.inl ⟨i, h, rfl, h1, h2, h3⟩⟩
theorem cM_lies (p : Nat → Nat) (ht : tr_w p) (f v o : Nat) (hf : f < 6) (hv : v < 100) (ho : o < 100) (hb : ∀ u, u < 100 → m_bro τ (100 * f + u) = en_p (p u)) : fx_MI l D cl_s (ty_M k) (w_M q k) y_M_lies (k_M_lies :: tb_l) rm_M_lies [.ref (q 0), .int (nI f), .int (nI v), .int (nI o)] τ (fun z u => u = τ ∧ z = b01 (bx_b (ab_o p v o))) := by
  refine fx_enterI (by decide +kernel) [some (.ref (q 0)), some (.int (nI f)), some (.int (nI v)), some (.int (nI o)), none] rfl (Nat.le_of_ble_eq_true rfl) (Nat.le_of_ble_eq_true rfl) (fun X C hR => ?_)
  obtain ⟨hp1, hp2, ρ, hρ⟩ := ht
  refine jr_iload_2 C d_M_lies_0 ?_
  refine jr_istore_4 C d_M_lies_1 rfl ?_
  have L := lp_ms (P := fun w => (ab_o p v o ↔ ab_o p w o) → fx_J X (w_M q k τ) 3 [some (.ref (q 0)), some (.int (nI f)), some (.int (nI v)), some (.int (nI o)), some (.int (en_p w))] []) (fun w => if w < 100 then ρ w + 1 else 0) (fun w ih hw => ?_)
  · have := L v Iff.rfl
    rw [en_in hv] at this
    exact this
  · have out : (w = o ∨ 100 ≤ w) → fx_J X (w_M q k τ) 32 [some (.ref (q 0)), some (.int (nI f)), some (.int (nI v)), some (.int (nI o)), some (.int (en_p w))] [] := by
      intro hwo
      refine jr_iload_4 C d_M_lies_32 ?_
      refine jr_iload_3 C d_M_lies_34 ?_
      refine jr_icmp_ne (tgt := 42) C d_M_lies_35 (by decide) (fun h => ?_) (fun h => ?_)
      · refine jr_iconst (v := nI 0) C d_M_lies_42 (by decide) ?_
        have hne : ¬ w = o := fun e => h (by rw [e, en_in ho])
        exact hR _ _ _ _ d_M_lies_43 rfl ⟨rfl, by
          rw [bx_neg.mpr (fun g => ?_)]
          · rfl
          · rcases hwo with e | e
            · exact hne e
            · exact ab_out hp2 e ho (hw.mp g)⟩
      · refine jr_iconst (v := nI 1) C d_M_lies_38 (by decide) ?_
        refine jr_goto (tgt := 43) C d_M_lies_39 (by decide) ?_
        have he : w = o := by
          rcases hwo with e | e
          · exact e
          · rw [en_no e] at h
            exact absurd h.symm (nI_m1 (by omega))
        exact hR _ _ _ _ d_M_lies_43 rfl ⟨rfl, by rw [bx_iff.mpr (hw.mpr (by rw [he]; exact ab_rf p o))]; rfl⟩
    refine jr_iload_4 C d_M_lies_3 ?_
    refine jr_iconst (v := -1) C d_M_lies_5 (by decide) ?_
    refine jr_icmp_eq (tgt := 32) C d_M_lies_6 (by decide) (fun h => ?_) (fun h => ?_)
    · exact out (Or.inr (en_m1.mp h))
    · have hw100 : w < 100 := by
        rcases Nat.lt_or_ge w 100 with g | g
        · exact g
        · exact absurd (en_no g) h
      refine jr_iload_4 C d_M_lies_9 ?_
      refine jr_iload_3 C d_M_lies_11 ?_
      refine jr_icmp_eq (tgt := 32) C d_M_lies_12 (by decide) (fun h2 => ?_) (fun h2 => ?_)
      · exact out (Or.inl ((nI_eq (by omega) (by omega)).mp (by rw [← en_in hw100]; exact h2)))
      · rw [en_in hw100] at h2 ⊢
        refine jr_aload_0 C d_M_lies_15 ?_
        refine gM_broader C d_M_lies_16 ?_
        refine jr_bipush (v := nI 100) C d_M_lies_19 (by decide) ?_
        refine jr_iload_1 C d_M_lies_21 ?_
        refine jr_imulN C d_M_lies_22 ?_
        refine jr_iload_4 C d_M_lies_23 ?_
        refine jr_iaddN C d_M_lies_25 ?_
        refine aM_broader C (by omega) d_M_lies_26 ?_
        refine jr_eqi (hb w hw100) ?_
        refine jr_istore_4 C d_M_lies_27 rfl ?_
        refine jr_goto (tgt := 3) C d_M_lies_29 (by decide) ?_
        refine ih (p w) ?_ ?_
        · try dsimp only
          rw [if_pos hw100]
          split
          · next g => have := hρ w hw100 g; omega
          · omega
        · rw [hw, ab_cs]
          constructor
          · rintro (e | e)
            · exact absurd (by rw [e]) h2
            · exact e
          · exact Or.inr
end LM2
