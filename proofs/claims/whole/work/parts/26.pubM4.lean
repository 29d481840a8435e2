section PM4
variable (l : Launch) (D : va_G) (q : Nat → Nat) (k : Nat → ClassId) (τ : sm_T) (a : ab_T) (R : Nat → Nat × Nat × Nat)
theorem cM_band (hw : a_wf a) (hm : rm_r a R τ) (y lo hi : Int32) : fx_MI l D cl_s (ty_M k) (w_M q k) y_M_band (k_M_band :: tb_l) rm_M_band [.ref (q 0), .int y, .int lo, .int hi] τ (fun r u => r = sp_band a y lo hi ∧ rm_r a R u) := by
  have hn := hw.1
  have hv4 := hw.2.1
  refine fx_enterI (by decide +kernel) [some (.ref (q 0)), some (.int y), some (.int lo), some (.int hi), none, none, none, none] rfl (Nat.le_of_ble_eq_true rfl) (Nat.le_of_ble_eq_true rfl) (fun X C hR => ?_)
  unfold sp_band at hR
  refine jr_aload_0 C d_M_band_0 ?_
  refine jr_iconst (v := nI 0) C d_M_band_1 (by decide) ?_
  refine pM_thrown C d_M_band_2 ?_
  refine jr_iload_1 C d_M_band_5 ?_
  refine qM_M_isFacet C (cM_isFacet l D (ty_M k) (w_M q k) (ms_thr τ (nI 0)) y) ⟨Nat.le_of_ble_eq_true rfl, Nat.le_of_ble_eq_true rfl⟩ (Nat.le_of_ble_eq_true rfl) d_M_band_6 (fx_p (fun z1 h1 => ?_))
  rcases h1 with ⟨rfl, f, hf, rfl⟩ | ⟨rfl, h1⟩
  · rw [ix_in hf (by omega)] at hR
    refine jr_if_eq (tgt := 17) C d_M_band_9 (by decide) (fun e1 => ?_) (fun e1 => ?_)
    · exact absurd e1 (by decide)
    · refine jr_iload_3 C d_M_band_12 ?_
      refine jr_iload_2 C d_M_band_13 ?_
      refine jr_icmp_ge (tgt := 19) C d_M_band_14 (by decide) (fun e2 => ?_) (fun e2 => ?_)
      · have e3 : ¬ hi < lo := by
          rw [Int32.lt_iff_toInt_lt]
          rw [Int32.le_iff_toInt_le] at e2
          omega
        dsimp only at hR
        rw [if_neg e3] at hR
        refine jr_iconst (v := nI 0) C d_M_band_19 (by decide) ?_
        refine jr_istore_4 C d_M_band_20 rfl ?_
        refine jr_aload_0 C d_M_band_22 ?_
        refine qM_M_sort C (cM_sort l D q k (ms_thr τ (nI 0)) a R hw hm) rfl ⟨Nat.le_of_ble_eq_true rfl, Nat.le_of_ble_eq_true rfl⟩ (Nat.le_of_ble_eq_true rfl) d_M_band_23 (fun u hu => ?_)
        obtain ⟨A, O, L, m, rfl, hL, -⟩ := hu
        refine jr_iconst (v := nI 1) C d_M_band_26 (by decide) ?_
        refine jr_istore_5 C d_M_band_27 rfl ?_
        generalize eS : ms_man (ms_lft (ms_one (ms_any (ms_thr τ (nI 0)) A) O) L) m = σ2
        have hlft : ∀ r, 1 ≤ r → r ≤ a_n a → m_lft σ2 r = b01 (bx_b (a_left a r)) := by rw [← eS]; exact hL
        have hm2 : rm_r a R σ2 := by rw [← eS]; exact hm
        obtain ⟨m1, m2, m3, m4, m5, m6, m7⟩ := id hm2
        have h0 : bx_b (a_left a 0 ∧ ∃ v : Nat, v < 100 ∧ lo.toInt ≤ (v : Int) ∧ (v : Int) ≤ hi.toInt ∧ a_own a 0 f v = true) = false := bx_neg.mpr (fun h => by have := (hw.2.2.2.1 0 h.1.1).1; omega)
        have LR := lp_up (P := fun r => 1 ≤ r → ∀ z6 z7 : Option Value, fx_J X (w_M q k σ2) 29 [some (.ref (q 0)), some (.int (nI f)), some (.int lo), some (.int hi), some (.int (nI (ct_n (fun r => bx_b (a_left a r ∧ ∃ v : Nat, v < 100 ∧ lo.toInt ≤ (v : Int) ∧ (v : Int) ≤ hi.toInt ∧ a_own a r f v = true)) r))), some (.int (nI r)), z6, z7] []) (a_n a + 1) (fun r hr ih hr1 z6 z7 => ?_)
        · have := LR 1 (by omega) (Nat.le_refl 1) none none
          rw [show ct_n (fun r => bx_b (a_left a r ∧ ∃ v : Nat, v < 100 ∧ lo.toInt ≤ (v : Int) ∧ (v : Int) ≤ hi.toInt ∧ a_own a r f v = true)) 1 = 0 from ct_sf (p := fun r => bx_b (a_left a r ∧ ∃ v : Nat, v < 100 ∧ lo.toInt ≤ (v : Int) ∧ (v : Int) ≤ hi.toInt ∧ a_own a r f v = true)) h0] at this
          exact this
        · refine jr_iload_5 C d_M_band_29 ?_
          refine jr_aload_0 C d_M_band_31 ?_
          refine gM_records C d_M_band_32 ?_
          refine jr_eqi m1 ?_
          refine jr_N_gt (tgt := 161) C d_M_band_35 (by decide) (by omega) (by omega) (fun h => ?_) (fun h => ?_)
          · refine jr_iload_4 C d_M_band_161 ?_
            exact hR _ _ _ _ d_M_band_163 rfl ⟨congrArg nI (by
              rw [show r = a_n a + 1 by omega]
              exact (ct_ext (by omega) (fun i h1 h2 => bx_neg.mpr (fun g => by have := (hw.2.2.2.1 i g.1.1).2; omega))).symm), hm2⟩
          · refine jr_iconst (v := nI 0) C d_M_band_38 (by decide) ?_
            refine jr_istore_6 C d_M_band_39 rfl ?_
            refine jr_iconst (v := nI 0) C d_M_band_41 (by decide) ?_
            refine jr_istore_7 C d_M_band_42 rfl ?_
            have LK := lp_up (P := fun i => fx_J X (w_M q k σ2) 44 [some (.ref (q 0)), some (.int (nI f)), some (.int lo), some (.int hi), some (.int (nI (ct_n (fun r => bx_b (a_left a r ∧ ∃ v : Nat, v < 100 ∧ lo.toInt ≤ (v : Int) ∧ (v : Int) ≤ hi.toInt ∧ a_own a r f v = true)) r))), some (.int (nI r)), some (.int (b01 (bx_b (∃ j, j < i ∧ (R j).1 = r ∧ (R j).2.1 = f ∧ lo.toInt ≤ ((R j).2.2 : Int) ∧ ((R j).2.2 : Int) ≤ hi.toInt)))), some (.int (nI i))] []) (a_v a) (fun i hi2 ih2 => ?_)
            · have := LK 0 (by omega)
              rw [bx_neg.mpr (fun ⟨j, g, _⟩ => by omega)] at this
              exact this
            · refine jr_iload_7 C d_M_band_44 ?_
              refine jr_aload_0 C d_M_band_46 ?_
              refine gM_values C d_M_band_47 ?_
              refine jr_eqi m2 ?_
              refine jr_N_ge (tgt := 130) C d_M_band_50 (by decide) (by omega) (by omega) (fun h2 => ?_) (fun h2 => ?_)
              · have eX : bx_b (∃ j, j < i ∧ (R j).1 = r ∧ (R j).2.1 = f ∧ lo.toInt ≤ ((R j).2.2 : Int) ∧ ((R j).2.2 : Int) ≤ hi.toInt) = bx_b (∃ v : Nat, v < 100 ∧ lo.toInt ≤ (v : Int) ∧ (v : Int) ≤ hi.toInt ∧ a_own a r f v = true) := by
                  refine bx_congr ⟨fun ⟨j, g1, g2, g3, g4, g5⟩ => ⟨(R j).2.2, (m3 j (by omega)).2.2.2.1, g4, g5, (pm_own hm2 r f _).mpr ⟨j, by omega, by rw [← g2, ← g3]⟩⟩, fun ⟨v, g1, g2, g3, g4⟩ => ?_⟩
                  obtain ⟨j, g5, g6⟩ := (pm_own hm2 r f v).mp g4
                  exact ⟨j, by omega, by rw [g6], by rw [g6], by rw [g6]; exact g2, by rw [g6]; exact g3⟩
                rw [eX]
                have go : ∀ b, ct_n (fun r => bx_b (a_left a r ∧ ∃ v : Nat, v < 100 ∧ lo.toInt ≤ (v : Int) ∧ (v : Int) ≤ hi.toInt ∧ a_own a r f v = true)) r + b = ct_n (fun r => bx_b (a_left a r ∧ ∃ v : Nat, v < 100 ∧ lo.toInt ≤ (v : Int) ∧ (v : Int) ≤ hi.toInt ∧ a_own a r f v = true)) (r + 1) → ∀ z6 z7 : Option Value, fx_J X (w_M q k σ2) 152 [some (.ref (q 0)), some (.int (nI f)), some (.int lo), some (.int hi), some (.int (nI (ct_n (fun r => bx_b (a_left a r ∧ ∃ v : Nat, v < 100 ∧ lo.toInt ≤ (v : Int) ∧ (v : Int) ≤ hi.toInt ∧ a_own a r f v = true)) r))), some (.int (nI r)), z6, z7] [.int (nI b), .int (nI (ct_n (fun r => bx_b (a_left a r ∧ ∃ v : Nat, v < 100 ∧ lo.toInt ≤ (v : Int) ∧ (v : Int) ≤ hi.toInt ∧ a_own a r f v = true)) r))] := by
                  intro b hb z6 z7
                  refine jr_iaddN C d_M_band_152 ?_
                  refine jr_istore_4 C d_M_band_153 rfl ?_
                  refine jr_incN_5 C d_M_band_155 rfl ?_
                  refine jr_goto (tgt := 29) C d_M_band_158 (by decide) ?_
                  rw [hb]
                  exact ih (by omega) (by omega) _ _
                refine jr_iload_4 C d_M_band_130 ?_
                refine jr_iload_6 C d_M_band_132 ?_
                refine jr_if_eq (tgt := 151) C d_M_band_134 (by decide) (fun h3 => ?_) (fun h3 => ?_)
                · rw [b01_eq, bx_neg] at h3
                  refine jr_iconst (v := nI 0) C d_M_band_151 (by decide) ?_
                  exact go 0 (ct_sf (p := fun r => bx_b (a_left a r ∧ ∃ v : Nat, v < 100 ∧ lo.toInt ≤ (v : Int) ∧ (v : Int) ≤ hi.toInt ∧ a_own a r f v = true)) (bx_neg.mpr (fun g => h3 g.2))).symm _ _
                · rw [b01_ne, bx_iff] at h3
                  refine jr_aload_0 C d_M_band_137 ?_
                  refine gM_left C d_M_band_138 ?_
                  refine jr_iload_5 C d_M_band_141 ?_
                  refine aM_left C (by omega) d_M_band_143 ?_
                  refine jr_eqi (hlft r hr1 (by omega)) ?_
                  refine jr_if_eq (tgt := 151) C d_M_band_144 (by decide) (fun h4 => ?_) (fun h4 => ?_)
                  · rw [b01_eq, bx_neg] at h4
                    refine jr_iconst (v := nI 0) C d_M_band_151 (by decide) ?_
                    exact go 0 (ct_sf (p := fun r => bx_b (a_left a r ∧ ∃ v : Nat, v < 100 ∧ lo.toInt ≤ (v : Int) ∧ (v : Int) ≤ hi.toInt ∧ a_own a r f v = true)) (bx_neg.mpr (fun g => h4 g.1))).symm _ _
                  · rw [b01_ne, bx_iff] at h4
                    refine jr_iconst (v := nI 1) C d_M_band_147 (by decide) ?_
                    refine jr_goto (tgt := 152) C d_M_band_148 (by decide) ?_
                    exact go 1 (ct_st (p := fun r => bx_b (a_left a r ∧ ∃ v : Nat, v < 100 ∧ lo.toInt ≤ (v : Int) ∧ (v : Int) ≤ hi.toInt ∧ a_own a r f v = true)) (bx_iff.mpr ⟨h4, h3⟩)).symm _ _
              · obtain ⟨r1, r2, r3, r4, r5, r6, r7⟩ := m3 i h2
                have go : ∀ (b : Bool) (z6 : Option Value), (b = true ↔ ∃ j, j < i + 1 ∧ (R j).1 = r ∧ (R j).2.1 = f ∧ lo.toInt ≤ ((R j).2.2 : Int) ∧ ((R j).2.2 : Int) ≤ hi.toInt) → fx_J X (w_M q k σ2) 122 [some (.ref (q 0)), some (.int (nI f)), some (.int lo), some (.int hi), some (.int (nI (ct_n (fun r => bx_b (a_left a r ∧ ∃ v : Nat, v < 100 ∧ lo.toInt ≤ (v : Int) ∧ (v : Int) ≤ hi.toInt ∧ a_own a r f v = true)) r))), some (.int (nI r)), z6, some (.int (nI i))] [.int (b01 b)] := by
                  intro b z6 hb
                  refine jr_istore_6 C d_M_band_122 rfl ?_
                  refine jr_incN_7 C d_M_band_124 rfl ?_
                  refine jr_goto (tgt := 44) C d_M_band_127 (by decide) ?_
                  rw [← bx_eq hb.symm]
                  exact ih2 h2
                have no : ∀ z6 : Option Value, (¬ ∃ j, j < i + 1 ∧ (R j).1 = r ∧ (R j).2.1 = f ∧ lo.toInt ≤ ((R j).2.2 : Int) ∧ ((R j).2.2 : Int) ≤ hi.toInt) → fx_J X (w_M q k σ2) 121 [some (.ref (q 0)), some (.int (nI f)), some (.int lo), some (.int hi), some (.int (nI (ct_n (fun r => bx_b (a_left a r ∧ ∃ v : Nat, v < 100 ∧ lo.toInt ≤ (v : Int) ∧ (v : Int) ≤ hi.toInt ∧ a_own a r f v = true)) r))), some (.int (nI r)), z6, some (.int (nI i))] [] := by
                  intro z6 hn
                  refine jr_iconst (v := nI 0) C d_M_band_121 (by decide) ?_
                  exact go false _ ⟨fun g => absurd g (by decide), fun g => absurd g hn⟩
                refine jr_iload_6 C d_M_band_53 ?_
                refine jr_if_ne (tgt := 117) C d_M_band_55 (by decide) (fun h3 => ?_) (fun h3 => ?_)
                · rw [b01_ne, bx_iff] at h3
                  obtain ⟨j, g1, g2⟩ := h3
                  refine jr_iconst (v := nI 1) C d_M_band_117 (by decide) ?_
                  refine jr_goto (tgt := 122) C d_M_band_118 (by decide) ?_
                  exact go true _ ⟨fun _ => ⟨j, by omega, g2⟩, fun _ => rfl⟩
                · rw [b01_eq, bx_neg] at h3
                  have key : (¬ ((R i).1 = r ∧ (R i).2.1 = f ∧ lo.toInt ≤ ((R i).2.2 : Int) ∧ ((R i).2.2 : Int) ≤ hi.toInt)) → ¬ ∃ j, j < i + 1 ∧ (R j).1 = r ∧ (R j).2.1 = f ∧ lo.toInt ≤ ((R j).2.2 : Int) ∧ ((R j).2.2 : Int) ≤ hi.toInt := by
                    rintro hk ⟨j, g1, g2⟩
                    by_cases e : j = i
                    · rw [e] at g2; exact hk g2
                    · exact h3 ⟨j, by omega, g2⟩
                  refine jr_aload_0 C d_M_band_58 ?_
                  refine gM_rows C d_M_band_59 ?_
                  refine jr_iconst (v := nI 3) C d_M_band_62 (by decide) ?_
                  refine jr_iload_7 C d_M_band_63 ?_
                  refine jr_imulN C d_M_band_65 ?_
                  refine aM_rows C (by omega) d_M_band_66 ?_
                  refine jr_eqi r5 ?_
                  refine jr_iload_5 C d_M_band_67 ?_
                  refine jr_N_ne (tgt := 121) C d_M_band_69 (by decide) (by omega) (by omega) (fun h4 => ?_) (fun h4 => ?_)
                  · exact no _ (key (fun g => h4 g.1))
                  · refine jr_aload_0 C d_M_band_72 ?_
                    refine gM_rows C d_M_band_73 ?_
                    refine jr_iconst (v := nI 3) C d_M_band_76 (by decide) ?_
                    refine jr_iload_7 C d_M_band_77 ?_
                    refine jr_imulN C d_M_band_79 ?_
                    refine jr_iconst (v := nI 1) C d_M_band_80 (by decide) ?_
                    refine jr_iaddN C d_M_band_81 ?_
                    refine aM_rows C (by omega) d_M_band_82 ?_
                    refine jr_eqi r6 ?_
                    refine jr_iload_1 C d_M_band_83 ?_
                    refine jr_N_ne (tgt := 121) C d_M_band_84 (by decide) (by omega) (by omega) (fun h5 => ?_) (fun h5 => ?_)
                    · exact no _ (key (fun g => h5 g.2.1))
                    · refine jr_aload_0 C d_M_band_87 ?_
                      refine gM_rows C d_M_band_88 ?_
                      refine jr_iconst (v := nI 3) C d_M_band_91 (by decide) ?_
                      refine jr_iload_7 C d_M_band_92 ?_
                      refine jr_imulN C d_M_band_94 ?_
                      refine jr_iconst (v := nI 2) C d_M_band_95 (by decide) ?_
                      refine jr_iaddN C d_M_band_96 ?_
                      refine aM_rows C (by omega) d_M_band_97 ?_
                      refine jr_eqi r7 ?_
                      refine jr_iload_2 C d_M_band_98 ?_
                      refine jr_icmp_lt (tgt := 121) C d_M_band_99 (by decide) (fun h6 => ?_) (fun h6 => ?_)
                      · rw [Int32.lt_iff_toInt_lt, nI_toInt (by omega)] at h6
                        exact no _ (key (fun g => by have := g.2.2.1; omega))
                      · rw [Int32.lt_iff_toInt_lt, nI_toInt (by omega)] at h6
                        refine jr_aload_0 C d_M_band_102 ?_
                        refine gM_rows C d_M_band_103 ?_
                        refine jr_iconst (v := nI 3) C d_M_band_106 (by decide) ?_
                        refine jr_iload_7 C d_M_band_107 ?_
                        refine jr_imulN C d_M_band_109 ?_
                        refine jr_iconst (v := nI 2) C d_M_band_110 (by decide) ?_
                        refine jr_iaddN C d_M_band_111 ?_
                        refine aM_rows C (by omega) d_M_band_112 ?_
                        refine jr_eqi r7 ?_
                        refine jr_iload_3 C d_M_band_113 ?_
                        refine jr_icmp_gt (tgt := 121) C d_M_band_114 (by decide) (fun h7 => ?_) (fun h7 => ?_)
                        · rw [Int32.lt_iff_toInt_lt, nI_toInt (by omega)] at h7
                          exact no _ (key (fun g => by have := g.2.2.2; omega))
                        · rw [Int32.lt_iff_toInt_lt, nI_toInt (by omega)] at h7
                          refine jr_iconst (v := nI 1) C d_M_band_117 (by decide) ?_
                          refine jr_goto (tgt := 122) C d_M_band_118 (by decide) ?_
                          exact go true _ ⟨fun _ => ⟨i, by omega, h4, h5, by omega, by omega⟩, fun _ => rfl⟩
      · have e3 : hi < lo := by
          rw [Int32.lt_iff_toInt_lt]
          rw [Int32.le_iff_toInt_le] at e2
          omega
        dsimp only at hR
        rw [if_pos e3] at hR
        refine jr_iconst (v := -1) C d_M_band_17 (by decide) ?_
        exact hR _ _ _ _ d_M_band_18 rfl ⟨rfl, hm⟩
  · rw [ix_no (by omega) h1] at hR
    refine jr_if_eq (tgt := 17) C d_M_band_9 (by decide) (fun e1 => ?_) (fun e1 => ?_)
    · refine jr_iconst (v := -1) C d_M_band_17 (by decide) ?_
      exact hR _ _ _ _ d_M_band_18 rfl ⟨rfl, hm⟩
    · exact absurd nI_0 e1
theorem cM_missing (hw : a_wf a) (hm : rm_r a R τ) (y : Int32) : fx_MI l D cl_s (ty_M k) (w_M q k) y_M_missing (k_M_missing :: tb_l) rm_M_missing [.ref (q 0), .int y] τ (fun r u => r = sp_missing a y ∧ rm_r a R u) := by
  have hn := hw.1
  have hv4 := hw.2.1
  refine fx_enterI (by decide +kernel) [some (.ref (q 0)), some (.int y), none, none, none, none] rfl (Nat.le_of_ble_eq_true rfl) (Nat.le_of_ble_eq_true rfl) (fun X C hR => ?_)
  unfold sp_missing at hR
  refine jr_aload_0 C d_M_missing_0 ?_
  refine jr_iconst (v := nI 0) C d_M_missing_1 (by decide) ?_
  refine pM_thrown C d_M_missing_2 ?_
  refine jr_iload_1 C d_M_missing_5 ?_
  refine qM_M_isFacet C (cM_isFacet l D (ty_M k) (w_M q k) (ms_thr τ (nI 0)) y) ⟨Nat.le_of_ble_eq_true rfl, Nat.le_of_ble_eq_true rfl⟩ (Nat.le_of_ble_eq_true rfl) d_M_missing_6 (fx_p (fun z1 h1 => ?_))
  rcases h1 with ⟨rfl, f, hf, rfl⟩ | ⟨rfl, h1⟩
  · rw [ix_in hf (by omega)] at hR
    refine jr_if_ne (tgt := 14) C d_M_missing_9 (by decide) (fun e1 => ?_) (fun e1 => ?_)
    · refine jr_iconst (v := nI 0) C d_M_missing_14 (by decide) ?_
      refine jr_istore_2 C d_M_missing_15 rfl ?_
      refine jr_aload_0 C d_M_missing_16 ?_
      refine qM_M_sort C (cM_sort l D q k (ms_thr τ (nI 0)) a R hw hm) rfl ⟨Nat.le_of_ble_eq_true rfl, Nat.le_of_ble_eq_true rfl⟩ (Nat.le_of_ble_eq_true rfl) d_M_missing_17 (fun u hu => ?_)
      obtain ⟨A, O, L, m, rfl, hL, -⟩ := hu
      refine jr_iconst (v := nI 1) C d_M_missing_20 (by decide) ?_
      refine jr_istore_3 C d_M_missing_21 rfl ?_
      generalize eS : ms_man (ms_lft (ms_one (ms_any (ms_thr τ (nI 0)) A) O) L) m = σ2
      have hlft : ∀ r, 1 ≤ r → r ≤ a_n a → m_lft σ2 r = b01 (bx_b (a_left a r)) := by rw [← eS]; exact hL
      have hm2 : rm_r a R σ2 := by rw [← eS]; exact hm
      obtain ⟨m1, m2, m3, m4, m5, m6, m7⟩ := id hm2
      have h0 : bx_b (a_left a 0 ∧ ¬ ∃ v, v < 100 ∧ a_own a 0 f v = true) = false := bx_neg.mpr (fun h => by have := (hw.2.2.2.1 0 h.1.1).1; omega)
      have LR := lp_up (P := fun r => 1 ≤ r → ∀ z4 z5 : Option Value, fx_J X (w_M q k σ2) 22 [some (.ref (q 0)), some (.int (nI f)), some (.int (nI (ct_n (fun r => bx_b (a_left a r ∧ ¬ ∃ v, v < 100 ∧ a_own a r f v = true)) r))), some (.int (nI r)), z4, z5] []) (a_n a + 1) (fun r hr ih hr1 z4 z5 => ?_)
      · have := LR 1 (by omega) (Nat.le_refl 1) none none
        rw [show ct_n (fun r => bx_b (a_left a r ∧ ¬ ∃ v, v < 100 ∧ a_own a r f v = true)) 1 = 0 from ct_sf (p := fun r => bx_b (a_left a r ∧ ¬ ∃ v, v < 100 ∧ a_own a r f v = true)) h0] at this
        exact this
      · refine jr_iload_3 C d_M_missing_22 ?_
        refine jr_aload_0 C d_M_missing_23 ?_
        refine gM_records C d_M_missing_24 ?_
        refine jr_eqi m1 ?_
        refine jr_N_gt (tgt := 119) C d_M_missing_27 (by decide) (by omega) (by omega) (fun h => ?_) (fun h => ?_)
        · refine jr_iload_2 C d_M_missing_119 ?_
          exact hR _ _ _ _ d_M_missing_120 rfl ⟨congrArg nI (by
            rw [show r = a_n a + 1 by omega]
            exact (ct_ext (by omega) (fun i h1 h2 => bx_neg.mpr (fun g => by have := (hw.2.2.2.1 i g.1.1).2; omega))).symm), hm2⟩
        · refine jr_iconst (v := nI 1) C d_M_missing_30 (by decide) ?_
          refine jr_istore_4 C d_M_missing_31 rfl ?_
          refine jr_iconst (v := nI 0) C d_M_missing_33 (by decide) ?_
          refine jr_istore_5 C d_M_missing_34 rfl ?_
          have LK := lp_up (P := fun i => fx_J X (w_M q k σ2) 36 [some (.ref (q 0)), some (.int (nI f)), some (.int (nI (ct_n (fun r => bx_b (a_left a r ∧ ¬ ∃ v, v < 100 ∧ a_own a r f v = true)) r))), some (.int (nI r)), some (.int (b01 (bx_b (¬ ∃ j, j < i ∧ (R j).1 = r ∧ (R j).2.1 = f)))), some (.int (nI i))] []) (a_v a) (fun i hi2 ih2 => ?_)
          · have := LK 0 (by omega)
            rw [bx_iff.mpr (fun ⟨j, g, _⟩ => by omega)] at this
            exact this
          · refine jr_iload_5 C d_M_missing_36 ?_
            refine jr_aload_0 C d_M_missing_38 ?_
            refine gM_values C d_M_missing_39 ?_
            refine jr_eqi m2 ?_
            refine jr_N_ge (tgt := 91) C d_M_missing_42 (by decide) (by omega) (by omega) (fun h2 => ?_) (fun h2 => ?_)
            · have eX : bx_b (¬ ∃ j, j < i ∧ (R j).1 = r ∧ (R j).2.1 = f) = bx_b (¬ ∃ v, v < 100 ∧ a_own a r f v = true) := by
                refine bx_congr (not_congr ⟨fun ⟨j, g1, g2, g3⟩ => ⟨(R j).2.2, (m3 j (by omega)).2.2.2.1, (pm_own hm2 r f _).mpr ⟨j, by omega, by rw [← g2, ← g3]⟩⟩, fun ⟨v, g1, g4⟩ => ?_⟩)
                obtain ⟨j, g5, g6⟩ := (pm_own hm2 r f v).mp g4
                exact ⟨j, by omega, by rw [g6], by rw [g6]⟩
              rw [eX]
              have go : ∀ b, ct_n (fun r => bx_b (a_left a r ∧ ¬ ∃ v, v < 100 ∧ a_own a r f v = true)) r + b = ct_n (fun r => bx_b (a_left a r ∧ ¬ ∃ v, v < 100 ∧ a_own a r f v = true)) (r + 1) → ∀ z4 z5 : Option Value, fx_J X (w_M q k σ2) 111 [some (.ref (q 0)), some (.int (nI f)), some (.int (nI (ct_n (fun r => bx_b (a_left a r ∧ ¬ ∃ v, v < 100 ∧ a_own a r f v = true)) r))), some (.int (nI r)), z4, z5] [.int (nI b), .int (nI (ct_n (fun r => bx_b (a_left a r ∧ ¬ ∃ v, v < 100 ∧ a_own a r f v = true)) r))] := by
                intro b hb z4 z5
                refine jr_iaddN C d_M_missing_111 ?_
                refine jr_istore_2 C d_M_missing_112 rfl ?_
                refine jr_incN_3 C d_M_missing_113 rfl ?_
                refine jr_goto (tgt := 22) C d_M_missing_116 (by decide) ?_
                rw [hb]
                exact ih (by omega) (by omega) _ _
              refine jr_iload_2 C d_M_missing_91 ?_
              refine jr_iload_4 C d_M_missing_92 ?_
              refine jr_if_eq (tgt := 110) C d_M_missing_94 (by decide) (fun h3 => ?_) (fun h3 => ?_)
              · rw [b01_eq, bx_neg] at h3
                refine jr_iconst (v := nI 0) C d_M_missing_110 (by decide) ?_
                exact go 0 (ct_sf (p := fun r => bx_b (a_left a r ∧ ¬ ∃ v, v < 100 ∧ a_own a r f v = true)) (bx_neg.mpr (fun g => h3 g.2))).symm _ _
              · rw [b01_ne, bx_iff] at h3
                refine jr_aload_0 C d_M_missing_97 ?_
                refine gM_left C d_M_missing_98 ?_
                refine jr_iload_3 C d_M_missing_101 ?_
                refine aM_left C (by omega) d_M_missing_102 ?_
                refine jr_eqi (hlft r hr1 (by omega)) ?_
                refine jr_if_eq (tgt := 110) C d_M_missing_103 (by decide) (fun h4 => ?_) (fun h4 => ?_)
                · rw [b01_eq, bx_neg] at h4
                  refine jr_iconst (v := nI 0) C d_M_missing_110 (by decide) ?_
                  exact go 0 (ct_sf (p := fun r => bx_b (a_left a r ∧ ¬ ∃ v, v < 100 ∧ a_own a r f v = true)) (bx_neg.mpr (fun g => h4 g.1))).symm _ _
                · rw [b01_ne, bx_iff] at h4
                  refine jr_iconst (v := nI 1) C d_M_missing_106 (by decide) ?_
                  refine jr_goto (tgt := 111) C d_M_missing_107 (by decide) ?_
                  exact go 1 (ct_st (p := fun r => bx_b (a_left a r ∧ ¬ ∃ v, v < 100 ∧ a_own a r f v = true)) (bx_iff.mpr ⟨h4, h3⟩)).symm _ _
            · obtain ⟨r1, r2, r3, r4, r5, r6, r7⟩ := m3 i h2
              have go : ∀ (b : Bool) (z4 : Option Value), (b = true ↔ ¬ ∃ j, j < i + 1 ∧ (R j).1 = r ∧ (R j).2.1 = f) → fx_J X (w_M q k σ2) 83 [some (.ref (q 0)), some (.int (nI f)), some (.int (nI (ct_n (fun r => bx_b (a_left a r ∧ ¬ ∃ v, v < 100 ∧ a_own a r f v = true)) r))), some (.int (nI r)), z4, some (.int (nI i))] [.int (b01 b)] := by
                intro b z4 hb
                refine jr_istore_4 C d_M_missing_83 rfl ?_
                refine jr_incN_5 C d_M_missing_85 rfl ?_
                refine jr_goto (tgt := 36) C d_M_missing_88 (by decide) ?_
                rw [← bx_eq hb.symm]
                exact ih2 h2
              refine jr_iload_4 C d_M_missing_45 ?_
              refine jr_if_eq (tgt := 82) C d_M_missing_47 (by decide) (fun h3 => ?_) (fun h3 => ?_)
              · rw [b01_eq, bx_neg] at h3
                refine jr_iconst (v := nI 0) C d_M_missing_82 (by decide) ?_
                exact go false _ ⟨fun g => absurd g (by decide), fun g => absurd (fun ⟨j, g1, g2⟩ => g ⟨j, by omega, g2⟩) h3⟩
              · rw [b01_ne, bx_iff] at h3
                have yes : ¬ ((R i).1 = r ∧ (R i).2.1 = f) → ∀ z4 : Option Value, fx_J X (w_M q k σ2) 78 [some (.ref (q 0)), some (.int (nI f)), some (.int (nI (ct_n (fun r => bx_b (a_left a r ∧ ¬ ∃ v, v < 100 ∧ a_own a r f v = true)) r))), some (.int (nI r)), z4, some (.int (nI i))] [] := by
                  intro hk z4
                  refine jr_iconst (v := nI 1) C d_M_missing_78 (by decide) ?_
                  refine jr_goto (tgt := 83) C d_M_missing_79 (by decide) ?_
                  refine go true _ ⟨fun _ => ?_, fun _ => rfl⟩
                  rintro ⟨j, g1, g2⟩
                  by_cases e : j = i
                  · rw [e] at g2; exact hk g2
                  · exact h3 ⟨j, by omega, g2⟩
                refine jr_aload_0 C d_M_missing_50 ?_
                refine gM_rows C d_M_missing_51 ?_
                refine jr_iconst (v := nI 3) C d_M_missing_54 (by decide) ?_
                refine jr_iload_5 C d_M_missing_55 ?_
                refine jr_imulN C d_M_missing_57 ?_
                refine aM_rows C (by omega) d_M_missing_58 ?_
                refine jr_eqi r5 ?_
                refine jr_iload_3 C d_M_missing_59 ?_
                refine jr_N_ne (tgt := 78) C d_M_missing_60 (by decide) (by omega) (by omega) (fun h4 => ?_) (fun h4 => ?_)
                · exact yes (fun g => h4 g.1) _
                · refine jr_aload_0 C d_M_missing_63 ?_
                  refine gM_rows C d_M_missing_64 ?_
                  refine jr_iconst (v := nI 3) C d_M_missing_67 (by decide) ?_
                  refine jr_iload_5 C d_M_missing_68 ?_
                  refine jr_imulN C d_M_missing_70 ?_
                  refine jr_iconst (v := nI 1) C d_M_missing_71 (by decide) ?_
                  refine jr_iaddN C d_M_missing_72 ?_
                  refine aM_rows C (by omega) d_M_missing_73 ?_
                  refine jr_eqi r6 ?_
                  refine jr_iload_1 C d_M_missing_74 ?_
                  refine jr_N_eq (tgt := 82) C d_M_missing_75 (by decide) (by omega) (by omega) (fun h5 => ?_) (fun h5 => ?_)
                  · refine jr_iconst (v := nI 0) C d_M_missing_82 (by decide) ?_
                    exact go false _ ⟨fun g => absurd g (by decide), fun g => absurd ⟨i, by omega, h4, h5⟩ g⟩
                  · exact yes (fun g => h5 g.2) _
    · exact absurd e1 (by decide)
  · rw [ix_no (by omega) h1] at hR
    refine jr_if_ne (tgt := 14) C d_M_missing_9 (by decide) (fun e1 => ?_) (fun e1 => ?_)
    · exact absurd nI_0 e1
    · refine jr_iconst (v := -1) C d_M_missing_12 (by decide) ?_
      exact hR _ _ _ _ d_M_missing_13 rfl ⟨rfl, hm⟩
theorem sp_cm (f v : Nat) : sp_cnt a f v ≤ sp_many a := ct_mono (fun r _ h => bx_iff.mpr (bx_iff.mp h).1)
theorem cM_share (hw : a_wf a) (hm : rm_r a R τ) (y z s : Int32) : fx_ML l D cl_s (ty_M k) (w_M q k) y_M_share (k_M_share :: tb_l) rm_M_share [.ref (q 0), .int y, .int z, .int s] τ (fun r u => (match sp_share a y z s with
    | some t => r = t ∧ m_thr u = nI 0
    | none => m_thr u = nI 1) ∧ rm_r a R u) := by
  refine fx_enterL (by decide +kernel) [some (.ref (q 0)), some (.int y), some (.int z), some (.int s), none, none, none, none, none] rfl (Nat.le_of_ble_eq_true rfl) (Nat.le_of_ble_eq_true rfl) (fun X C hR => ?_)
  unfold sp_share at hR
  refine jr_aload_0 C d_M_share_0 ?_
  refine jr_iconst (v := nI 0) C d_M_share_1 (by decide) ?_
  refine pM_thrown C d_M_share_2 ?_
  refine jr_iload_1 C d_M_share_5 ?_
  refine jr_iload_2 C d_M_share_6 ?_
  refine qM_M_isValue C (cM_isValue l D (ty_M k) (w_M q k) (ms_thr τ (nI 0)) y z) ⟨Nat.le_of_ble_eq_true rfl, Nat.le_of_ble_eq_true rfl⟩ (Nat.le_of_ble_eq_true rfl) d_M_share_7 (fx_p (fun z1 h1 => ?_))
  rcases h1 with ⟨rfl, ⟨f, hf, rfl⟩, v, hv, rfl⟩ | ⟨rfl, h1⟩
  · rw [ix_in hf (by omega), ix_in hv (by omega)] at hR
    dsimp only at hR
    refine jr_if_ne (tgt := 17) C d_M_share_10 (by decide) (fun e1 => ?_) (fun e1 => ?_)
    · refine jr_aload_0 C d_M_share_17 ?_
      refine jr_iload_1 C d_M_share_18 ?_
      refine qM_M_reckon C (cM_reckon l D q k (ms_thr τ (nI 0)) a R hw hm f hf) rfl ⟨Nat.le_of_ble_eq_true rfl, Nat.le_of_ble_eq_true rfl⟩ (Nat.le_of_ble_eq_true rfl) d_M_share_19 (fun u hu => ?_)
      have hu4 : m_thr u = nI 0 := hu.2.2.2
      have hle := sp_cm a f v
      have hle2 : sp_many a ≤ 64 := ct_le _ 64
      refine jr_aload_0 C d_M_share_22 ?_
      refine gM_counts C d_M_share_23 ?_
      refine jr_iload_2 C d_M_share_26 ?_
      refine aM_counts C (by omega) d_M_share_27 ?_
      refine jr_eqi (hu.2.1 v hv) ?_
      refine jr_istore_4 C d_M_share_28 rfl ?_
      refine jr_aload_0 C d_M_share_30 ?_
      refine gM_many C d_M_share_31 ?_
      refine jr_eqi hu.2.2.1 ?_
      refine jr_istore_5 C d_M_share_34 rfl ?_
      refine jr_iload_5 C d_M_share_36 ?_
      refine jr_if_ne (tgt := 48) C d_M_share_38 (by decide) (fun e2 => ?_) (fun e2 => ?_)
      · have h0 : 0 < sp_many a := by
          rcases Nat.eq_zero_or_pos (sp_many a) with e | e
          · rw [e] at e2; exact absurd nI_0 e2
          · exact e
        rw [if_neg (by omega)] at hR
        refine jr_iload_4 C d_M_share_48 ?_
        refine jr_istore_6 C d_M_share_50 rfl ?_
        refine jr_iload_5 C d_M_share_52 ?_
        refine jr_istore_7 C d_M_share_54 rfl ?_
        have LG := lp_ms (P := fun b => ∀ (c : Nat) (z8 : Option Value), c < 2 ^ 31 → b < 2 ^ 31 → Nat.gcd c b = Nat.gcd (sp_cnt a f v) (sp_many a) → fx_J X (w_M q k u) 56 [some (.ref (q 0)), some (.int (nI f)), some (.int (nI v)), some (.int s), some (.int (nI (sp_cnt a f v))), some (.int (nI (sp_many a))), some (.int (nI c)), some (.int (nI b)), z8] []) (fun b => b) (fun b ihb c z8 hc hb hg => ?_)
        · exact LG (sp_many a) (sp_cnt a f v) _ (by omega) (by omega) rfl
        · refine jr_iload_7 C d_M_share_56 ?_
          refine jr_if_le (tgt := 79) C d_M_share_58 (by decide) (fun e3 => ?_) (fun e3 => ?_)
          · have eb : b = 0 := by
              rcases Nat.eq_zero_or_pos b with e | e
              · exact e
              · exact absurd e3 (nI_nle e hb)
            subst eb
            rw [Nat.gcd_zero_right] at hg
            have hg0 : 0 < c := by rw [hg]; exact Nat.gcd_pos_of_pos_right _ h0
            refine jr_iload_3 C d_M_share_79 ?_
            refine jr_if_ne (tgt := 92) C d_M_share_80 (by decide) (fun e4 => ?_) (fun e4 => ?_)
            · refine jr_iload_5 C d_M_share_92 ?_
              refine jr_iload_6 C d_M_share_94 ?_
              refine jr_idivN C d_M_share_96 (by omega) (by omega) (by omega) ?_
              refine jr_i2l C d_M_share_97 (nI_l (by have := Nat.div_le_self (sp_many a) c; omega)) ?_
              exact hR _ _ _ _ d_M_share_98 ⟨⟨by rw [if_neg e4, hg], hu4⟩, hu.1⟩
            · refine jr_iload_4 C d_M_share_83 ?_
              refine jr_iload_6 C d_M_share_85 ?_
              refine jr_idivN C d_M_share_87 (by omega) (by omega) (by omega) ?_
              refine jr_i2l C d_M_share_88 (nI_l (by have := Nat.div_le_self (sp_cnt a f v) c; omega)) ?_
              refine jr_goto (tgt := 98) C d_M_share_89 (by decide) ?_
              exact hR _ _ _ _ d_M_share_98 ⟨⟨by rw [if_pos e4, hg], hu4⟩, hu.1⟩
          · have hb0 : 0 < b := by
              rcases Nat.eq_zero_or_pos b with e | e
              · rw [e] at e3; exact absurd (by rw [nI_0]; decide) e3
              · exact e
            have hlt := Nat.mod_lt c hb0
            refine jr_iload_6 C d_M_share_61 ?_
            refine jr_iload_7 C d_M_share_63 ?_
            refine jr_iremN C d_M_share_65 (by omega) (by omega) (by omega) ?_
            refine jr_istore_8 C d_M_share_66 rfl ?_
            refine jr_iload_7 C d_M_share_68 ?_
            refine jr_istore_6 C d_M_share_70 rfl ?_
            refine jr_iload_8 C d_M_share_72 ?_
            refine jr_istore_7 C d_M_share_74 rfl ?_
            refine jr_goto (tgt := 56) C d_M_share_76 (by decide) ?_
            refine ihb (c % b) hlt b _ hb (by omega) ?_
            rw [← hg, Nat.gcd_comm b, ← Nat.gcd_rec, Nat.gcd_comm]
      · have h0 : sp_many a = 0 := (nI_eq (by omega) (by omega)).mp (e2.trans nI_0.symm)
        rw [if_pos h0] at hR
        refine jr_aload_0 C d_M_share_41 ?_
        refine jr_iconst (v := nI 1) C d_M_share_42 (by decide) ?_
        refine pM_thrown C d_M_share_43 ?_
        refine jr_lconst (v := 0) C d_M_share_46 (by decide) ?_
        exact hR _ _ _ _ d_M_share_47 ⟨rfl, hu.1⟩
    · exact absurd e1 (by decide)
  · refine jr_if_ne (tgt := 17) C d_M_share_10 (by decide) (fun e1 => ?_) (fun e1 => ?_)
    · exact absurd nI_0 e1
    · refine jr_ldc2 C d_M_share_13 (List.mem_cons_of_mem _ cl_M_80) ?_
      rcases no_ix h1 with h | ⟨⟨f, h⟩, h2⟩
      · rw [h] at hR
        exact hR _ _ _ _ d_M_share_16 ⟨⟨rfl, rfl⟩, hm⟩
      · rw [h, h2] at hR
        exact hR _ _ _ _ d_M_share_16 ⟨⟨rfl, rfl⟩, hm⟩
end PM4
