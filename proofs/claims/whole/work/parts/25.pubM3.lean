theorem rk_neg {c : Nat → Nat} {i : Int32} (h : i < 0) : rk_res c i (-1) := Or.inr ⟨rfl, fun v hv h0 e => by
  rw [← e] at h
  exact nI_pos (by have := rk_le c v; omega) h⟩
section PM3
variable (l : Launch) (D : va_G) (q : Nat → Nat) (k : Nat → ClassId) (τ : sm_T) (a : ab_T) (R : Nat → Nat × Nat × Nat)
theorem cM_count (hw : a_wf a) (hm : rm_r a R τ) (y z : Int32) : fx_MI l D cl_s (ty_M k) (w_M q k) y_M_count (k_M_count :: tb_l) rm_M_count [.ref (q 0), .int y, .int z] τ (fun r u => r = sp_count a y z ∧ rm_r a R u) := by
  refine fx_enterI (by decide +kernel) [some (.ref (q 0)), some (.int y), some (.int z)] rfl (Nat.le_of_ble_eq_true rfl) (Nat.le_of_ble_eq_true rfl) (fun X C hR => ?_)
  unfold sp_count at hR
  refine jr_aload_0 C d_M_count_0 ?_
  refine jr_iconst (v := nI 0) C d_M_count_1 (by decide) ?_
  refine pM_thrown C d_M_count_2 ?_
  refine jr_iload_1 C d_M_count_5 ?_
  refine jr_iload_2 C d_M_count_6 ?_
  refine qM_M_isValue C (cM_isValue l D (ty_M k) (w_M q k) (ms_thr τ (nI 0)) y z) ⟨Nat.le_of_ble_eq_true rfl, Nat.le_of_ble_eq_true rfl⟩ (Nat.le_of_ble_eq_true rfl) d_M_count_7 (fx_p (fun z1 h1 => ?_))
  rcases h1 with ⟨rfl, ⟨f, hf, rfl⟩, v, hv, rfl⟩ | ⟨rfl, h1⟩
  · rw [ix_in hf (by omega), ix_in hv (by omega)] at hR
    refine jr_if_ne (tgt := 15) C d_M_count_10 (by decide) (fun e1 => ?_) (fun e1 => ?_)
    · refine jr_aload_0 C d_M_count_15 ?_
      refine jr_iload_1 C d_M_count_16 ?_
      refine qM_M_reckon C (cM_reckon l D q k (ms_thr τ (nI 0)) a R hw hm f hf) rfl ⟨Nat.le_of_ble_eq_true rfl, Nat.le_of_ble_eq_true rfl⟩ (Nat.le_of_ble_eq_true rfl) d_M_count_17 (fun u hu => ?_)
      refine jr_aload_0 C d_M_count_20 ?_
      refine gM_counts C d_M_count_21 ?_
      refine jr_iload_2 C d_M_count_24 ?_
      refine aM_counts C (by omega) d_M_count_25 ?_
      refine jr_eqi (hu.2.1 v hv) ?_
      exact hR _ _ _ _ d_M_count_26 rfl ⟨rfl, hu.1⟩
    · exact absurd e1 (by decide)
  · refine jr_if_ne (tgt := 15) C d_M_count_10 (by decide) (fun e1 => ?_) (fun e1 => ?_)
    · exact absurd nI_0 e1
    · refine jr_iconst (v := -1) C d_M_count_13 (by decide) ?_
      rcases no_ix h1 with h | ⟨⟨f, h⟩, h2⟩
      · rw [h] at hR
        exact hR _ _ _ _ d_M_count_14 rfl ⟨rfl, hm⟩
      · rw [h, h2] at hR
        exact hR _ _ _ _ d_M_count_14 rfl ⟨rfl, hm⟩
theorem cM_ranked (c : Nat → Nat) (fl : Nat → Bool) (f : Nat) (hf : f < 6) (ab i : Int32) (hc : ∀ v, v < 100 → m_cnt τ v = nI (c v) ∧ c v ≤ 60) (hfl : ∀ v, v < 100 → (fl v = true ↔ (ab = -2 ∨ m_bro τ (100 * f + v) = ab))) : fx_MI l D cl_s (ty_M k) (w_M q k) y_M_ranked (k_M_ranked :: tb_l) rm_M_ranked [.ref (q 0), .int (nI f), .int ab, .int i] τ (fun r u => u = τ ∧ rk_res (fun v => if fl v = true then c v else 0) i r) := by
  refine fx_enterI (by decide +kernel) [some (.ref (q 0)), some (.int (nI f)), some (.int ab), some (.int i), none, none, none] rfl (Nat.le_of_ble_eq_true rfl) (Nat.le_of_ble_eq_true rfl) (fun X C hR => ?_)
  refine jr_iconst (v := nI 0) C d_M_ranked_0 (by decide) ?_
  refine jr_istore_4 C d_M_ranked_1 rfl ?_
  have LV := lp_up (P := fun v => ∀ z5 z6 : Option Value, (∀ w, w < v → 0 < (if fl w = true then c w else 0) → ¬ nI (rk_b (fun v => if fl v = true then c v else 0) w) = i) → fx_J X (w_M q k τ) 3 [some (.ref (q 0)), some (.int (nI f)), some (.int ab), some (.int i), some (.int (nI v)), z5, z6] []) 100 (fun v hv ih z5 z6 hno => ?_)
  · exact LV 0 (by omega) _ _ (fun w hw => by omega)
  · refine jr_iload_4 C d_M_ranked_3 ?_
    refine jr_bipush (v := nI 100) C d_M_ranked_5 (by decide) ?_
    refine jr_N_ge (tgt := 149) C d_M_ranked_7 (by decide) (by omega) (by omega) (fun h => ?_) (fun h => ?_)
    · refine jr_iconst (v := -1) C d_M_ranked_149 (by decide) ?_
      exact hR _ _ _ _ d_M_ranked_150 rfl ⟨rfl, Or.inr ⟨rfl, fun w hw h0 => hno w (by omega) h0⟩⟩
    · obtain ⟨c1, c2⟩ := hc v h
      have next : ∀ z5 z6 : Option Value, (0 < (if fl v = true then c v else 0) → ¬ nI (rk_b (fun v => if fl v = true then c v else 0) v) = i) → fx_J X (w_M q k τ) 143 [some (.ref (q 0)), some (.int (nI f)), some (.int ab), some (.int i), some (.int (nI v)), z5, z6] [] := by
        intro z5 z6 hn
        refine jr_incN_4 C d_M_ranked_143 rfl ?_
        refine jr_goto (tgt := 3) C d_M_ranked_146 (by decide) ?_
        refine ih h _ _ (fun w hw h0 => ?_)
        by_cases e : w = v
        · rw [e] at h0 ⊢; exact hn h0
        · exact hno w (by omega) h0
      refine jr_aload_0 C d_M_ranked_10 ?_
      refine gM_counts C d_M_ranked_11 ?_
      refine jr_iload_4 C d_M_ranked_14 ?_
      refine aM_counts C (by omega) d_M_ranked_16 ?_
      refine jr_eqi c1 ?_
      refine jr_if_le (tgt := 143) C d_M_ranked_17 (by decide) (fun h2 => ?_) (fun h2 => ?_)
      · have e0 : c v = 0 := by
          rcases Nat.eq_zero_or_pos (c v) with e | e
          · exact e
          · exact absurd h2 (nI_nle e (by omega))
        refine next _ _ (fun g => ?_)
        rw [e0] at g
        split at g <;> omega
      · have e0 : 0 < c v := by
          rcases Nat.eq_zero_or_pos (c v) with e | e
          · rw [e] at h2
            exact absurd (by rw [nI_0]; decide) h2
          · exact e
        have yes : fl v = true → fx_J X (w_M q k τ) 42 [some (.ref (q 0)), some (.int (nI f)), some (.int ab), some (.int i), some (.int (nI v)), z5, z6] [] := by
          intro hfv
          have eb : rk_b (fun v => if fl v = true then c v else 0) v = ct_n (fun w => fl w && (decide (c v < c w) || (decide (c w = c v) && decide (w < v)))) 100 := by
            refine ct_congr (fun w hw => ?_)
            show (decide ((if fl v = true then c v else 0) < (if fl w = true then c w else 0)) || (decide ((if fl w = true then c w else 0) = (if fl v = true then c v else 0)) && decide (w < v))) = _
            rw [if_pos hfv]
            cases hfw : fl w with
            | true => simp
            | false =>
              simp
              omega
          refine jr_iconst (v := nI 0) C d_M_ranked_42 (by decide) ?_
          refine jr_istore_5 C d_M_ranked_43 rfl ?_
          refine jr_iconst (v := nI 0) C d_M_ranked_45 (by decide) ?_
          refine jr_istore_6 C d_M_ranked_46 rfl ?_
          have LW := lp_up (P := fun w => fx_J X (w_M q k τ) 48 [some (.ref (q 0)), some (.int (nI f)), some (.int ab), some (.int i), some (.int (nI v)), some (.int (nI (ct_n (fun w => fl w && (decide (c v < c w) || (decide (c w = c v) && decide (w < v)))) w))), some (.int (nI w))] []) 100 (fun w hw ih2 => ?_)
          · exact LW 0 (by omega)
          · have hble := ct_le (fun w => fl w && (decide (c v < c w) || (decide (c w = c v) && decide (w < v)))) w
            refine jr_iload_6 C d_M_ranked_48 ?_
            refine jr_bipush (v := nI 100) C d_M_ranked_50 (by decide) ?_
            refine jr_N_ge (tgt := 134) C d_M_ranked_52 (by decide) (by omega) (by omega) (fun h3 => ?_) (fun h3 => ?_)
            · refine jr_iload_5 C d_M_ranked_134 ?_
              refine jr_iload_3 C d_M_ranked_136 ?_
              refine jr_icmp_ne (tgt := 143) C d_M_ranked_137 (by decide) (fun h4 => ?_) (fun h4 => ?_)
              · refine next _ _ (fun _ => ?_)
                rw [eb, ← show w = 100 by omega]
                exact h4
              · refine jr_iload_4 C d_M_ranked_140 ?_
                exact hR _ _ _ _ d_M_ranked_142 rfl ⟨rfl, Or.inl ⟨v, h, by show 0 < (if fl v = true then c v else 0); rw [if_pos hfv]; exact e0, by rw [eb, ← show w = 100 by omega]; exact h4, rfl⟩⟩
            · obtain ⟨d1, d2⟩ := hc w h3
              have go : ∀ b, ct_n (fun w => fl w && (decide (c v < c w) || (decide (c w = c v) && decide (w < v)))) w + b = ct_n (fun w => fl w && (decide (c v < c w) || (decide (c w = c v) && decide (w < v)))) (w + 1) → fx_J X (w_M q k τ) 125 [some (.ref (q 0)), some (.int (nI f)), some (.int ab), some (.int i), some (.int (nI v)), some (.int (nI (ct_n (fun w => fl w && (decide (c v < c w) || (decide (c w = c v) && decide (w < v)))) w))), some (.int (nI w))] [.int (nI b), .int (nI (ct_n (fun w => fl w && (decide (c v < c w) || (decide (c w = c v) && decide (w < v)))) w))] := by
                intro b hb
                refine jr_iaddN C d_M_ranked_125 ?_
                refine jr_istore_5 C d_M_ranked_126 rfl ?_
                refine jr_incN_6 C d_M_ranked_128 rfl ?_
                refine jr_goto (tgt := 48) C d_M_ranked_131 (by decide) ?_
                rw [hb]
                exact ih2 h3
              have no : (fl w && (decide (c v < c w) || (decide (c w = c v) && decide (w < v)))) = false → fx_J X (w_M q k τ) 124 [some (.ref (q 0)), some (.int (nI f)), some (.int ab), some (.int i), some (.int (nI v)), some (.int (nI (ct_n (fun w => fl w && (decide (c v < c w) || (decide (c w = c v) && decide (w < v)))) w))), some (.int (nI w))] [.int (nI (ct_n (fun w => fl w && (decide (c v < c w) || (decide (c w = c v) && decide (w < v)))) w))] := by
                intro hb
                refine jr_iconst (v := nI 0) C d_M_ranked_124 (by decide) ?_
                exact go 0 (ct_sf (p := fun w => fl w && (decide (c v < c w) || (decide (c w = c v) && decide (w < v)))) hb).symm
              have ys : (fl w && (decide (c v < c w) || (decide (c w = c v) && decide (w < v)))) = true → fx_J X (w_M q k τ) 120 [some (.ref (q 0)), some (.int (nI f)), some (.int ab), some (.int i), some (.int (nI v)), some (.int (nI (ct_n (fun w => fl w && (decide (c v < c w) || (decide (c w = c v) && decide (w < v)))) w))), some (.int (nI w))] [.int (nI (ct_n (fun w => fl w && (decide (c v < c w) || (decide (c w = c v) && decide (w < v)))) w))] := by
                intro hb
                refine jr_iconst (v := nI 1) C d_M_ranked_120 (by decide) ?_
                refine jr_goto (tgt := 125) C d_M_ranked_121 (by decide) ?_
                exact go 1 (ct_st (p := fun w => fl w && (decide (c v < c w) || (decide (c w = c v) && decide (w < v)))) hb).symm
              have cmp : fl w = true → fx_J X (w_M q k τ) 79 [some (.ref (q 0)), some (.int (nI f)), some (.int ab), some (.int i), some (.int (nI v)), some (.int (nI (ct_n (fun w => fl w && (decide (c v < c w) || (decide (c w = c v) && decide (w < v)))) w))), some (.int (nI w))] [.int (nI (ct_n (fun w => fl w && (decide (c v < c w) || (decide (c w = c v) && decide (w < v)))) w))] := by
                intro hfw
                refine jr_aload_0 C d_M_ranked_79 ?_
                refine gM_counts C d_M_ranked_80 ?_
                refine jr_iload_6 C d_M_ranked_83 ?_
                refine aM_counts C (by omega) d_M_ranked_85 ?_
                refine jr_eqi d1 ?_
                refine jr_aload_0 C d_M_ranked_86 ?_
                refine gM_counts C d_M_ranked_87 ?_
                refine jr_iload_4 C d_M_ranked_90 ?_
                refine aM_counts C (by omega) d_M_ranked_92 ?_
                refine jr_eqi c1 ?_
                refine jr_N_gt (tgt := 120) C d_M_ranked_93 (by decide) (by omega) (by omega) (fun h5 => ?_) (fun h5 => ?_)
                · exact ys (by rw [hfw]; simp [h5])
                · refine jr_aload_0 C d_M_ranked_96 ?_
                  refine gM_counts C d_M_ranked_97 ?_
                  refine jr_iload_6 C d_M_ranked_100 ?_
                  refine aM_counts C (by omega) d_M_ranked_102 ?_
                  refine jr_eqi d1 ?_
                  refine jr_aload_0 C d_M_ranked_103 ?_
                  refine gM_counts C d_M_ranked_104 ?_
                  refine jr_iload_4 C d_M_ranked_107 ?_
                  refine aM_counts C (by omega) d_M_ranked_109 ?_
                  refine jr_eqi c1 ?_
                  refine jr_N_ne (tgt := 124) C d_M_ranked_110 (by decide) (by omega) (by omega) (fun h6 => ?_) (fun h6 => ?_)
                  · exact no (by rw [hfw]; simp; omega)
                  · refine jr_iload_6 C d_M_ranked_113 ?_
                    refine jr_iload_4 C d_M_ranked_115 ?_
                    refine jr_N_ge (tgt := 124) C d_M_ranked_117 (by decide) (by omega) (by omega) (fun h7 => ?_) (fun h7 => ?_)
                    · exact no (by rw [hfw]; simp; omega)
                    · exact ys (by rw [hfw]; simp; omega)
              refine jr_iload_5 C d_M_ranked_55 ?_
              refine jr_iload_2 C d_M_ranked_57 ?_
              refine jr_bipush (v := -2) C d_M_ranked_58 (by decide) ?_
              refine jr_icmp_eq (tgt := 79) C d_M_ranked_60 (by decide) (fun h4 => ?_) (fun h4 => ?_)
              · exact cmp ((hfl w h3).mpr (Or.inl h4))
              · refine jr_aload_0 C d_M_ranked_63 ?_
                refine gM_broader C d_M_ranked_64 ?_
                refine jr_bipush (v := nI 100) C d_M_ranked_67 (by decide) ?_
                refine jr_iload_1 C d_M_ranked_69 ?_
                refine jr_imulN C d_M_ranked_70 ?_
                refine jr_iload_6 C d_M_ranked_71 ?_
                refine jr_iaddN C d_M_ranked_73 ?_
                refine aM_broader C (by omega) d_M_ranked_74 ?_
                refine jr_iload_2 C d_M_ranked_75 ?_
                refine jr_icmp_ne (tgt := 124) C d_M_ranked_76 (by decide) (fun h5 => ?_) (fun h5 => ?_)
                · exact no (by
                    rw [ts_nt (x := fl w) (fun g => ?_)]
                    · rfl
                    · rcases (hfl w h3).mp g with e | e
                      · exact h4 e
                      · exact h5 e)
                · exact cmp ((hfl w h3).mpr (Or.inr h5))
        refine jr_iload_2 C d_M_ranked_20 ?_
        refine jr_bipush (v := -2) C d_M_ranked_21 (by decide) ?_
        refine jr_icmp_eq (tgt := 42) C d_M_ranked_23 (by decide) (fun h3 => ?_) (fun h3 => ?_)
        · exact yes ((hfl v h).mpr (Or.inl h3))
        · refine jr_aload_0 C d_M_ranked_26 ?_
          refine gM_broader C d_M_ranked_27 ?_
          refine jr_bipush (v := nI 100) C d_M_ranked_30 (by decide) ?_
          refine jr_iload_1 C d_M_ranked_32 ?_
          refine jr_imulN C d_M_ranked_33 ?_
          refine jr_iload_4 C d_M_ranked_34 ?_
          refine jr_iaddN C d_M_ranked_36 ?_
          refine aM_broader C (by omega) d_M_ranked_37 ?_
          refine jr_iload_2 C d_M_ranked_38 ?_
          refine jr_icmp_ne (tgt := 143) C d_M_ranked_39 (by decide) (fun h4 => ?_) (fun h4 => ?_)
          · refine next _ _ (fun g => ?_)
            rw [if_neg (fun g => by
              rcases (hfl v h).mp g with e | e
              · exact h3 e
              · exact h4 e)] at g
            omega
          · exact yes ((hfl v h).mpr (Or.inr h4))
theorem cM_top (hw : a_wf a) (hm : rm_r a R τ) (y i : Int32) : fx_MI l D cl_s (ty_M k) (w_M q k) y_M_top (k_M_top :: tb_l) rm_M_top [.ref (q 0), .int y, .int i] τ (fun r u => sp_top a y i r ∧ rm_r a R u) := by
  refine fx_enterI (by decide +kernel) [some (.ref (q 0)), some (.int y), some (.int i)] rfl (Nat.le_of_ble_eq_true rfl) (Nat.le_of_ble_eq_true rfl) (fun X C hR => ?_)
  unfold sp_top at hR
  refine jr_aload_0 C d_M_top_0 ?_
  refine jr_iconst (v := nI 0) C d_M_top_1 (by decide) ?_
  refine pM_thrown C d_M_top_2 ?_
  refine jr_iload_1 C d_M_top_5 ?_
  refine qM_M_isFacet C (cM_isFacet l D (ty_M k) (w_M q k) (ms_thr τ (nI 0)) y) ⟨Nat.le_of_ble_eq_true rfl, Nat.le_of_ble_eq_true rfl⟩ (Nat.le_of_ble_eq_true rfl) d_M_top_6 (fx_p (fun z1 h1 => ?_))
  rcases h1 with ⟨rfl, f, hf, rfl⟩ | ⟨rfl, h1⟩
  · rw [ix_in hf (by omega)] at hR
    refine jr_if_eq (tgt := 16) C d_M_top_9 (by decide) (fun e1 => ?_) (fun e1 => ?_)
    · exact absurd e1 (by decide)
    · refine jr_iload_2 C d_M_top_12 ?_
      refine jr_if_ge (tgt := 18) C d_M_top_13 (by decide) (fun e2 => ?_) (fun e2 => ?_)
      · refine jr_aload_0 C d_M_top_18 ?_
        refine jr_iload_1 C d_M_top_19 ?_
        refine qM_M_reckon C (cM_reckon l D q k (ms_thr τ (nI 0)) a R hw hm f hf) rfl ⟨Nat.le_of_ble_eq_true rfl, Nat.le_of_ble_eq_true rfl⟩ (Nat.le_of_ble_eq_true rfl) d_M_top_20 (fun u hu => ?_)
        refine jr_aload_0 C d_M_top_23 ?_
        refine jr_iload_1 C d_M_top_24 ?_
        refine jr_bipush (v := -2) C d_M_top_25 (by decide) ?_
        refine jr_iload_2 C d_M_top_27 ?_
        refine qM_M_ranked C (cM_ranked l D q k u (sp_cnt a f) (fun _ => true) f hf (-2) i (fun v hv => ⟨hu.2.1 v hv, sp_le hw f v⟩) (fun v hv => ⟨fun _ => Or.inl rfl, fun _ => rfl⟩)) rfl ⟨Nat.le_of_ble_eq_true rfl, Nat.le_of_ble_eq_true rfl⟩ (Nat.le_of_ble_eq_true rfl) d_M_top_28 (fx_p (fun r hr => ?_))
        exact hR _ _ _ _ d_M_top_31 rfl ⟨rk_congr (fun v hv => if_pos rfl) hr, hu.1⟩
      · refine jr_iconst (v := -1) C d_M_top_16 (by decide) ?_
        exact hR _ _ _ _ d_M_top_17 rfl ⟨rk_neg (by
          rw [Int32.lt_iff_toInt_lt]
          rw [Int32.le_iff_toInt_le] at e2
          omega), hm⟩
  · rw [ix_no (by omega) h1] at hR
    refine jr_if_eq (tgt := 16) C d_M_top_9 (by decide) (fun e1 => ?_) (fun e1 => ?_)
    · refine jr_iconst (v := -1) C d_M_top_16 (by decide) ?_
      exact hR _ _ _ _ d_M_top_17 rfl ⟨rfl, hm⟩
    · exact absurd nI_0 e1
theorem cM_below (hw : a_wf a) (hm : rm_r a R τ) (y : Int32) (roots : Bool) (z i : Int32) : fx_MI l D cl_s (ty_M k) (w_M q k) y_M_below (k_M_below :: tb_l) rm_M_below [.ref (q 0), .int y, .int (b01 roots), .int z, .int i] τ (fun r u => sp_below a y roots z i r ∧ rm_r a R u) := by
  refine fx_enterI (by decide +kernel) [some (.ref (q 0)), some (.int y), some (.int (b01 roots)), some (.int z), some (.int i)] rfl (Nat.le_of_ble_eq_true rfl) (Nat.le_of_ble_eq_true rfl) (fun X C hR => ?_)
  unfold sp_below at hR
  refine jr_aload_0 C d_M_below_0 ?_
  refine jr_iconst (v := nI 0) C d_M_below_1 (by decide) ?_
  refine pM_thrown C d_M_below_2 ?_
  refine jr_iload_1 C d_M_below_5 ?_
  refine qM_M_isFacet C (cM_isFacet l D (ty_M k) (w_M q k) (ms_thr τ (nI 0)) y) ⟨Nat.le_of_ble_eq_true rfl, Nat.le_of_ble_eq_true rfl⟩ (Nat.le_of_ble_eq_true rfl) d_M_below_6 (fx_p (fun z1 h1 => ?_))
  rcases h1 with ⟨rfl, f, hf, rfl⟩ | ⟨rfl, h1⟩
  · rw [ix_in hf (by omega)] at hR
    refine jr_if_eq (tgt := 29) C d_M_below_9 (by decide) (fun e1 => ?_) (fun e1 => ?_)
    · exact absurd e1 (by decide)
    · refine jr_iload_4 C d_M_below_12 ?_
      refine jr_if_lt (tgt := 29) C d_M_below_14 (by decide) (fun e2 => ?_) (fun e2 => ?_)
      · refine jr_iconst (v := -1) C d_M_below_29 (by decide) ?_
        refine hR _ _ _ _ d_M_below_30 rfl ⟨?_, hm⟩
        dsimp only
        split
        · exact rk_neg e2
        · split
          · exact rk_neg e2
          · rfl
      · have fin : ∀ p, p ≤ 100 → (if roots = true then (-1 : Int32) else z) = en_p p → (∀ r u pc pl2, decode b_M_below pc = .ok (.ireturn, 1) → narrow .int (.int r) = .int r → rk_res (sp_flt a f p) i r ∧ rm_r a R u → fx_J X (w_M q k u) pc pl2 [.int r]) → fx_J X (w_M q k (ms_thr τ (nI 0))) 31 [some (.ref (q 0)), some (.int (nI f)), some (.int (b01 roots)), some (.int z), some (.int i)] [] := by
          intro p hp he hR
          refine jr_aload_0 C d_M_below_31 ?_
          refine jr_iload_1 C d_M_below_32 ?_
          refine qM_M_reckon C (cM_reckon l D q k (ms_thr τ (nI 0)) a R hw hm f hf) rfl ⟨Nat.le_of_ble_eq_true rfl, Nat.le_of_ble_eq_true rfl⟩ (Nat.le_of_ble_eq_true rfl) d_M_below_33 (fun u hu => ?_)
          have fin2 : fx_J X (w_M q k u) 47 [some (.ref (q 0)), some (.int (nI f)), some (.int (b01 roots)), some (.int z), some (.int i)] [.int (en_p p), .int (nI f), .ref (q 0)] := by
            refine jr_iload_4 C d_M_below_47 ?_
            refine qM_M_ranked C (cM_ranked l D q k u (sp_cnt a f) (fun v => decide (a_par a f v = p)) f hf (en_p p) i (fun v hv => ⟨hu.2.1 v hv, sp_le hw f v⟩) (fun v hv => ?_)) rfl ⟨Nat.le_of_ble_eq_true rfl, Nat.le_of_ble_eq_true rfl⟩ (Nat.le_of_ble_eq_true rfl) d_M_below_49 (fx_p (fun r hr => ?_))
            · rw [hu.1.2.2.2.2.1 f v hf hv, en_eq ((hw.2.2.2.2 f).1 v) hp, decide_eq_true_eq]
              constructor
              · exact Or.inr
              · rintro (e | e)
                · exfalso
                  rcases Nat.lt_or_ge p 100 with g | g
                  · rw [en_in g] at e
                    have h1 := nI_toInt (show p < 2 ^ 31 by omega)
                    rw [e] at h1
                    have h2 : (-2 : Int32).toInt = -2 := by decide
                    omega
                  · rw [en_no g] at e
                    exact absurd e (by decide)
                · exact e
            · exact hR _ _ _ _ d_M_below_52 rfl ⟨rk_congr (fun v hv => by simp [sp_flt]) hr, hu.1⟩
          refine jr_aload_0 C d_M_below_36 ?_
          refine jr_iload_1 C d_M_below_37 ?_
          refine jr_iload_2 C d_M_below_38 ?_
          refine jr_if_eq (tgt := 46) C d_M_below_39 (by decide) (fun e3 => ?_) (fun e3 => ?_)
          · refine jr_iload_3 C d_M_below_46 ?_
            rw [b01_eq] at e3
            rw [e3] at he
            rw [if_neg (by decide)] at he
            refine jr_eqi he ?_
            exact fin2
          · refine jr_iconst (v := -1) C d_M_below_42 (by decide) ?_
            refine jr_goto (tgt := 47) C d_M_below_43 (by decide) ?_
            rw [b01_ne] at e3
            rw [e3, if_pos rfl] at he
            refine jr_eqi he ?_
            exact fin2
        refine jr_iload_2 C d_M_below_17 ?_
        refine jr_if_ne (tgt := 31) C d_M_below_18 (by decide) (fun e3 => ?_) (fun e3 => ?_)
        · rw [b01_ne] at e3
          rw [e3] at hR
          exact fin 100 (by omega) (by rw [e3, if_pos rfl]; rfl) hR
        · rw [b01_eq] at e3
          rw [e3] at hR
          refine jr_iload_1 C d_M_below_21 ?_
          refine jr_iload_3 C d_M_below_22 ?_
          refine qM_M_isValue C (cM_isValue l D (ty_M k) (w_M q k) (ms_thr τ (nI 0)) (nI f) z) ⟨Nat.le_of_ble_eq_true rfl, Nat.le_of_ble_eq_true rfl⟩ (Nat.le_of_ble_eq_true rfl) d_M_below_23 (fx_p (fun z2 h2 => ?_))
          rcases h2 with ⟨rfl, -, p, hp, rfl⟩ | ⟨rfl, h2⟩
          · rw [ix_in hp (by omega)] at hR
            refine jr_if_ne (tgt := 31) C d_M_below_26 (by decide) (fun e4 => ?_) (fun e4 => ?_)
            · exact fin p (by omega) (by rw [e3, if_neg (by decide), en_in hp]) hR
            · exact absurd e4 (by decide)
          · rw [ix_no (by omega) (fun q => h2 ⟨⟨f, hf, rfl⟩, q⟩)] at hR
            refine jr_if_ne (tgt := 31) C d_M_below_26 (by decide) (fun e4 => ?_) (fun e4 => ?_)
            · exact absurd nI_0 e4
            · refine jr_iconst (v := -1) C d_M_below_29 (by decide) ?_
              exact hR _ _ _ _ d_M_below_30 rfl ⟨rfl, hm⟩
  · rw [ix_no (by omega) h1] at hR
    refine jr_if_eq (tgt := 29) C d_M_below_9 (by decide) (fun e1 => ?_) (fun e1 => ?_)
    · refine jr_iconst (v := -1) C d_M_below_29 (by decide) ?_
      exact hR _ _ _ _ d_M_below_30 rfl ⟨rfl, hm⟩
    · exact absurd nI_0 e1
end PM3
