theorem cl_up {p : Nat → Nat} (hp2 : ∀ v, 100 ≤ v → p v = 100) {Mk : Nat → Prop} (hc : ∀ v, v < 100 → Mk v → p v < 100 → Mk (p v)) : ∀ (n w c : Nat), w < 100 → Mk w → c < 100 → an_k p n w = c → Mk c := by
  intro n
  induction n with
  | zero => intro w c _ h _ e; rw [← e]; exact h
  | succ n ih =>
    intro w c hw h hc2 e
    by_cases h2 : p w < 100
    · exact ih (p w) c h2 (hc w hw h h2) hc2 e
    · exfalso
      have := an_out hp2 n (p w) (by omega)
      have e : an_k p n (p w) = c := e
      omega
section RM
variable (l : Launch) (D : va_G) (q : Nat → Nat) (k : Nat → ClassId) (τ : sm_T) (a : ab_T) (R : Nat → Nat × Nat × Nat)
theorem cM_reckon (hw : a_wf a) (hm : rm_r a R τ) (f : Nat) (hf : f < 6) : fx_MV l D cl_s (ty_M k) (w_M q k) y_M_reckon (k_M_reckon :: tb_l) rm_M_reckon [.ref (q 0), .int (nI f)] τ (fun u => rm_r a R u ∧ (∀ v, v < 100 → m_cnt u v = nI (sp_cnt a f v)) ∧ m_man u = nI (sp_many a) ∧ m_thr u = m_thr τ) := by
  have hn := hw.1
  have hv4 := hw.2.1
  have h0 : ∀ v, bx_b (a_left a 0 ∧ a_has a 0 f v) = false := fun v => bx_neg.mpr (fun h => by have := (hw.2.2.2.1 0 h.1.1).1; omega)
  obtain ⟨hp1, hp2, ρ, hρ⟩ := hw.2.2.2.2 f
  refine fx_enterV (by decide +kernel) [some (.ref (q 0)), some (.int (nI f)), none, none, none] rfl (Nat.le_of_ble_eq_true rfl) (Nat.le_of_ble_eq_true rfl) (fun X C hR => ?_)
  refine jr_aload_0 C d_M_reckon_0 ?_
  refine qM_M_sort C (cM_sort l D q k τ a R hw hm) rfl ⟨Nat.le_of_ble_eq_true rfl, Nat.le_of_ble_eq_true rfl⟩ (Nat.le_of_ble_eq_true rfl) d_M_reckon_1 (fun u hu => ?_)
  obtain ⟨A, O, L, m, rfl, hL, hmn⟩ := hu
  refine jr_iconst (v := nI 0) C d_M_reckon_4 (by decide) ?_
  refine jr_istore_2 C d_M_reckon_5 rfl ?_
  generalize eS : ms_man (ms_lft (ms_one (ms_any τ A) O) L) m = σ2
  have hm2 : rm_r a R σ2 := by rw [← eS]; exact hm
  have hlft : ∀ r, 1 ≤ r → r ≤ a_n a → m_lft σ2 r = b01 (bx_b (a_left a r)) := by rw [← eS]; exact hL
  have hman : m_man σ2 = nI (sp_many a) := by rw [← eS]; exact hmn
  have hthr : m_thr σ2 = m_thr τ := by rw [← eS]
  obtain ⟨m1, m2, m3, m4, m5, m6, m7⟩ := id hm2
  have LR := lp_up (P := fun r => 1 ≤ r → ∀ (K M : Nat → Int32) (mk : Nat → Nat) (z3 z4 : Option Value), (∀ v, v < 100 → K v = nI (ct_n (fun s => bx_b (a_left a s ∧ a_has a s f v)) r)) → (∀ v, v < 100 → M v = nI (mk v) ∧ mk v < r) → fx_J X (w_M q k (ms_mrk (ms_cnt σ2 K) M)) 34 [some (.ref (q 0)), some (.int (nI f)), some (.int (nI r)), z3, z4] []) (a_n a + 1) (fun r hr ih hr1 K M mk z3 z4 hC hM => ?_)
  · have LZ := lp_up (P := fun i => ∀ K M : Nat → Int32, (∀ s, s < i → K s = nI 0) → (∀ s, s < i → M s = nI 0) → fx_J X (w_M q k (ms_mrk (ms_cnt σ2 K) M)) 6 [some (.ref (q 0)), some (.int (nI f)), some (.int (nI i)), none, none] []) 100 (fun i hi ih K M hC hM => ?_)
    · exact LZ 0 (by omega) (m_cnt σ2) (m_mrk σ2) (fun s hs => by omega) (fun s hs => by omega)
    · refine jr_iload_2 C d_M_reckon_6 ?_
      refine jr_bipush (v := nI 100) C d_M_reckon_7 (by decide) ?_
      refine jr_N_ge (tgt := 32) C d_M_reckon_9 (by decide) (by omega) (by omega) (fun h => ?_) (fun h => ?_)
      · refine jr_iconst (v := nI 1) C d_M_reckon_32 (by decide) ?_
        refine jr_istore_2 C d_M_reckon_33 rfl ?_
        refine LR 1 (by omega) (Nat.le_refl 1) K M (fun _ => 0) _ _ (fun v hv => ?_) (fun v hv => ⟨hM v (by omega), by omega⟩)
        rw [show ct_n (fun s => bx_b (a_left a s ∧ a_has a s f v)) 1 = 0 from ct_sf (h0 v)]
        exact hC v (by omega)
      · refine jr_aload_0 C d_M_reckon_12 ?_
        refine gM_counts C d_M_reckon_13 ?_
        refine jr_iload_2 C d_M_reckon_16 ?_
        refine jr_iconst (v := nI 0) C d_M_reckon_17 (by decide) ?_
        refine sM_counts C (by omega) d_M_reckon_18 ?_
        refine jr_aload_0 C d_M_reckon_19 ?_
        refine gM_marks C d_M_reckon_20 ?_
        refine jr_iload_2 C d_M_reckon_23 ?_
        refine jr_iconst (v := nI 0) C d_M_reckon_24 (by decide) ?_
        refine sM_marks C (by omega) d_M_reckon_25 ?_
        refine jr_incN_2 C d_M_reckon_26 rfl ?_
        refine jr_goto (tgt := 6) C d_M_reckon_29 (by decide) ?_
        refine ih h (upd K i (nI 0)) (upd M i (nI 0)) (fun s hs => ?_) (fun s hs => ?_)
        · by_cases e : s = i
          · rw [e, pk_us]
          · rw [pk_un e]; exact hC s (by omega)
        · by_cases e : s = i
          · rw [e, pk_us]
          · rw [pk_un e]; exact hM s (by omega)
  · refine jr_iload_2 C d_M_reckon_34 ?_
    refine jr_aload_0 C d_M_reckon_35 ?_
    refine gM_records C d_M_reckon_36 ?_
    refine jr_eqi m1 ?_
    refine jr_N_gt (tgt := 168) C d_M_reckon_39 (by decide) (by omega) (by omega) (fun h => ?_) (fun h => ?_)
    · exact hR _ _ _ d_M_reckon_168 ⟨hm2, fun v hv => by
        show K v = _
        rw [hC v hv, show r = a_n a + 1 by omega]
        exact congrArg nI (ct_ext (by omega) (fun i h1 h2 => bx_neg.mpr (fun g => by have := (hw.2.2.2.1 i g.1.1).2; omega))).symm, hman, hthr⟩
    · have hr2 : r ≤ a_n a := h
      refine jr_iconst (v := nI 0) C d_M_reckon_42 (by decide) ?_
      refine jr_istore_3 C d_M_reckon_43 rfl ?_
      have LK := lp_up (P := fun i => ∀ (C2 M2 : Nat → Int32) (z4 : Option Value), (i = 0 ∨ a_left a r) → (∀ v, v < 100 → C2 v = nI (ct_n (fun s => bx_b (a_left a s ∧ a_has a s f v)) r + if bx_b (∃ j, j < i ∧ (R j).1 = r ∧ (R j).2.1 = f ∧ ab_o (a_par a f) (R j).2.2 v) = true then 1 else 0)) → (∀ v, v < 100 → M2 v = nI (if bx_b (∃ j, j < i ∧ (R j).1 = r ∧ (R j).2.1 = f ∧ ab_o (a_par a f) (R j).2.2 v) = true then r else mk v)) → fx_J X (w_M q k (ms_mrk (ms_cnt σ2 C2) M2)) 44 [some (.ref (q 0)), some (.int (nI f)), some (.int (nI r)), some (.int (nI i)), z4] []) (a_v a) (fun i hi ih2 C2 M2 z4 hil hC2 hM2 => ?_)
      · refine LK 0 (by omega) K M _ (Or.inl rfl) (fun v hv => ?_) (fun v hv => ?_)
        · rw [bx_neg.mpr (fun ⟨j, g, _⟩ => by omega)]
          exact hC v hv
        · rw [bx_neg.mpr (fun ⟨j, g, _⟩ => by omega)]
          exact (hM v hv).1
      · have out : (∀ v, v < 100 → ((∃ j, j < i ∧ (R j).1 = r ∧ (R j).2.1 = f ∧ ab_o (a_par a f) (R j).2.2 v) ↔ (a_left a r ∧ a_has a r f v))) → fx_J X (w_M q k (ms_mrk (ms_cnt σ2 C2) M2)) 162 [some (.ref (q 0)), some (.int (nI f)), some (.int (nI r)), some (.int (nI i)), z4] [] := by
          intro hS
          refine jr_incN_2 C d_M_reckon_162 rfl ?_
          refine jr_goto (tgt := 34) C d_M_reckon_165 (by decide) ?_
          refine ih (by omega) (by omega) C2 M2 (fun v => if bx_b (∃ j, j < i ∧ (R j).1 = r ∧ (R j).2.1 = f ∧ ab_o (a_par a f) (R j).2.2 v) = true then r else mk v) _ _ (fun v hv => ?_) (fun v hv => ⟨hM2 v hv, ?_⟩)
          · rw [hC2 v hv, ct_succ, bx_congr (hS v hv)]
          · have := (hM v hv).2
            split <;> omega
        refine jr_iload_3 C d_M_reckon_44 ?_
        refine jr_aload_0 C d_M_reckon_45 ?_
        refine gM_values C d_M_reckon_46 ?_
        refine jr_eqi m2 ?_
        refine jr_N_ge (tgt := 162) C d_M_reckon_49 (by decide) (by omega) (by omega) (fun h2 => ?_) (fun h2 => ?_)
        · refine out (fun v hv => ?_)
          constructor
          · rintro ⟨j, g1, g2, g3, g4⟩
            rcases hil with e | e
            · omega
            · exact ⟨e, (pm_hv hm2 r f v).mpr ⟨j, by omega, g2, g3, g4⟩⟩
          · rintro ⟨-, g⟩
            obtain ⟨j, g1, g2⟩ := (pm_hv hm2 r f v).mp g
            exact ⟨j, by omega, g2⟩
        · refine jr_aload_0 C d_M_reckon_52 ?_
          refine gM_left C d_M_reckon_53 ?_
          refine jr_iload_2 C d_M_reckon_56 ?_
          refine aM_left C (by omega) d_M_reckon_57 ?_
          refine jr_eqi (hlft r hr1 hr2) ?_
          refine jr_if_eq (tgt := 162) C d_M_reckon_58 (by decide) (fun h3 => ?_) (fun h3 => ?_)
          · rw [b01_eq, bx_neg] at h3
            refine out (fun v hv => ⟨fun ⟨j, g1, _⟩ => ?_, fun g => absurd g.1 h3⟩)
            rcases hil with e | e
            · omega
            · exact absurd e h3
          · rw [b01_ne, bx_iff] at h3
            obtain ⟨r1, r2, r3, r4, r5, r6, r7⟩ := m3 i h2
            have next : ∀ (C3 M3 : Nat → Int32) (z : Option Value), (∀ v, v < 100 → C3 v = nI (ct_n (fun s => bx_b (a_left a s ∧ a_has a s f v)) r + if bx_b (∃ j, j < i + 1 ∧ (R j).1 = r ∧ (R j).2.1 = f ∧ ab_o (a_par a f) (R j).2.2 v) = true then 1 else 0)) → (∀ v, v < 100 → M3 v = nI (if bx_b (∃ j, j < i + 1 ∧ (R j).1 = r ∧ (R j).2.1 = f ∧ ab_o (a_par a f) (R j).2.2 v) = true then r else mk v)) → fx_J X (w_M q k (ms_mrk (ms_cnt σ2 C3) M3)) 156 [some (.ref (q 0)), some (.int (nI f)), some (.int (nI r)), some (.int (nI i)), z] [] := by
              intro C3 M3 z g1 g2
              refine jr_incN_3 C d_M_reckon_156 rfl ?_
              refine jr_goto (tgt := 44) C d_M_reckon_159 (by decide) ?_
              exact ih2 h2 C3 M3 z (Or.inr h3) g1 g2
            have skip : ¬ ((R i).1 = r ∧ (R i).2.1 = f) → fx_J X (w_M q k (ms_mrk (ms_cnt σ2 C2) M2)) 100 [some (.ref (q 0)), some (.int (nI f)), some (.int (nI r)), some (.int (nI i)), z4] [] := by
              intro hne
              have eS : ∀ v, bx_b (∃ j, j < i + 1 ∧ (R j).1 = r ∧ (R j).2.1 = f ∧ ab_o (a_par a f) (R j).2.2 v) = bx_b (∃ j, j < i ∧ (R j).1 = r ∧ (R j).2.1 = f ∧ ab_o (a_par a f) (R j).2.2 v) := fun v => bx_congr ⟨fun ⟨j, g1, g2, g3, g4⟩ => by
                by_cases e : j = i
                · rw [e] at g2 g3
                  exact absurd ⟨g2, g3⟩ hne
                · exact ⟨j, by omega, g2, g3, g4⟩, fun ⟨j, g1, g⟩ => ⟨j, by omega, g⟩⟩
              refine jr_iconst (v := -1) C d_M_reckon_100 (by decide) ?_
              refine jr_istore_4 C d_M_reckon_101 rfl ?_
              refine jr_iload_4 C d_M_reckon_103 ?_
              refine jr_iconst (v := -1) C d_M_reckon_105 (by decide) ?_
              refine jr_icmp_eq (tgt := 156) C d_M_reckon_106 (by decide) (fun h7 => ?_) (fun h7 => ?_)
              · exact next C2 M2 _ (fun v hv => by rw [eS]; exact hC2 v hv) (fun v hv => by rw [eS]; exact hM2 v hv)
              · exact absurd rfl h7
            refine jr_aload_0 C d_M_reckon_61 ?_
            refine gM_rows C d_M_reckon_62 ?_
            refine jr_iconst (v := nI 3) C d_M_reckon_65 (by decide) ?_
            refine jr_iload_3 C d_M_reckon_66 ?_
            refine jr_imulN C d_M_reckon_67 ?_
            refine aM_rows C (by omega) d_M_reckon_68 ?_
            refine jr_eqi r5 ?_
            refine jr_iload_2 C d_M_reckon_69 ?_
            refine jr_N_ne (tgt := 100) C d_M_reckon_70 (by decide) (by omega) (by omega) (fun h4 => ?_) (fun h4 => ?_)
            · exact skip (fun g => h4 g.1)
            · refine jr_aload_0 C d_M_reckon_73 ?_
              refine gM_rows C d_M_reckon_74 ?_
              refine jr_iconst (v := nI 3) C d_M_reckon_77 (by decide) ?_
              refine jr_iload_3 C d_M_reckon_78 ?_
              refine jr_imulN C d_M_reckon_79 ?_
              refine jr_iconst (v := nI 1) C d_M_reckon_80 (by decide) ?_
              refine jr_iaddN C d_M_reckon_81 ?_
              refine aM_rows C (by omega) d_M_reckon_82 ?_
              refine jr_eqi r6 ?_
              refine jr_iload_1 C d_M_reckon_83 ?_
              refine jr_N_ne (tgt := 100) C d_M_reckon_84 (by decide) (by omega) (by omega) (fun h5 => ?_) (fun h5 => ?_)
              · exact skip (fun g => h5 g.2)
              · refine jr_aload_0 C d_M_reckon_87 ?_
                refine gM_rows C d_M_reckon_88 ?_
                refine jr_iconst (v := nI 3) C d_M_reckon_91 (by decide) ?_
                refine jr_iload_3 C d_M_reckon_92 ?_
                refine jr_imulN C d_M_reckon_93 ?_
                refine jr_iconst (v := nI 2) C d_M_reckon_94 (by decide) ?_
                refine jr_iaddN C d_M_reckon_95 ?_
                refine aM_rows C (by omega) d_M_reckon_96 ?_
                refine jr_eqi r7 ?_
                refine jr_goto (tgt := 101) C d_M_reckon_97 (by decide) ?_
                refine jr_istore_4 C d_M_reckon_101 rfl ?_
                have LW := lp_ms (P := fun w => ∀ (C3 M3 : Nat → Int32) (Mk : Nat → Prop), (∀ v, v < 100 → C3 v = nI (ct_n (fun s => bx_b (a_left a s ∧ a_has a s f v)) r + if bx_b (Mk v) = true then 1 else 0)) → (∀ v, v < 100 → M3 v = nI (if bx_b (Mk v) = true then r else mk v)) → (∀ v, v < 100 → Mk v → a_par a f v < 100 → Mk (a_par a f v) ∨ a_par a f v = w) → (∀ v, v < 100 → ((Mk v ∨ ab_o (a_par a f) w v) ↔ ∃ j, j < i + 1 ∧ (R j).1 = r ∧ (R j).2.1 = f ∧ ab_o (a_par a f) (R j).2.2 v)) → fx_J X (w_M q k (ms_mrk (ms_cnt σ2 C3) M3)) 103 [some (.ref (q 0)), some (.int (nI f)), some (.int (nI r)), some (.int (nI i)), some (.int (en_p w))] []) (fun w => if w < 100 then ρ w + 1 else 0) (fun w ihw C3 M3 Mk g1 g2 g3 g4 => ?_)
                · have := LW (R i).2.2 C2 M2 (fun v => ∃ j, j < i ∧ (R j).1 = r ∧ (R j).2.1 = f ∧ ab_o (a_par a f) (R j).2.2 v) hC2 hM2 (fun v hv ⟨j, k1, k2, k3, k4⟩ _ => Or.inl ⟨j, k1, k2, k3, ab_tr k4 (ab_up (ab_rf _ _))⟩) (fun v hv => by
                    constructor
                    · rintro (⟨j, k1, k2⟩ | k)
                      · exact ⟨j, by omega, k2⟩
                      · exact ⟨i, by omega, h4, h5, k⟩
                    · rintro ⟨j, k1, k2, k3, k4⟩
                      by_cases e : j = i
                      · rw [e] at k4
                        exact Or.inr k4
                      · exact Or.inl ⟨j, by omega, k2, k3, k4⟩)
                  rw [en_in r4] at this
                  exact this
                · have done : (∀ v, v < 100 → ab_o (a_par a f) w v → Mk v) → fx_J X (w_M q k (ms_mrk (ms_cnt σ2 C3) M3)) 156 [some (.ref (q 0)), some (.int (nI f)), some (.int (nI r)), some (.int (nI i)), some (.int (en_p w))] [] := by
                    intro hd
                    have eM : ∀ v, v < 100 → bx_b (∃ j, j < i + 1 ∧ (R j).1 = r ∧ (R j).2.1 = f ∧ ab_o (a_par a f) (R j).2.2 v) = bx_b (Mk v) := fun v hv => bx_congr ((g4 v hv).symm.trans ⟨fun k => k.elim id (hd v hv), Or.inl⟩)
                    exact next C3 M3 _ (fun v hv => by rw [eM v hv]; exact g1 v hv) (fun v hv => by rw [eM v hv]; exact g2 v hv)
                  refine jr_iload_4 C d_M_reckon_103 ?_
                  refine jr_iconst (v := -1) C d_M_reckon_105 (by decide) ?_
                  refine jr_icmp_eq (tgt := 156) C d_M_reckon_106 (by decide) (fun h6 => ?_) (fun h6 => ?_)
                  · have hw100 := en_m1.mp h6
                    exact done (fun v hv k => absurd k (ab_out hp2 hw100 hv))
                  · have hw100 : w < 100 := by
                      rcases Nat.lt_or_ge w 100 with g | g
                      · exact g
                      · exact absurd (en_no g) h6
                    have hmk := (hM w hw100).2
                    by_cases hMw : Mk w
                    · have ew := g2 w hw100
                      rw [bx_iff.mpr hMw, if_pos rfl] at ew
                      rw [en_in hw100]
                      refine jr_aload_0 C d_M_reckon_109 ?_
                      refine gM_marks C d_M_reckon_110 ?_
                      refine jr_iload_4 C d_M_reckon_113 ?_
                      refine aM_marks C (by omega) d_M_reckon_115 ?_
                      refine jr_eqi ew ?_
                      refine jr_iload_2 C d_M_reckon_116 ?_
                      refine jr_N_eq (tgt := 156) C d_M_reckon_117 (by decide) (by omega) (by omega) (fun h7 => ?_) (fun h7 => ?_)
                      · rw [← en_in hw100]
                        refine done (fun v hv k => ?_)
                        obtain ⟨n, k⟩ := k
                        refine cl_up hp2 (Mk := Mk) (fun v hv k1 k2 => ?_) n w v hw100 hMw hv k
                        rcases g3 v hv k1 k2 with k3 | k3
                        · exact k3
                        · rw [k3]; exact hMw
                      · exact absurd rfl h7
                    · have ew := g2 w hw100
                      rw [bx_neg.mpr hMw, if_neg (by decide)] at ew
                      have ec := g1 w hw100
                      rw [bx_neg.mpr hMw, if_neg (by decide)] at ec
                      have hb := ct_le (fun s => bx_b (a_left a s ∧ a_has a s f w)) r
                      rw [en_in hw100]
                      refine jr_aload_0 C d_M_reckon_109 ?_
                      refine gM_marks C d_M_reckon_110 ?_
                      refine jr_iload_4 C d_M_reckon_113 ?_
                      refine aM_marks C (by omega) d_M_reckon_115 ?_
                      refine jr_eqi ew ?_
                      refine jr_iload_2 C d_M_reckon_116 ?_
                      refine jr_N_eq (tgt := 156) C d_M_reckon_117 (by decide) (by omega) (by omega) (fun h7 => ?_) (fun h7 => ?_)
                      · omega
                      · refine jr_aload_0 C d_M_reckon_120 ?_
                        refine gM_marks C d_M_reckon_121 ?_
                        refine jr_iload_4 C d_M_reckon_124 ?_
                        refine jr_iload_2 C d_M_reckon_126 ?_
                        refine sM_marks C (by omega) d_M_reckon_127 ?_
                        refine jr_aload_0 C d_M_reckon_128 ?_
                        refine gM_counts C d_M_reckon_129 ?_
                        refine jr_iload_4 C d_M_reckon_132 ?_
                        refine jr_dup2_11 C d_M_reckon_134 rfl rfl ?_
                        refine aM_counts C (by omega) d_M_reckon_135 ?_
                        refine jr_eqi ec ?_
                        refine jr_iconst (v := nI 1) C d_M_reckon_136 (by decide) ?_
                        refine jr_iaddN C d_M_reckon_137 ?_
                        refine sM_counts C (by omega) d_M_reckon_138 ?_
                        refine jr_aload_0 C d_M_reckon_139 ?_
                        refine gM_broader C d_M_reckon_140 ?_
                        refine jr_bipush (v := nI 100) C d_M_reckon_143 (by decide) ?_
                        refine jr_iload_1 C d_M_reckon_145 ?_
                        refine jr_imulN C d_M_reckon_146 ?_
                        refine jr_iload_4 C d_M_reckon_147 ?_
                        refine jr_iaddN C d_M_reckon_149 ?_
                        refine aM_broader C (by omega) d_M_reckon_150 ?_
                        refine jr_eqi (m5 f w hf hw100) ?_
                        refine jr_istore_4 C d_M_reckon_151 rfl ?_
                        refine jr_goto (tgt := 103) C d_M_reckon_153 (by decide) ?_
                        refine ihw (a_par a f w) ?_ (upd C3 w (nI (ct_n (fun s => bx_b (a_left a s ∧ a_has a s f w)) r + 0 + 1))) (upd M3 w (nI r)) (fun v => Mk v ∨ v = w) (fun v hv => ?_) (fun v hv => ?_) (fun v hv k1 k2 => ?_) (fun v hv => ?_)
                        · try dsimp only
                          rw [if_pos hw100]
                          split
                          · next g => have := hρ w hw100 g; omega
                          · omega
                        · by_cases e : v = w
                          · subst e
                            rw [pk_us, bx_iff.mpr (Or.inr rfl), if_pos rfl]
                          · rw [pk_un e, g1 v hv, bx_congr (p := Mk v ∨ v = w) (q := Mk v) ⟨fun k => k.elim id (fun k => absurd k e), Or.inl⟩]
                        · by_cases e : v = w
                          · subst e
                            rw [pk_us, bx_iff.mpr (Or.inr rfl), if_pos rfl]
                          · rw [pk_un e, g2 v hv, bx_congr (p := Mk v ∨ v = w) (q := Mk v) ⟨fun k => k.elim id (fun k => absurd k e), Or.inl⟩]
                        · rcases k1 with k1 | k1
                          · rcases g3 v hv k1 k2 with k3 | k3
                            · exact Or.inl (Or.inl k3)
                            · exact Or.inl (Or.inr k3)
                          · rw [k1]; exact Or.inr rfl
                        · rw [← g4 v hv]
                          constructor
                          · rintro ((k1 | k1) | k1)
                            · exact Or.inl k1
                            · rw [k1]; exact Or.inr (ab_rf _ _)
                            · exact Or.inr (ab_up k1)
                          · rintro (k1 | k1)
                            · exact Or.inl (Or.inl k1)
                            · rcases ab_cs.mp k1 with k2 | k2
                              · exact Or.inl (Or.inr k2.symm)
                              · exact Or.inr k2
end RM
