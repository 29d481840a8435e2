theorem no_ix {y z : Int32} (h1 : ¬ ((∃ j, j < 6 ∧ y = nI j) ∧ ∃ j, j < 100 ∧ z = nI j)) : ix_o 6 y = none ∨ (∃ f, ix_o 6 y = some f) ∧ ix_o 100 z = none := by
  by_cases e : ∃ j, j < 6 ∧ y = nI j
  · obtain ⟨j, hj, rfl⟩ := e
    exact Or.inr ⟨⟨j, ix_in hj (by omega)⟩, ix_no (by omega) (fun q => h1 ⟨⟨j, hj, rfl⟩, q⟩)⟩
  · exact Or.inl (ix_no (by omega) e)
section PM2
variable (l : Launch) (D : va_G) (q : Nat → Nat) (k : Nat → ClassId) (τ : sm_T) (a : ab_T) (R : Nat → Nat × Nat × Nat)
theorem cM_choose (hw : a_wf a) (hm : rm_r a R τ) (y z : Int32) : fx_MI l D cl_s (ty_M k) (w_M q k) y_M_choose (k_M_choose :: tb_l) rm_M_choose [.ref (q 0), .int y, .int z] τ (fun r u => r = (sp_choose a y z).1 ∧ rm_r (sp_choose a y z).2 R u) := by
  refine fx_enterI (by decide +kernel) [some (.ref (q 0)), some (.int y), some (.int z)] rfl (Nat.le_of_ble_eq_true rfl) (Nat.le_of_ble_eq_true rfl) (fun X C hR => ?_)
  unfold sp_choose at hR
  refine jr_aload_0 C d_M_choose_0 ?_
  refine jr_iconst (v := nI 0) C d_M_choose_1 (by decide) ?_
  refine pM_thrown C d_M_choose_2 ?_
  refine jr_iload_1 C d_M_choose_5 ?_
  refine jr_iload_2 C d_M_choose_6 ?_
  refine qM_M_isValue C (cM_isValue l D (ty_M k) (w_M q k) (ms_thr τ (nI 0)) y z) ⟨Nat.le_of_ble_eq_true rfl, Nat.le_of_ble_eq_true rfl⟩ (Nat.le_of_ble_eq_true rfl) d_M_choose_7 (fx_p (fun z1 h1 => ?_))
  rcases h1 with ⟨rfl, ⟨f, hf, rfl⟩, v, hv, rfl⟩ | ⟨rfl, h1⟩
  · rw [ix_in hf (by omega), ix_in hv (by omega)] at hR
    refine jr_if_ne (tgt := 15) C d_M_choose_10 (by decide) (fun e1 => ?_) (fun e1 => ?_)
    · have fin : ∀ b, b = b01 (!a_cho a f v) → fx_J X (w_M q k (ms_thr τ (nI 0))) 44 [some (.ref (q 0)), some (.int (nI f)), some (.int (nI v))] [.int b, .int (nI (100 * f + v)), .ref (q 4)] := by
        intro b hb
        rw [hb]
        have hm2 : rm_r (a_chS a f v) R (ms_cho (ms_thr τ (nI 0)) (upd (m_cho τ) (100 * f + v) (b01 (!a_cho a f v)))) := pm_cho (τ := ms_thr τ (nI 0)) hm hv
        refine sM_chosen C (by omega) (b01_or _) d_M_choose_44 ?_
        refine jr_aload_0 C d_M_choose_45 ?_
        refine qM_M_sort C (cM_sort l D q k _ (a_chS a f v) R (wf_chS hw) hm2) rfl ⟨Nat.le_of_ble_eq_true rfl, Nat.le_of_ble_eq_true rfl⟩ (Nat.le_of_ble_eq_true rfl) d_M_choose_46 (fun u hu => ?_)
        obtain ⟨A, O, L, m, rfl, -, rfl⟩ := hu
        refine jr_aload_0 C d_M_choose_49 ?_
        refine gM_many C d_M_choose_50 ?_
        exact hR _ _ _ _ d_M_choose_53 rfl ⟨rfl, hm2⟩
      refine jr_aload_0 C d_M_choose_15 ?_
      refine gM_chosen C d_M_choose_16 ?_
      refine jr_bipush (v := nI 100) C d_M_choose_19 (by decide) ?_
      refine jr_iload_1 C d_M_choose_21 ?_
      refine jr_imulN C d_M_choose_22 ?_
      refine jr_iload_2 C d_M_choose_23 ?_
      refine jr_iaddN C d_M_choose_24 ?_
      refine jr_aload_0 C d_M_choose_25 ?_
      refine gM_chosen C d_M_choose_26 ?_
      refine jr_bipush (v := nI 100) C d_M_choose_29 (by decide) ?_
      refine jr_iload_1 C d_M_choose_31 ?_
      refine jr_imulN C d_M_choose_32 ?_
      refine jr_iload_2 C d_M_choose_33 ?_
      refine jr_iaddN C d_M_choose_34 ?_
      refine aM_chosen C (by omega) d_M_choose_35 ?_
      refine jr_eqi (hm.2.2.2.2.2.1 f v hf hv) ?_
      refine jr_if_ne (tgt := 43) C d_M_choose_36 (by decide) (fun e3 => ?_) (fun e3 => ?_)
      · refine jr_iconst (v := nI 0) C d_M_choose_43 (by decide) ?_
        rw [b01_ne] at e3
        exact fin _ (by rw [e3]; rfl)
      · refine jr_iconst (v := nI 1) C d_M_choose_39 (by decide) ?_
        refine jr_goto (tgt := 44) C d_M_choose_40 (by decide) ?_
        rw [b01_eq] at e3
        exact fin _ (by rw [e3]; rfl)
    · exact absurd e1 (by decide)
  · refine jr_if_ne (tgt := 15) C d_M_choose_10 (by decide) (fun e1 => ?_) (fun e1 => ?_)
    · exact absurd nI_0 e1
    · refine jr_iconst (v := -1) C d_M_choose_13 (by decide) ?_
      rcases no_ix h1 with h | ⟨⟨f, h⟩, h2⟩
      · rw [h] at hR
        exact hR _ _ _ _ d_M_choose_14 rfl ⟨rfl, hm⟩
      · rw [h, h2] at hR
        exact hR _ _ _ _ d_M_choose_14 rfl ⟨rfl, hm⟩
theorem cM_left (hw : a_wf a) (hm : rm_r a R τ) (i : Int32) : fx_MI l D cl_s (ty_M k) (w_M q k) y_M_left (k_M_left :: tb_l) rm_M_left [.ref (q 0), .int i] τ (fun r u => sp_left a i r ∧ rm_r a R u) := by
  have hn := hw.1
  have h0 : bx_b (a_left a 0) = false := bx_neg.mpr (fun h => by have := (hw.2.2.2.1 0 h.1).1; omega)
  refine fx_enterI (by decide +kernel) [some (.ref (q 0)), some (.int i), none, none] rfl (Nat.le_of_ble_eq_true rfl) (Nat.le_of_ble_eq_true rfl) (fun X C hR => ?_)
  refine jr_aload_0 C d_M_left_0 ?_
  refine jr_iconst (v := nI 0) C d_M_left_1 (by decide) ?_
  refine pM_thrown C d_M_left_2 ?_
  refine jr_iconst (v := nI 0) C d_M_left_5 (by decide) ?_
  refine jr_istore_2 C d_M_left_6 rfl ?_
  refine jr_aload_0 C d_M_left_7 ?_
  refine qM_M_sort C (cM_sort l D q k (ms_thr τ (nI 0)) a R hw hm) rfl ⟨Nat.le_of_ble_eq_true rfl, Nat.le_of_ble_eq_true rfl⟩ (Nat.le_of_ble_eq_true rfl) d_M_left_8 (fun u hu => ?_)
  obtain ⟨A, O, L, m, rfl, hL, -⟩ := hu
  refine jr_iconst (v := nI 1) C d_M_left_11 (by decide) ?_
  refine jr_istore_3 C d_M_left_12 rfl ?_
  generalize eS : ms_man (ms_lft (ms_one (ms_any (ms_thr τ (nI 0)) A) O) L) m = σ2
  have hrec : m_rec σ2 = nI (a_n a) := by rw [← eS]; exact hm.1
  have hlft : ∀ r, 1 ≤ r → r ≤ a_n a → m_lft σ2 r = b01 (bx_b (a_left a r)) := by rw [← eS]; exact hL
  have hm2 : rm_r a R σ2 := by rw [← eS]; exact hm
  have LL := lp_up (P := fun r => 1 ≤ r → (∀ j, j < r → a_left a j → ¬ nI (ct_n (fun s => bx_b (a_left a s)) j) = i) → fx_J X (w_M q k σ2) 13 [some (.ref (q 0)), some (.int i), some (.int (nI (ct_n (fun s => bx_b (a_left a s)) r))), some (.int (nI r))] []) (a_n a + 1) (fun r hr ih hr1 hno => ?_)
  · have := LL 1 (by omega) (Nat.le_refl 1) (fun j hj hl => by
      rw [show j = 0 by omega] at hl
      exact absurd hl (bx_neg.mp h0))
    rw [show ct_n (fun s => bx_b (a_left a s)) 1 = 0 from ct_sf h0] at this
    exact this
  · have go : ∀ b, b = ct_n (fun s => bx_b (a_left a s)) (r + 1) → r < a_n a + 1 → (a_left a r → ¬ nI (ct_n (fun s => bx_b (a_left a s)) r) = i) → fx_J X (w_M q k σ2) 44 [some (.ref (q 0)), some (.int i), some (.int (nI b)), some (.int (nI r))] [] := by
      intro b hb h2 h3
      refine jr_incN_3 C d_M_left_44 rfl ?_
      refine jr_goto (tgt := 13) C d_M_left_47 (by decide) ?_
      rw [hb]
      refine ih h2 (by omega) (fun j hj hl => ?_)
      by_cases e : j = r
      · rw [e] at hl ⊢; exact h3 hl
      · exact hno j (by omega) hl
    refine jr_iload_3 C d_M_left_13 ?_
    refine jr_aload_0 C d_M_left_14 ?_
    refine gM_records C d_M_left_15 ?_
    refine jr_eqi hrec ?_
    refine jr_N_gt (tgt := 50) C d_M_left_18 (by decide) (by omega) (by omega) (fun h => ?_) (fun h => ?_)
    · refine jr_iconst (v := nI 0) C d_M_left_50 (by decide) ?_
      exact hR _ _ _ _ d_M_left_51 rfl ⟨Or.inr ⟨rfl, fun j hj hl => hno j (by have := (hw.2.2.2.1 j hl.1).2; omega) hl⟩, hm2⟩
    · refine jr_iload_1 C d_M_left_21 ?_
      refine jr_if_lt (tgt := 50) C d_M_left_22 (by decide) (fun h1 => ?_) (fun h1 => ?_)
      · refine jr_iconst (v := nI 0) C d_M_left_50 (by decide) ?_
        exact hR _ _ _ _ d_M_left_51 rfl ⟨Or.inr ⟨rfl, fun j hj hl e => by
          rw [← e] at h1
          exact nI_pos (by have := ct_le (fun s => bx_b (a_left a s)) j; omega) h1⟩, hm2⟩
      · refine jr_aload_0 C d_M_left_25 ?_
        refine gM_left C d_M_left_26 ?_
        refine jr_iload_3 C d_M_left_29 ?_
        refine aM_left C (by omega) d_M_left_30 ?_
        refine jr_eqi (hlft r hr1 (by omega)) ?_
        refine jr_if_eq (tgt := 44) C d_M_left_31 (by decide) (fun h2 => ?_) (fun h2 => ?_)
        · rw [b01_eq] at h2
          exact go _ (ct_sf h2).symm (by omega) (fun hl => absurd hl (bx_neg.mp h2))
        · rw [b01_ne] at h2
          refine jr_iload_2 C d_M_left_34 ?_
          refine jr_iload_1 C d_M_left_35 ?_
          refine jr_icmp_ne (tgt := 41) C d_M_left_36 (by decide) (fun h3 => ?_) (fun h3 => ?_)
          · refine jr_incN_2 C d_M_left_41 rfl ?_
            exact go _ (ct_st (p := fun s => bx_b (a_left a s)) h2).symm (by omega) (fun _ => h3)
          · refine jr_iload_3 C d_M_left_39 ?_
            exact hR _ _ _ _ d_M_left_40 rfl ⟨Or.inl ⟨r, by omega, bx_iff.mp h2, h3, rfl⟩, hm2⟩
theorem cM_value (hw : a_wf a) (hm : rm_r a R τ) (x y z : Int32) : fx_MI l D cl_s (ty_M k) (w_M q k) y_M_value (k_M_value :: tb_l) rm_M_value [.ref (q 0), .int x, .int y, .int z] τ (fun r u => r = (sp_value a x y z).1 ∧ ∃ R2, rm_r (sp_value a x y z).2 R2 u) := by
  have hn := hw.1
  have hv4 := hw.2.1
  refine fx_enterI (by decide +kernel) [some (.ref (q 0)), some (.int x), some (.int y), some (.int z), none, none] rfl (Nat.le_of_ble_eq_true rfl) (Nat.le_of_ble_eq_true rfl) (fun X C hR => ?_)
  unfold sp_value at hR
  refine jr_aload_0 C d_M_value_0 ?_
  refine jr_iconst (v := nI 0) C d_M_value_1 (by decide) ?_
  refine pM_thrown C d_M_value_2 ?_
  refine jr_aload_0 C d_M_value_5 ?_
  refine jr_iload_1 C d_M_value_6 ?_
  refine qM_M_isRecord C (cM_isRecord l D q k (ms_thr τ (nI 0)) x (a_n a) hn hm.1) rfl ⟨Nat.le_of_ble_eq_true rfl, Nat.le_of_ble_eq_true rfl⟩ (Nat.le_of_ble_eq_true rfl) d_M_value_7 (fx_p (fun z0 h0 => ?_))
  rcases h0 with ⟨rfl, r, hr1, hr2, rfl⟩ | ⟨rfl, h0⟩
  · rw [rc_in hr1 hr2 (by omega)] at hR
    refine jr_if_eq (tgt := 42) C d_M_value_10 (by decide) (fun e0 => ?_) (fun e0 => ?_)
    · exact absurd e0 (by decide)
    · refine jr_iload_2 C d_M_value_13 ?_
      refine jr_iload_3 C d_M_value_14 ?_
      refine qM_M_isValue C (cM_isValue l D (ty_M k) (w_M q k) (ms_thr τ (nI 0)) y z) ⟨Nat.le_of_ble_eq_true rfl, Nat.le_of_ble_eq_true rfl⟩ (Nat.le_of_ble_eq_true rfl) d_M_value_15 (fx_p (fun z1 h1 => ?_))
      rcases h1 with ⟨rfl, ⟨f, hf, rfl⟩, v, hv, rfl⟩ | ⟨rfl, h1⟩
      · rw [ix_in hf (by omega), ix_in hv (by omega)] at hR
        dsimp only at hR
        refine jr_if_eq (tgt := 42) C d_M_value_18 (by decide) (fun e1 => ?_) (fun e1 => ?_)
        · exact absurd e1 (by decide)
        · refine jr_aload_0 C d_M_value_21 ?_
          refine jr_iload_1 C d_M_value_22 ?_
          refine jr_iload_2 C d_M_value_23 ?_
          refine jr_iload_3 C d_M_value_24 ?_
          refine qM_M_find C (cM_find l D q k (ms_thr τ (nI 0)) a R hv4 hm (nI r) (nI f) (nI v)) rfl ⟨Nat.le_of_ble_eq_true rfl, Nat.le_of_ble_eq_true rfl⟩ (Nat.le_of_ble_eq_true rfl) d_M_value_25 (fx_p (fun z2 h2 => ?_))
          rcases h2 with ⟨j, hj, rfl, g1, g2, g3⟩ | ⟨rfl, h2⟩
          · obtain ⟨c1, c2, c3, c4, -⟩ := hm.2.2.1 j hj
            have hRj : R j = (r, f, v) := by
              have i1 := (nI_eq (by omega) (by omega)).mp g1
              have i2 := (nI_eq (by omega) (by omega)).mp g2
              have i3 := (nI_eq (by omega) (by omega)).mp g3
              rw [← i1, ← i2, ← i3]
            have hown : a_own a r f v = true := (pm_own hm r f v).mpr ⟨j, hj, hRj⟩
            rw [if_pos (Or.inl hown)] at hR
            refine jr_iconst (v := -1) C d_M_value_28 (by decide) ?_
            refine jr_icmp_ne (tgt := 42) C d_M_value_29 (by decide) (fun e2 => ?_) (fun e2 => ?_)
            · refine jr_iconst (v := nI 0) C d_M_value_42 (by decide) ?_
              exact hR _ _ _ _ d_M_value_43 rfl ⟨rfl, R, hm⟩
            · exact absurd e2 (nI_m1 (by omega))
          · have hown : a_own a r f v = false := ts_nt (fun g => by
              obtain ⟨j, hj, hRj⟩ := (pm_own hm r f v).mp g
              exact h2 j hj (by rw [hRj]; exact ⟨rfl, rfl, rfl⟩))
            refine jr_iconst (v := -1) C d_M_value_28 (by decide) ?_
            refine jr_icmp_ne (tgt := 42) C d_M_value_29 (by decide) (fun e2 => ?_) (fun e2 => ?_)
            · exact absurd rfl e2
            · refine jr_aload_0 C d_M_value_32 ?_
              refine gM_values C d_M_value_33 ?_
              refine jr_eqi hm.2.1 ?_
              refine jr_sipush (v := nI 400) C d_M_value_36 (by decide) ?_
              refine jr_N_ne (tgt := 44) C d_M_value_39 (by decide) (by omega) (by omega) (fun e3 => ?_) (fun e3 => ?_)
              · rw [if_neg (by rw [hown]; rintro (g | g); exact absurd g (by decide); exact e3 g)] at hR
                refine jr_aload_0 C d_M_value_44 ?_
                refine gM_rows C d_M_value_45 ?_
                refine jr_iconst (v := nI 3) C d_M_value_48 (by decide) ?_
                refine jr_aload_0 C d_M_value_49 ?_
                refine gM_values C d_M_value_50 ?_
                refine jr_eqi hm.2.1 ?_
                refine jr_imulN C d_M_value_53 ?_
                refine jr_iload_1 C d_M_value_54 ?_
                refine sM_rows C (by omega) d_M_value_55 ?_
                refine jr_aload_0 C d_M_value_56 ?_
                refine gM_rows C d_M_value_57 ?_
                refine jr_iconst (v := nI 3) C d_M_value_60 (by decide) ?_
                refine jr_aload_0 C d_M_value_61 ?_
                refine gM_values C d_M_value_62 ?_
                refine jr_eqi hm.2.1 ?_
                refine jr_imulN C d_M_value_65 ?_
                refine jr_iconst (v := nI 1) C d_M_value_66 (by decide) ?_
                refine jr_iaddN C d_M_value_67 ?_
                refine jr_iload_2 C d_M_value_68 ?_
                refine sM_rows C (by omega) d_M_value_69 ?_
                refine jr_aload_0 C d_M_value_70 ?_
                refine gM_rows C d_M_value_71 ?_
                refine jr_iconst (v := nI 3) C d_M_value_74 (by decide) ?_
                refine jr_aload_0 C d_M_value_75 ?_
                refine gM_values C d_M_value_76 ?_
                refine jr_eqi hm.2.1 ?_
                refine jr_imulN C d_M_value_79 ?_
                refine jr_iconst (v := nI 2) C d_M_value_80 (by decide) ?_
                refine jr_iaddN C d_M_value_81 ?_
                refine jr_iload_3 C d_M_value_82 ?_
                refine sM_rows C (by omega) d_M_value_83 ?_
                refine jr_aload_0 C d_M_value_84 ?_
                refine jr_dup C d_M_value_85 rfl ?_
                refine gM_values C d_M_value_86 ?_
                refine jr_eqi hm.2.1 ?_
                refine jr_iconst (v := nI 1) C d_M_value_89 (by decide) ?_
                refine jr_iaddN C d_M_value_90 ?_
                refine pM_values C d_M_value_91 ?_
                refine jr_iconst (v := nI 0) C d_M_value_94 (by decide) ?_
                refine jr_istore_4 C d_M_value_95 rfl ?_
                refine jr_iconst (v := nI 0) C d_M_value_97 (by decide) ?_
                refine jr_istore_5 C d_M_value_98 rfl ?_
                have hm2 := pm_val (τ := ms_thr τ (nI 0)) hm hr1 hr2 hf hv hown (rows := upd (upd (upd (m_rows τ) (3 * a_v a) (nI r)) (3 * a_v a + 1) (nI f)) (3 * a_v a + 2) (nI v)) (by rw [pk_un (by omega), pk_un (by omega), pk_us]) (by rw [pk_un (by omega), pk_us]) pk_us (fun i hi => by rw [pk_un (by omega), pk_un (by omega), pk_un (by omega)])
                refine jr_w (ws2 := w_M q k (ms_val (ms_rows (ms_thr τ (nI 0)) (upd (upd (upd (m_rows τ) (3 * a_v a) (nI r)) (3 * a_v a + 1) (nI f)) (3 * a_v a + 2) (nI v))) (nI (a_v a + 1)))) rfl ?_
                generalize ms_val (ms_rows (ms_thr τ (nI 0)) (upd (upd (upd (m_rows τ) (3 * a_v a) (nI r)) (3 * a_v a + 1) (nI f)) (3 * a_v a + 2) (nI v))) (nI (a_v a + 1)) = σ2 at hm2 ⊢
                generalize (fun k => if k = a_v a then (r, f, v) else R k) = R2 at hm2
                have LL := lp_up (P := fun i => fx_J X (w_M q k σ2) 100 [some (.ref (q 0)), some (.int (nI r)), some (.int (nI f)), some (.int (nI v)), some (.int (nI (ct_n (fun k => decide ((R2 k).1 = r) && decide ((R2 k).2.1 = f)) i))), some (.int (nI i))] []) (a_v a + 1) (fun i hi ih => ?_)
                · exact LL 0 (by omega)
                · have go : ∀ b, i < a_v a + 1 → ct_n (fun k => decide ((R2 k).1 = r) && decide ((R2 k).2.1 = f)) i + b = ct_n (fun k => decide ((R2 k).1 = r) && decide ((R2 k).2.1 = f)) (i + 1) → fx_J X (w_M q k σ2) 144 [some (.ref (q 0)), some (.int (nI r)), some (.int (nI f)), some (.int (nI v)), some (.int (nI (ct_n (fun k => decide ((R2 k).1 = r) && decide ((R2 k).2.1 = f)) i))), some (.int (nI i))] [.int (nI b), .int (nI (ct_n (fun k => decide ((R2 k).1 = r) && decide ((R2 k).2.1 = f)) i))] := by
                    intro b h5 hb
                    refine jr_iaddN C d_M_value_144 ?_
                    refine jr_istore_4 C d_M_value_145 rfl ?_
                    refine jr_incN_5 C d_M_value_147 rfl ?_
                    refine jr_goto (tgt := 100) C d_M_value_150 (by decide) ?_
                    rw [hb]
                    exact ih h5
                  refine jr_iload_5 C d_M_value_100 ?_
                  refine jr_aload_0 C d_M_value_102 ?_
                  refine gM_values C d_M_value_103 ?_
                  refine jr_eqi hm2.2.1 ?_
                  refine jr_eqi (show nI (a_v (a_val a r f v)) = nI (a_v a + 1) from rfl) ?_
                  refine jr_N_ge (tgt := 153) C d_M_value_106 (by decide) (by omega) (by omega) (fun h5 => ?_) (fun h5 => ?_)
                  · refine jr_iload_4 C d_M_value_153 ?_
                    exact hR _ _ _ _ d_M_value_155 rfl ⟨congrArg nI (by
                      rw [show i = a_v a + 1 by omega]
                      exact pm_cnt hm2 r f), R2, hm2⟩
                  · obtain ⟨c1, c2, c3, c4, c5, c6, c7⟩ := hm2.2.2.1 i h5
                    have c2 : (R2 i).1 ≤ a_n a := c2
                    refine jr_iload_4 C d_M_value_109 ?_
                    refine jr_aload_0 C d_M_value_111 ?_
                    refine gM_rows C d_M_value_112 ?_
                    refine jr_iconst (v := nI 3) C d_M_value_115 (by decide) ?_
                    refine jr_iload_5 C d_M_value_116 ?_
                    refine jr_imulN C d_M_value_118 ?_
                    refine aM_rows C (by omega) d_M_value_119 ?_
                    refine jr_eqi c5 ?_
                    refine jr_iload_1 C d_M_value_120 ?_
                    refine jr_N_ne (tgt := 143) C d_M_value_121 (by decide) (by omega) (by omega) (fun h6 => ?_) (fun h6 => ?_)
                    · refine jr_iconst (v := nI 0) C d_M_value_143 (by decide) ?_
                      exact go 0 h5 (ct_sf (by simp [h6])).symm
                    · refine jr_aload_0 C d_M_value_124 ?_
                      refine gM_rows C d_M_value_125 ?_
                      refine jr_iconst (v := nI 3) C d_M_value_128 (by decide) ?_
                      refine jr_iload_5 C d_M_value_129 ?_
                      refine jr_imulN C d_M_value_131 ?_
                      refine jr_iconst (v := nI 1) C d_M_value_132 (by decide) ?_
                      refine jr_iaddN C d_M_value_133 ?_
                      refine aM_rows C (by omega) d_M_value_134 ?_
                      refine jr_eqi c6 ?_
                      refine jr_iload_2 C d_M_value_135 ?_
                      refine jr_N_ne (tgt := 143) C d_M_value_136 (by decide) (by omega) (by omega) (fun h7 => ?_) (fun h7 => ?_)
                      · refine jr_iconst (v := nI 0) C d_M_value_143 (by decide) ?_
                        exact go 0 h5 (ct_sf (by simp [h7])).symm
                      · refine jr_iconst (v := nI 1) C d_M_value_139 (by decide) ?_
                        refine jr_goto (tgt := 144) C d_M_value_140 (by decide) ?_
                        exact go 1 h5 (ct_st (p := fun k => decide ((R2 k).1 = r) && decide ((R2 k).2.1 = f)) (by simp [h6, h7])).symm
              · rw [if_pos (Or.inr e3)] at hR
                refine jr_iconst (v := nI 0) C d_M_value_42 (by decide) ?_
                exact hR _ _ _ _ d_M_value_43 rfl ⟨rfl, R, hm⟩
      · refine jr_if_eq (tgt := 42) C d_M_value_18 (by decide) (fun e1 => ?_) (fun e1 => ?_)
        · refine jr_iconst (v := nI 0) C d_M_value_42 (by decide) ?_
          rcases no_ix h1 with h | ⟨⟨f, h⟩, h2⟩
          · rw [h] at hR
            exact hR _ _ _ _ d_M_value_43 rfl ⟨rfl, R, hm⟩
          · rw [h, h2] at hR
            exact hR _ _ _ _ d_M_value_43 rfl ⟨rfl, R, hm⟩
        · exact absurd nI_0 e1
  · rw [rc_no (by omega) h0] at hR
    refine jr_if_eq (tgt := 42) C d_M_value_10 (by decide) (fun e0 => ?_) (fun e0 => ?_)
    · refine jr_iconst (v := nI 0) C d_M_value_42 (by decide) ?_
      exact hR _ _ _ _ d_M_value_43 rfl ⟨rfl, R, hm⟩
    · exact absurd nI_0 e0
theorem cM_gone (hw : a_wf a) (hm : rm_r a R τ) (x y z : Int32) : fx_MI l D cl_s (ty_M k) (w_M q k) y_M_gone (k_M_gone :: tb_l) rm_M_gone [.ref (q 0), .int x, .int y, .int z] τ (fun r u => r = (sp_gone a x y z).1 ∧ ∃ R2, rm_r (sp_gone a x y z).2 R2 u) := by
  have hn := hw.1
  have hv4 := hw.2.1
  refine fx_enterI (by decide +kernel) [some (.ref (q 0)), some (.int x), some (.int y), some (.int z), none, none] rfl (Nat.le_of_ble_eq_true rfl) (Nat.le_of_ble_eq_true rfl) (fun X C hR => ?_)
  unfold sp_gone at hR
  refine jr_aload_0 C d_M_gone_0 ?_
  refine jr_iconst (v := nI 0) C d_M_gone_1 (by decide) ?_
  refine pM_thrown C d_M_gone_2 ?_
  refine jr_aload_0 C d_M_gone_5 ?_
  refine jr_iload_1 C d_M_gone_6 ?_
  refine jr_iload_2 C d_M_gone_7 ?_
  refine jr_iload_3 C d_M_gone_8 ?_
  refine qM_M_find C (cM_find l D q k (ms_thr τ (nI 0)) a R hv4 hm x y z) rfl ⟨Nat.le_of_ble_eq_true rfl, Nat.le_of_ble_eq_true rfl⟩ (Nat.le_of_ble_eq_true rfl) d_M_gone_9 (fx_p (fun z2 h2 => ?_))
  rcases h2 with ⟨j, hj, rfl, rfl, rfl, rfl⟩ | ⟨rfl, h2⟩
  · obtain ⟨c1, c2, c3, c4, -⟩ := hm.2.2.1 j hj
    obtain ⟨r, f, v, eR⟩ : ∃ r f v, R j = (r, f, v) := ⟨_, _, _, rfl⟩
    rw [eR] at c1 c2 c3 c4 hR ⊢
    dsimp only at c1 c2 c3 c4 hR ⊢
    have hown : a_own a r f v = true := (pm_own hm r f v).mpr ⟨j, hj, eR⟩
    rw [rc_in c1 c2 (by omega), ix_in c3 (by omega), ix_in c4 (by omega)] at hR
    dsimp only at hR
    rw [if_pos hown] at hR
    refine jr_istore_4 C d_M_gone_12 rfl ?_
    refine jr_iload_4 C d_M_gone_14 ?_
    refine jr_iconst (v := -1) C d_M_gone_16 (by decide) ?_
    refine jr_icmp_ne (tgt := 22) C d_M_gone_17 (by decide) (fun e1 => ?_) (fun e1 => ?_)
    · refine jr_aload_0 C d_M_gone_22 ?_
      refine jr_dup C d_M_gone_23 rfl ?_
      refine gM_values C d_M_gone_24 ?_
      refine jr_eqi hm.2.1 ?_
      refine jr_iconst (v := nI 1) C d_M_gone_27 (by decide) ?_
      refine jr_isubN C d_M_gone_28 (by omega) ?_
      refine pM_values C d_M_gone_29 ?_
      refine jr_iconst (v := nI 0) C d_M_gone_32 (by decide) ?_
      refine jr_istore_5 C d_M_gone_33 rfl ?_
      have LL := lp_up (P := fun i => ∀ rows : Nat → Int32, (∀ s, s < i → rows (3 * j + s) = m_rows τ (3 * (a_v a - 1) + s)) → (∀ s, s < 3 * j ∨ 3 * j + i ≤ s → rows s = m_rows τ s) → fx_J X (w_M q k (ms_val (ms_rows (ms_thr τ (nI 0)) rows) (nI (a_v a - 1)))) 35 [some (.ref (q 0)), some (.int (nI r)), some (.int (nI f)), some (.int (nI v)), some (.int (nI j)), some (.int (nI i))] []) 3 (fun i hi ih rows g1 g2 => ?_)
      · exact LL 0 (by omega) (m_rows τ) (fun s hs => by omega) (fun s _ => rfl)
      · refine jr_iload_5 C d_M_gone_35 ?_
        refine jr_iconst (v := nI 3) C d_M_gone_37 (by decide) ?_
        refine jr_N_ge (tgt := 73) C d_M_gone_38 (by decide) (by omega) (by omega) (fun h => ?_) (fun h => ?_)
        · have e3 : i = 3 := by omega
          subst e3
          refine jr_iconst (v := nI 1) C d_M_gone_73 (by decide) ?_
          exact hR _ _ _ _ d_M_gone_74 rfl ⟨rfl, _, pm_gon (τ := ms_thr τ (nI 0)) hm hj eR g1 g2⟩
        · refine jr_aload_0 C d_M_gone_41 ?_
          refine gM_rows C d_M_gone_42 ?_
          refine jr_iconst (v := nI 3) C d_M_gone_45 (by decide) ?_
          refine jr_iload_4 C d_M_gone_46 ?_
          refine jr_imulN C d_M_gone_48 ?_
          refine jr_iload_5 C d_M_gone_49 ?_
          refine jr_iaddN C d_M_gone_51 ?_
          refine jr_aload_0 C d_M_gone_52 ?_
          refine gM_rows C d_M_gone_53 ?_
          refine jr_iconst (v := nI 3) C d_M_gone_56 (by decide) ?_
          refine jr_aload_0 C d_M_gone_57 ?_
          refine gM_values C d_M_gone_58 ?_
          refine jr_imulN C d_M_gone_61 ?_
          refine jr_iload_5 C d_M_gone_62 ?_
          refine jr_iaddN C d_M_gone_64 ?_
          refine aM_rows C (by omega) d_M_gone_65 ?_
          refine sM_rows C (by omega) d_M_gone_66 ?_
          refine jr_incN_5 C d_M_gone_67 rfl ?_
          refine jr_goto (tgt := 35) C d_M_gone_70 (by decide) ?_
          refine ih h (upd rows (3 * j + i) (rows (3 * (a_v a - 1) + i))) (fun s hs => ?_) (fun s hs => ?_)
          · by_cases e : s = i
            · rw [e, pk_us]
              exact g2 _ (by omega)
            · rw [pk_un (by omega)]
              exact g1 s (by omega)
          · rw [pk_un (by omega)]
            exact g2 s (by omega)
    · exact absurd e1 (nI_m1 (by omega))
  · refine jr_istore_4 C d_M_gone_12 rfl ?_
    refine jr_iload_4 C d_M_gone_14 ?_
    refine jr_iconst (v := -1) C d_M_gone_16 (by decide) ?_
    refine jr_icmp_ne (tgt := 22) C d_M_gone_17 (by decide) (fun e1 => ?_) (fun e1 => ?_)
    · exact absurd rfl e1
    · refine jr_iconst (v := nI 0) C d_M_gone_20 (by decide) ?_
      by_cases k1 : ∃ j, 1 ≤ j ∧ j ≤ a_n a ∧ x = nI j
      · obtain ⟨r, hr1, hr2, rfl⟩ := k1
        rw [rc_in hr1 hr2 (by omega)] at hR
        by_cases k2 : ∃ j, j < 6 ∧ y = nI j
        · obtain ⟨f, hf, rfl⟩ := k2
          rw [ix_in hf (by omega)] at hR
          by_cases k3 : ∃ j, j < 100 ∧ z = nI j
          · obtain ⟨v, hv, rfl⟩ := k3
            rw [ix_in hv (by omega)] at hR
            dsimp only at hR
            rw [if_neg (fun g => by
              obtain ⟨j, hj, hRj⟩ := (pm_own hm r f v).mp g
              exact h2 j hj (by rw [hRj]; exact ⟨rfl, rfl, rfl⟩))] at hR
            exact hR _ _ _ _ d_M_gone_21 rfl ⟨rfl, R, hm⟩
          · rw [ix_no (by omega) k3] at hR
            exact hR _ _ _ _ d_M_gone_21 rfl ⟨rfl, R, hm⟩
        · rw [ix_no (by omega) k2] at hR
          exact hR _ _ _ _ d_M_gone_21 rfl ⟨rfl, R, hm⟩
      · rw [rc_no (by omega) k1] at hR
        exact hR _ _ _ _ d_M_gone_21 rfl ⟨rfl, R, hm⟩
end PM2
