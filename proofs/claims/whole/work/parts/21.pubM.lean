section PM
variable (l : Launch) (D : va_G) (q : Nat → Nat) (k : Nat → ClassId) (τ : sm_T) (a : ab_T) (R : Nat → Nat × Nat × Nat)
theorem cM_record (hw : a_wf a) (hm : rm_r a R τ) : fx_MI l D cl_s (ty_M k) (w_M q k) y_M_record (k_M_record :: tb_l) rm_M_record [.ref (q 0)] τ (fun r u => r = (sp_record a).1 ∧ rm_r (sp_record a).2 R u) := by
  have hn := hw.1
  refine fx_enterI (by decide +kernel) [some (.ref (q 0))] rfl (Nat.le_of_ble_eq_true rfl) (Nat.le_of_ble_eq_true rfl) (fun X C hR => ?_)
  refine jr_aload_0 C d_M_record_0 ?_
  refine jr_iconst (v := nI 0) C d_M_record_1 (by decide) ?_
  refine pM_thrown C d_M_record_2 ?_
  refine jr_aload_0 C d_M_record_5 ?_
  refine gM_records C d_M_record_6 ?_
  refine jr_eqi hm.1 ?_
  refine jr_bipush (v := nI 60) C d_M_record_9 (by decide) ?_
  unfold sp_record at hR
  refine jr_N_ne (tgt := 16) C d_M_record_11 (by decide) (by omega) (by omega) (fun h => ?_) (fun h => ?_)
  · refine jr_aload_0 C d_M_record_16 ?_
    refine jr_dup C d_M_record_17 rfl ?_
    refine gM_records C d_M_record_18 ?_
    refine jr_eqi hm.1 ?_
    refine jr_iconst (v := nI 1) C d_M_record_21 (by decide) ?_
    refine jr_iaddN C d_M_record_22 ?_
    refine pM_records C d_M_record_23 ?_
    refine jr_aload_0 C d_M_record_26 ?_
    refine gM_records C d_M_record_27 ?_
    rw [if_neg h] at hR
    obtain ⟨h1, h2, h3, h4, h5, h6, h7⟩ := hm
    exact hR _ _ _ _ d_M_record_30 rfl ⟨rfl, ⟨rfl, h2, fun k hk => ⟨(h3 k hk).1, by have := (h3 k hk).2.1; show (R k).1 ≤ a_n a + 1; omega, (h3 k hk).2.2⟩, h4, h5, h6, h7⟩⟩
  · refine jr_iconst (v := nI 0) C d_M_record_14 (by decide) ?_
    rw [if_pos h] at hR
    exact hR _ _ _ _ d_M_record_15 rfl ⟨rfl, hm⟩
theorem cM_hit (hw : a_wf a) (hm : rm_r a R τ) (x : Int32) (on : Bool) : fx_MI l D cl_s (ty_M k) (w_M q k) y_M_hit (k_M_hit :: tb_l) rm_M_hit [.ref (q 0), .int x, .int (b01 on)] τ (fun r u => r = (sp_hit a x on).1 ∧ rm_r (sp_hit a x on).2 R u) := by
  have hn := hw.1
  refine fx_enterI (by decide +kernel) [some (.ref (q 0)), some (.int x), some (.int (b01 on)), none, none] rfl (Nat.le_of_ble_eq_true rfl) (Nat.le_of_ble_eq_true rfl) (fun X C hR => ?_)
  unfold sp_hit at hR
  refine jr_aload_0 C d_M_hit_0 ?_
  refine jr_iconst (v := nI 0) C d_M_hit_1 (by decide) ?_
  refine pM_thrown C d_M_hit_2 ?_
  refine jr_aload_0 C d_M_hit_5 ?_
  refine jr_iload_1 C d_M_hit_6 ?_
  refine qM_M_isRecord C (cM_isRecord l D q k (ms_thr τ (nI 0)) x (a_n a) hn hm.1) rfl ⟨Nat.le_of_ble_eq_true rfl, Nat.le_of_ble_eq_true rfl⟩ (Nat.le_of_ble_eq_true rfl) d_M_hit_7 (fx_p (fun z hz => ?_))
  rcases hz with ⟨rfl, r, hr1, hr2, rfl⟩ | ⟨rfl, hz⟩
  · rw [rc_in hr1 hr2 (by omega)] at hR
    have hw2 := wf_hiS (on := on) hw hr1 hr2
    have hm2 : rm_r (a_hiS a r on) R (ms_hits (ms_thr τ (nI 0)) (upd (m_hits τ) r (b01 on))) := pm_hit (τ := ms_thr τ (nI 0)) hm
    refine jr_if_ne (tgt := 15) C d_M_hit_10 (by decide) (fun h => ?_) (fun h => ?_)
    · refine jr_aload_0 C d_M_hit_15 ?_
      refine gM_hits C d_M_hit_16 ?_
      refine jr_iload_1 C d_M_hit_19 ?_
      refine jr_iload_2 C d_M_hit_20 ?_
      refine sM_hits C (by omega) (b01_or on) d_M_hit_21 ?_
      refine jr_iconst (v := nI 0) C d_M_hit_22 (by decide) ?_
      refine jr_istore_3 C d_M_hit_23 rfl ?_
      refine jr_iconst (v := nI 1) C d_M_hit_24 (by decide) ?_
      refine jr_istore_4 C d_M_hit_25 rfl ?_
      have h0 : a_hit (a_hiS a r on) 0 = false := ts_nt (fun h => by have := (hw2.2.2.2.1 0 h).1; omega)
      have L := lp_up (P := fun s => 1 ≤ s → fx_J X (w_M q k (ms_hits (ms_thr τ (nI 0)) (upd (m_hits τ) r (b01 on)))) 27 [some (.ref (q 0)), some (.int (nI r)), some (.int (b01 on)), some (.int (nI (ct_n (a_hit (a_hiS a r on)) s))), some (.int (nI s))] []) (a_n a + 1) (fun s hs ih h1 => ?_)
      · have := L 1 (by omega) (Nat.le_refl 1)
        rw [show ct_n (a_hit (a_hiS a r on)) 1 = 0 from ct_sf h0] at this
        exact this
      · have go : ∀ b, s < a_n a + 1 → ct_n (a_hit (a_hiS a r on)) s + b = ct_n (a_hit (a_hiS a r on)) (s + 1) → fx_J X (w_M q k (ms_hits (ms_thr τ (nI 0)) (upd (m_hits τ) r (b01 on)))) 52 [some (.ref (q 0)), some (.int (nI r)), some (.int (b01 on)), some (.int (nI (ct_n (a_hit (a_hiS a r on)) s))), some (.int (nI s))] [.int (nI b), .int (nI (ct_n (a_hit (a_hiS a r on)) s))] := by
          intro b h2 hb
          refine jr_iaddN C d_M_hit_52 ?_
          refine jr_istore_3 C d_M_hit_53 rfl ?_
          refine jr_incN_4 C d_M_hit_54 rfl ?_
          refine jr_goto (tgt := 27) C d_M_hit_57 (by decide) ?_
          rw [hb]
          exact ih h2 (by omega)
        refine jr_iload_4 C d_M_hit_27 ?_
        refine jr_aload_0 C d_M_hit_29 ?_
        refine gM_records C d_M_hit_30 ?_
        refine jr_eqi hm.1 ?_
        refine jr_N_gt (tgt := 60) C d_M_hit_33 (by decide) (by omega) (by omega) (fun h2 => ?_) (fun h2 => ?_)
        · refine jr_iload_3 C d_M_hit_60 ?_
          exact hR _ _ _ _ d_M_hit_61 rfl ⟨congrArg nI (by
            rw [show s = a_n a + 1 by omega]
            exact (ct_ext (by omega) (fun i h1 h2 => ts_nt (fun g => by have : i ≤ a_n a := (hw2.2.2.2.1 i g).2; omega))).symm), hm2⟩
        · refine jr_iload_3 C d_M_hit_36 ?_
          refine jr_aload_0 C d_M_hit_37 ?_
          refine gM_hits C d_M_hit_38 ?_
          refine jr_iload_4 C d_M_hit_41 ?_
          refine aM_hits C (by omega) d_M_hit_43 ?_
          refine jr_eqi (hm2.2.2.2.2.2.2 s h1 (by omega)) ?_
          refine jr_if_eq (tgt := 51) C d_M_hit_44 (by decide) (fun h3 => ?_) (fun h3 => ?_)
          · rw [b01_eq] at h3
            refine jr_iconst (v := nI 0) C d_M_hit_51 (by decide) ?_
            exact go 0 (by omega) (ct_sf h3).symm
          · rw [b01_ne] at h3
            refine jr_iconst (v := nI 1) C d_M_hit_47 (by decide) ?_
            refine jr_goto (tgt := 52) C d_M_hit_48 (by decide) ?_
            exact go 1 (by omega) (ct_st h3).symm
    · exact absurd h (by decide)
  · rw [rc_no (by omega) hz] at hR
    refine jr_if_ne (tgt := 15) C d_M_hit_10 (by decide) (fun h => ?_) (fun h => ?_)
    · exact absurd nI_0 h
    · refine jr_iconst (v := -1) C d_M_hit_13 (by decide) ?_
      exact hR _ _ _ _ d_M_hit_14 rfl ⟨rfl, hm⟩
theorem cM_narrower (hw : a_wf a) (hm : rm_r a R τ) (y z b : Int32) : fx_MI l D cl_s (ty_M k) (w_M q k) y_M_narrower (k_M_narrower :: tb_l) rm_M_narrower [.ref (q 0), .int y, .int z, .int b] τ (fun r u => r = (sp_narrower a y z b).1 ∧ rm_r (sp_narrower a y z b).2 R u) := by
  refine fx_enterI (by decide +kernel) [some (.ref (q 0)), some (.int y), some (.int z), some (.int b)] rfl (Nat.le_of_ble_eq_true rfl) (Nat.le_of_ble_eq_true rfl) (fun X C hR => ?_)
  unfold sp_narrower at hR
  refine jr_aload_0 C d_M_narrower_0 ?_
  refine jr_iconst (v := nI 0) C d_M_narrower_1 (by decide) ?_
  refine pM_thrown C d_M_narrower_2 ?_
  refine jr_iload_1 C d_M_narrower_5 ?_
  refine jr_iload_2 C d_M_narrower_6 ?_
  refine qM_M_isValue C (cM_isValue l D (ty_M k) (w_M q k) (ms_thr τ (nI 0)) y z) ⟨Nat.le_of_ble_eq_true rfl, Nat.le_of_ble_eq_true rfl⟩ (Nat.le_of_ble_eq_true rfl) d_M_narrower_7 (fx_p (fun z1 h1 => ?_))
  rcases h1 with ⟨rfl, ⟨f, hf, rfl⟩, v, hv, rfl⟩ | ⟨rfl, h1⟩
  · rw [ix_in hf (by omega), ix_in hv (by omega)] at hR
    refine jr_if_eq (tgt := 36) C d_M_narrower_10 (by decide) (fun e1 => ?_) (fun e1 => ?_)
    · exact absurd e1 (by decide)
    · have fin : ∀ p, p ≤ 100 → b = en_p p → (∀ r u pc pl2, decode b_M_narrower pc = .ok (.ireturn, 1) → narrow .int (.int r) = .int r → r = nI 1 ∧ rm_r (a_nar a f v p) R u → fx_J X (w_M q k u) pc pl2 [.int r]) → fx_J X (w_M q k (ms_thr τ (nI 0))) 38 [some (.ref (q 0)), some (.int (nI f)), some (.int (nI v)), some (.int b)] [] := by
        intro p hp hb hR
        rw [hb]
        refine jr_aload_0 C d_M_narrower_38 ?_
        refine gM_broader C d_M_narrower_39 ?_
        refine jr_bipush (v := nI 100) C d_M_narrower_42 (by decide) ?_
        refine jr_iload_1 C d_M_narrower_44 ?_
        refine jr_imulN C d_M_narrower_45 ?_
        refine jr_iload_2 C d_M_narrower_46 ?_
        refine jr_iaddN C d_M_narrower_47 ?_
        refine jr_iload_3 C d_M_narrower_48 ?_
        refine sM_broader C (by omega) d_M_narrower_49 ?_
        refine jr_iconst (v := nI 1) C d_M_narrower_50 (by decide) ?_
        exact hR _ _ _ _ d_M_narrower_51 rfl ⟨rfl, pm_nar (τ := ms_thr τ (nI 0)) hm hv⟩
      refine jr_iload_3 C d_M_narrower_13 ?_
      refine jr_iconst (v := -1) C d_M_narrower_14 (by decide) ?_
      refine jr_icmp_eq (tgt := 38) C d_M_narrower_15 (by decide) (fun e3 => ?_) (fun e3 => ?_)
      · subst e3
        exact fin 100 (by omega) (by rfl) hR
      · dsimp only at hR
        rw [if_neg e3] at hR
        refine jr_iload_1 C d_M_narrower_18 ?_
        refine jr_iload_3 C d_M_narrower_19 ?_
        refine qM_M_isValue C (cM_isValue l D (ty_M k) (w_M q k) (ms_thr τ (nI 0)) (nI f) b) ⟨Nat.le_of_ble_eq_true rfl, Nat.le_of_ble_eq_true rfl⟩ (Nat.le_of_ble_eq_true rfl) d_M_narrower_20 (fx_p (fun z4 h4 => ?_))
        rcases h4 with ⟨rfl, -, p, hp, rfl⟩ | ⟨rfl, h4⟩
        · rw [ix_in hp (by omega)] at hR
          refine jr_if_eq (tgt := 36) C d_M_narrower_23 (by decide) (fun e4 => ?_) (fun e4 => ?_)
          · exact absurd e4 (by decide)
          · refine jr_aload_0 C d_M_narrower_26 ?_
            refine jr_iload_1 C d_M_narrower_27 ?_
            refine jr_iload_3 C d_M_narrower_28 ?_
            refine jr_iload_2 C d_M_narrower_29 ?_
            refine qM_M_lies C (cM_lies l D q k (ms_thr τ (nI 0)) (a_par a f) (hw.2.2.2.2 f) f p v hf hp hv (fun u hu => hm.2.2.2.2.1 f u hf hu)) rfl ⟨Nat.le_of_ble_eq_true rfl, Nat.le_of_ble_eq_true rfl⟩ (Nat.le_of_ble_eq_true rfl) d_M_narrower_30 (fx_p (fun z5 h5 => ?_))
            rw [h5]
            refine jr_if_eq (tgt := 38) C d_M_narrower_33 (by decide) (fun e5 => ?_) (fun e5 => ?_)
            · rw [b01_eq] at e5
              dsimp only at hR
              rw [if_neg (by rw [e5]; decide)] at hR
              exact fin p (by omega) (en_in hp).symm hR
            · rw [b01_ne] at e5
              dsimp only at hR
              rw [if_pos e5] at hR
              refine jr_iconst (v := nI 0) C d_M_narrower_36 (by decide) ?_
              exact hR _ _ _ _ d_M_narrower_37 rfl ⟨rfl, hm⟩
        · rw [ix_no (by omega) (fun q => h4 ⟨⟨f, hf, rfl⟩, q⟩)] at hR
          refine jr_if_eq (tgt := 36) C d_M_narrower_23 (by decide) (fun e4 => ?_) (fun e4 => ?_)
          · refine jr_iconst (v := nI 0) C d_M_narrower_36 (by decide) ?_
            exact hR _ _ _ _ d_M_narrower_37 rfl ⟨rfl, hm⟩
          · exact absurd nI_0 e4
  · have hno : ix_o 6 y = none ∨ (∃ f, ix_o 6 y = some f) ∧ ix_o 100 z = none := by
      by_cases e : ∃ j, j < 6 ∧ y = nI j
      · obtain ⟨j, hj, rfl⟩ := e
        exact Or.inr ⟨⟨j, ix_in hj (by omega)⟩, ix_no (by omega) (fun q => h1 ⟨⟨j, hj, rfl⟩, q⟩)⟩
      · exact Or.inl (ix_no (by omega) e)
    refine jr_if_eq (tgt := 36) C d_M_narrower_10 (by decide) (fun e1 => ?_) (fun e1 => ?_)
    · refine jr_iconst (v := nI 0) C d_M_narrower_36 (by decide) ?_
      rcases hno with h | ⟨⟨f, h⟩, h2⟩
      · rw [h] at hR
        exact hR _ _ _ _ d_M_narrower_37 rfl ⟨rfl, hm⟩
      · rw [h, h2] at hR
        exact hR _ _ _ _ d_M_narrower_37 rfl ⟨rfl, hm⟩
    · exact absurd nI_0 e1
end PM
