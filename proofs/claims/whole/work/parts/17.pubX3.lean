section PX3
variable (l : Launch) (D : va_G) (q : Nat → Nat) (k : Nat → ClassId) (σ : sx_T) (a : ab_T)
theorem cX_value (hw : a_wf a) (hx : rx_r a σ) (x y z : Int32) : fx_MI l D cl_s (ty_X k) (w_X q k) y_X_value (k_X_value :: tb_l) rm_X_value [.ref (q 0), .int x, .int y, .int z] σ (fun r u => r = (sp_value a x y z).1 ∧ rx_r (sp_value a x y z).2 u) := by
  have hn := hw.1
  have hv4 := hw.2.1
  refine fx_enterI (by decide +kernel) [some (.ref (q 0)), some (.int x), some (.int y), some (.int z)] rfl (Nat.le_of_ble_eq_true rfl) (Nat.le_of_ble_eq_true rfl) (fun X C hR => ?_)
  unfold sp_value at hR
  refine jr_aload_0 C d_X_value_0 ?_
  refine jr_iload_1 C d_X_value_1 ?_
  refine qX_X_isRecord C (cX_isRecord l D q k σ x (a_n a) hn hx.1) rfl ⟨Nat.le_of_ble_eq_true rfl, Nat.le_of_ble_eq_true rfl⟩ (Nat.le_of_ble_eq_true rfl) d_X_value_2 (fx_p (fun z0 h0 => ?_))
  rcases h0 with ⟨rfl, r, hr1, hr2, rfl⟩ | ⟨rfl, h0⟩
  · rw [rc_in hr1 hr2 (by omega)] at hR
    refine jr_if_eq (tgt := 22) C d_X_value_5 (by decide) (fun e0 => ?_) (fun e0 => ?_)
    · exact absurd e0 (by decide)
    · refine jr_iload_2 C d_X_value_8 ?_
      refine qX_X_isFacet C (cX_isFacet l D (ty_X k) (w_X q k) σ y) ⟨Nat.le_of_ble_eq_true rfl, Nat.le_of_ble_eq_true rfl⟩ (Nat.le_of_ble_eq_true rfl) d_X_value_9 (fx_p (fun z1 h1 => ?_))
      rcases h1 with ⟨rfl, f, hf, rfl⟩ | ⟨rfl, h1⟩
      · rw [ix_in hf (by omega)] at hR
        refine jr_if_eq (tgt := 22) C d_X_value_12 (by decide) (fun e1 => ?_) (fun e1 => ?_)
        · exact absurd e1 (by decide)
        · refine jr_iload_3 C d_X_value_15 ?_
          refine qX_X_isValue C (cX_isValue l D (ty_X k) (w_X q k) σ z) ⟨Nat.le_of_ble_eq_true rfl, Nat.le_of_ble_eq_true rfl⟩ (Nat.le_of_ble_eq_true rfl) d_X_value_16 (fx_p (fun z2 h2 => ?_))
          rcases h2 with ⟨rfl, v, hv, rfl⟩ | ⟨rfl, h2⟩
          · rw [ix_in hv (by omega)] at hR
            refine jr_if_ne (tgt := 24) C d_X_value_19 (by decide) (fun e2 => ?_) (fun e2 => ?_)
            · refine jr_aload_0 C d_X_value_24 ?_
              refine jr_iload_1 C d_X_value_25 ?_
              refine jr_iload_2 C d_X_value_26 ?_
              refine jr_iload_3 C d_X_value_27 ?_
              refine qX_X_holds C (cX_holds l D q k σ r f v (by omega) hf hv) rfl ⟨Nat.le_of_ble_eq_true rfl, Nat.le_of_ble_eq_true rfl⟩ (Nat.le_of_ble_eq_true rfl) d_X_value_28 (fx_p (fun z3 h3 => ?_))
              rw [h3, hx.2.2.1 f v r hf hv (by omega)]
              refine jr_if_ne (tgt := 44) C d_X_value_31 (by decide) (fun e3 => ?_) (fun e3 => ?_)
              · rw [b01_ne] at e3
                refine jr_iconst (v := nI 0) C d_X_value_44 (by decide) ?_
                dsimp only at hR
                rw [if_pos (Or.inl e3)] at hR
                exact hR _ _ _ _ d_X_value_45 rfl ⟨rfl, hx⟩
              · rw [b01_eq] at e3
                refine jr_aload_0 C d_X_value_34 ?_
                refine gX_held C d_X_value_35 ?_
                refine jr_eqi hx.2.1 ?_
                refine jr_sipush (v := nI 400) C d_X_value_38 (by decide) ?_
                refine jr_N_lt (tgt := 46) C d_X_value_41 (by decide) (by omega) (by omega) (fun e4 => ?_) (fun e4 => ?_)
                · dsimp only at hR
                  rw [if_neg (by rw [e3]; rintro (g | g); exact absurd g (by decide); omega)] at hR
                  refine jr_aload_0 C d_X_value_46 ?_
                  refine gX_holders C d_X_value_47 ?_
                  refine jr_iload_2 C d_X_value_50 ?_
                  refine jr_iload_3 C d_X_value_51 ?_
                  refine kX_cell C ⟨Nat.le_of_ble_eq_true rfl, Nat.le_of_ble_eq_true rfl⟩ (Nat.le_of_ble_eq_true rfl) d_X_value_52 ?_
                  refine jr_dup2_11 C d_X_value_55 rfl rfl ?_
                  refine aX_holders C (by omega) d_X_value_56 ?_
                  refine jr_iload_1 C d_X_value_57 ?_
                  refine kX_bit C ⟨Nat.le_of_ble_eq_true rfl, Nat.le_of_ble_eq_true rfl⟩ (Nat.le_of_ble_eq_true rfl) d_X_value_58 ?_
                  refine jr_lor C d_X_value_61 ?_
                  refine sX_holders C (by omega) d_X_value_62 ?_
                  refine jr_aload_0 C d_X_value_63 ?_
                  refine jr_dup C d_X_value_64 rfl ?_
                  refine gX_held C d_X_value_65 ?_
                  refine jr_eqi hx.2.1 ?_
                  refine jr_iconst (v := nI 1) C d_X_value_68 (by decide) ?_
                  refine jr_iaddN C d_X_value_69 ?_
                  refine pX_held C d_X_value_70 ?_
                  refine jr_aload_0 C d_X_value_73 ?_
                  refine jr_iload_2 C d_X_value_74 ?_
                  refine jr_iload_3 C d_X_value_75 ?_
                  refine jr_iload_1 C d_X_value_76 ?_
                  refine kX_bit C ⟨Nat.le_of_ble_eq_true rfl, Nat.le_of_ble_eq_true rfl⟩ (Nat.le_of_ble_eq_true rfl) d_X_value_77 ?_
                  refine qX_X_raise C (cX_raise l D q k _ (a_par a f) (hw.2.2.2.2 f) f v (tb_1 r) hf hv (fun u hu => hx.2.2.2.2.1 f u hf hu)) rfl ⟨Nat.le_of_ble_eq_true rfl, Nat.le_of_ble_eq_true rfl⟩ (Nat.le_of_ble_eq_true rfl) d_X_value_80 (fun u hu => ?_)
                  obtain ⟨h, rfl, hh⟩ := hu
                  have hx2 := px_val hw hx hr2 hv hh
                  refine jr_aload_0 C d_X_value_83 ?_
                  refine jr_iload_1 C d_X_value_84 ?_
                  refine jr_iload_2 C d_X_value_85 ?_
                  refine qX_X_heldOf C (cX_heldOf l D q k _ r f (by omega) hf) rfl ⟨Nat.le_of_ble_eq_true rfl, Nat.le_of_ble_eq_true rfl⟩ (Nat.le_of_ble_eq_true rfl) d_X_value_86 (fx_p (fun c hc => ?_))
                  rw [hc]
                  exact hR _ _ _ _ d_X_value_89 rfl ⟨congrArg nI (ct_congr (fun u hu => hx2.2.2.1 f u r hf hu (by omega))), hx2⟩
                · refine jr_iconst (v := nI 0) C d_X_value_44 (by decide) ?_
                  dsimp only at hR
                  rw [if_pos (Or.inr (by omega))] at hR
                  exact hR _ _ _ _ d_X_value_45 rfl ⟨rfl, hx⟩
            · exact absurd e2 (by decide)
          · rw [ix_no (by omega) h2] at hR
            refine jr_if_ne (tgt := 24) C d_X_value_19 (by decide) (fun e2 => ?_) (fun e2 => ?_)
            · exact absurd nI_0 e2
            · refine jr_iconst (v := nI 0) C d_X_value_22 (by decide) ?_
              exact hR _ _ _ _ d_X_value_23 rfl ⟨rfl, hx⟩
      · rw [ix_no (by omega) h1] at hR
        refine jr_if_eq (tgt := 22) C d_X_value_12 (by decide) (fun e1 => ?_) (fun e1 => ?_)
        · refine jr_iconst (v := nI 0) C d_X_value_22 (by decide) ?_
          exact hR _ _ _ _ d_X_value_23 rfl ⟨rfl, hx⟩
        · exact absurd nI_0 e1
  · rw [rc_no (by omega) h0] at hR
    refine jr_if_eq (tgt := 22) C d_X_value_5 (by decide) (fun e0 => ?_) (fun e0 => ?_)
    · refine jr_iconst (v := nI 0) C d_X_value_22 (by decide) ?_
      exact hR _ _ _ _ d_X_value_23 rfl ⟨rfl, hx⟩
    · exact absurd nI_0 e0
theorem cX_gone (hw : a_wf a) (hx : rx_r a σ) (hp : ∀ r f v, a_own a r f v = true → 0 < a_v a) (x y z : Int32) : fx_MI l D cl_s (ty_X k) (w_X q k) y_X_gone (k_X_gone :: tb_l) rm_X_gone [.ref (q 0), .int x, .int y, .int z] σ (fun r u => r = (sp_gone a x y z).1 ∧ rx_r (sp_gone a x y z).2 u) := by
  have hn := hw.1
  refine fx_enterI (by decide +kernel) [some (.ref (q 0)), some (.int x), some (.int y), some (.int z)] rfl (Nat.le_of_ble_eq_true rfl) (Nat.le_of_ble_eq_true rfl) (fun X C hR => ?_)
  unfold sp_gone at hR
  refine jr_aload_0 C d_X_gone_0 ?_
  refine jr_iload_1 C d_X_gone_1 ?_
  refine qX_X_isRecord C (cX_isRecord l D q k σ x (a_n a) hn hx.1) rfl ⟨Nat.le_of_ble_eq_true rfl, Nat.le_of_ble_eq_true rfl⟩ (Nat.le_of_ble_eq_true rfl) d_X_gone_2 (fx_p (fun z0 h0 => ?_))
  rcases h0 with ⟨rfl, r, hr1, hr2, rfl⟩ | ⟨rfl, h0⟩
  · rw [rc_in hr1 hr2 (by omega)] at hR
    refine jr_if_eq (tgt := 22) C d_X_gone_5 (by decide) (fun e0 => ?_) (fun e0 => ?_)
    · exact absurd e0 (by decide)
    · refine jr_iload_2 C d_X_gone_8 ?_
      refine qX_X_isFacet C (cX_isFacet l D (ty_X k) (w_X q k) σ y) ⟨Nat.le_of_ble_eq_true rfl, Nat.le_of_ble_eq_true rfl⟩ (Nat.le_of_ble_eq_true rfl) d_X_gone_9 (fx_p (fun z1 h1 => ?_))
      rcases h1 with ⟨rfl, f, hf, rfl⟩ | ⟨rfl, h1⟩
      · rw [ix_in hf (by omega)] at hR
        refine jr_if_eq (tgt := 22) C d_X_gone_12 (by decide) (fun e1 => ?_) (fun e1 => ?_)
        · exact absurd e1 (by decide)
        · refine jr_iload_3 C d_X_gone_15 ?_
          refine qX_X_isValue C (cX_isValue l D (ty_X k) (w_X q k) σ z) ⟨Nat.le_of_ble_eq_true rfl, Nat.le_of_ble_eq_true rfl⟩ (Nat.le_of_ble_eq_true rfl) d_X_gone_16 (fx_p (fun z2 h2 => ?_))
          rcases h2 with ⟨rfl, v, hv, rfl⟩ | ⟨rfl, h2⟩
          · rw [ix_in hv (by omega)] at hR
            refine jr_if_ne (tgt := 24) C d_X_gone_19 (by decide) (fun e2 => ?_) (fun e2 => ?_)
            · refine jr_aload_0 C d_X_gone_24 ?_
              refine jr_iload_1 C d_X_gone_25 ?_
              refine jr_iload_2 C d_X_gone_26 ?_
              refine jr_iload_3 C d_X_gone_27 ?_
              refine qX_X_holds C (cX_holds l D q k σ r f v (by omega) hf hv) rfl ⟨Nat.le_of_ble_eq_true rfl, Nat.le_of_ble_eq_true rfl⟩ (Nat.le_of_ble_eq_true rfl) d_X_gone_28 (fx_p (fun z3 h3 => ?_))
              rw [h3, hx.2.2.1 f v r hf hv (by omega)]
              refine jr_if_ne (tgt := 36) C d_X_gone_31 (by decide) (fun e3 => ?_) (fun e3 => ?_)
              · rw [b01_ne] at e3
                dsimp only at hR
                rw [if_pos e3] at hR
                have hp1 := hp r f v e3
                refine jr_aload_0 C d_X_gone_36 ?_
                refine gX_holders C d_X_gone_37 ?_
                refine jr_iload_2 C d_X_gone_40 ?_
                refine jr_iload_3 C d_X_gone_41 ?_
                refine kX_cell C ⟨Nat.le_of_ble_eq_true rfl, Nat.le_of_ble_eq_true rfl⟩ (Nat.le_of_ble_eq_true rfl) d_X_gone_42 ?_
                refine jr_dup2_11 C d_X_gone_45 rfl rfl ?_
                refine aX_holders C (by omega) d_X_gone_46 ?_
                refine jr_iload_1 C d_X_gone_47 ?_
                refine kX_bit C ⟨Nat.le_of_ble_eq_true rfl, Nat.le_of_ble_eq_true rfl⟩ (Nat.le_of_ble_eq_true rfl) d_X_gone_48 ?_
                refine jr_ldc2 C d_X_gone_51 (List.mem_cons_of_mem _ cl_X_73) ?_
                refine jr_lxor C d_X_gone_54 ?_
                refine jr_land C d_X_gone_55 ?_
                refine sX_holders C (by omega) d_X_gone_56 ?_
                refine jr_aload_0 C d_X_gone_57 ?_
                refine jr_dup C d_X_gone_58 rfl ?_
                refine gX_held C d_X_gone_59 ?_
                refine jr_eqi hx.2.1 ?_
                refine jr_iconst (v := nI 1) C d_X_gone_62 (by decide) ?_
                refine jr_isubN C d_X_gone_63 (by omega) ?_
                refine pX_held C d_X_gone_64 ?_
                refine jr_aload_0 C d_X_gone_67 ?_
                refine jr_iload_2 C d_X_gone_68 ?_
                refine qX_X_raiseAll C (cX_raiseAll l D q k _ (a_par a f) (hw.2.2.2.2 f) f hf (fun u hu => hx.2.2.2.2.1 f u hf hu)) rfl ⟨Nat.le_of_ble_eq_true rfl, Nat.le_of_ble_eq_true rfl⟩ (Nat.le_of_ble_eq_true rfl) d_X_gone_69 (fun u hu => ?_)
                obtain ⟨h, rfl, hh, ho⟩ := hu
                refine jr_iconst (v := nI 1) C d_X_gone_72 (by decide) ?_
                exact hR _ _ _ _ d_X_gone_73 rfl ⟨rfl, px_gon hw hx hr2 hv hh ho⟩
              · rw [b01_eq] at e3
                dsimp only at hR
                rw [if_neg (by rw [e3]; decide)] at hR
                refine jr_iconst (v := nI 0) C d_X_gone_34 (by decide) ?_
                exact hR _ _ _ _ d_X_gone_35 rfl ⟨rfl, hx⟩
            · exact absurd e2 (by decide)
          · rw [ix_no (by omega) h2] at hR
            refine jr_if_ne (tgt := 24) C d_X_gone_19 (by decide) (fun e2 => ?_) (fun e2 => ?_)
            · exact absurd nI_0 e2
            · refine jr_iconst (v := nI 0) C d_X_gone_22 (by decide) ?_
              exact hR _ _ _ _ d_X_gone_23 rfl ⟨rfl, hx⟩
      · rw [ix_no (by omega) h1] at hR
        refine jr_if_eq (tgt := 22) C d_X_gone_12 (by decide) (fun e1 => ?_) (fun e1 => ?_)
        · refine jr_iconst (v := nI 0) C d_X_gone_22 (by decide) ?_
          exact hR _ _ _ _ d_X_gone_23 rfl ⟨rfl, hx⟩
        · exact absurd nI_0 e1
  · rw [rc_no (by omega) h0] at hR
    refine jr_if_eq (tgt := 22) C d_X_gone_5 (by decide) (fun e0 => ?_) (fun e0 => ?_)
    · refine jr_iconst (v := nI 0) C d_X_gone_22 (by decide) ?_
      exact hR _ _ _ _ d_X_gone_23 rfl ⟨rfl, hx⟩
    · exact absurd nI_0 e0
theorem cX_narrower (hw : a_wf a) (hx : rx_r a σ) (y z b : Int32) : fx_MI l D cl_s (ty_X k) (w_X q k) y_X_narrower (k_X_narrower :: tb_l) rm_X_narrower [.ref (q 0), .int y, .int z, .int b] σ (fun r u => r = (sp_narrower a y z b).1 ∧ rx_r (sp_narrower a y z b).2 u) := by
  refine fx_enterI (by decide +kernel) [some (.ref (q 0)), some (.int y), some (.int z), some (.int b)] rfl (Nat.le_of_ble_eq_true rfl) (Nat.le_of_ble_eq_true rfl) (fun X C hR => ?_)
  unfold sp_narrower at hR
  refine jr_iload_1 C d_X_narrower_0 ?_
  refine qX_X_isFacet C (cX_isFacet l D (ty_X k) (w_X q k) σ y) ⟨Nat.le_of_ble_eq_true rfl, Nat.le_of_ble_eq_true rfl⟩ (Nat.le_of_ble_eq_true rfl) d_X_narrower_1 (fx_p (fun z1 h1 => ?_))
  rcases h1 with ⟨rfl, f, hf, rfl⟩ | ⟨rfl, h1⟩
  · rw [ix_in hf (by omega)] at hR
    refine jr_if_eq (tgt := 14) C d_X_narrower_4 (by decide) (fun e1 => ?_) (fun e1 => ?_)
    · exact absurd e1 (by decide)
    · refine jr_iload_2 C d_X_narrower_7 ?_
      refine qX_X_isValue C (cX_isValue l D (ty_X k) (w_X q k) σ z) ⟨Nat.le_of_ble_eq_true rfl, Nat.le_of_ble_eq_true rfl⟩ (Nat.le_of_ble_eq_true rfl) d_X_narrower_8 (fx_p (fun z2 h2 => ?_))
      rcases h2 with ⟨rfl, v, hv, rfl⟩ | ⟨rfl, h2⟩
      · rw [ix_in hv (by omega)] at hR
        refine jr_if_ne (tgt := 16) C d_X_narrower_11 (by decide) (fun e2 => ?_) (fun e2 => ?_)
        · have fin : ∀ p, p ≤ 100 → b = en_p p → (p < 100 → ¬ ab_o (a_par a f) p v) → (∀ r u pc pl2, decode b_X_narrower pc = .ok (.ireturn, 1) → narrow .int (.int r) = .int r → r = nI 1 ∧ rx_r (a_nar a f v p) u → fx_J X (w_X q k u) pc pl2 [.int r]) → fx_J X (w_X q k σ) 40 [some (.ref (q 0)), some (.int (nI f)), some (.int (nI v)), some (.int b)] [] := by
            intro p hp hb hnr hR
            rw [hb]
            have hw2 := wf_nar hw hv hp hnr
            have hbr : ∀ u, u < 100 → upd (x_bro σ) (f * 100 + v) (en_p p) (f * 100 + u) = en_p (a_par (a_nar a f v p) f u) := by
              intro u hu
              show _ = en_p (if f = f ∧ u = v then p else a_par a f u)
              by_cases e : u = v
              · subst e
                rw [pk_us, if_pos ⟨rfl, rfl⟩]
              · rw [pk_un (by omega), if_neg (fun q => e q.2)]
                exact hx.2.2.2.2.1 f u hf hu
            refine jr_aload_0 C d_X_narrower_40 ?_
            refine gX_broaderOf C d_X_narrower_41 ?_
            refine jr_iload_1 C d_X_narrower_44 ?_
            refine jr_iload_2 C d_X_narrower_45 ?_
            refine kX_cell C ⟨Nat.le_of_ble_eq_true rfl, Nat.le_of_ble_eq_true rfl⟩ (Nat.le_of_ble_eq_true rfl) d_X_narrower_46 ?_
            refine jr_iload_3 C d_X_narrower_49 ?_
            refine sX_broaderOf C (by omega) d_X_narrower_50 ?_
            refine jr_aload_0 C d_X_narrower_51 ?_
            refine jr_iload_1 C d_X_narrower_52 ?_
            refine qX_X_raiseAll C (cX_raiseAll l D q k _ (a_par (a_nar a f v p) f) (hw2.2.2.2.2 f) f hf hbr) rfl ⟨Nat.le_of_ble_eq_true rfl, Nat.le_of_ble_eq_true rfl⟩ (Nat.le_of_ble_eq_true rfl) d_X_narrower_53 (fun u hu => ?_)
            obtain ⟨h, rfl, hh, ho⟩ := hu
            refine jr_iconst (v := nI 1) C d_X_narrower_56 (by decide) ?_
            exact hR _ _ _ _ d_X_narrower_57 rfl ⟨rfl, px_nar hx hv hh ho⟩
          refine jr_iload_3 C d_X_narrower_16 ?_
          refine jr_iconst (v := -1) C d_X_narrower_17 (by decide) ?_
          refine jr_icmp_eq (tgt := 40) C d_X_narrower_18 (by decide) (fun e3 => ?_) (fun e3 => ?_)
          · subst e3
            exact fin 100 (by omega) (by rfl) (fun q => by omega) hR
          · dsimp only at hR
            rw [if_neg e3] at hR
            refine jr_iload_3 C d_X_narrower_21 ?_
            refine qX_X_isValue C (cX_isValue l D (ty_X k) (w_X q k) σ b) ⟨Nat.le_of_ble_eq_true rfl, Nat.le_of_ble_eq_true rfl⟩ (Nat.le_of_ble_eq_true rfl) d_X_narrower_22 (fx_p (fun z4 h4 => ?_))
            rcases h4 with ⟨rfl, p, hp, rfl⟩ | ⟨rfl, h4⟩
            · rw [ix_in hp (by omega)] at hR
              refine jr_if_eq (tgt := 38) C d_X_narrower_25 (by decide) (fun e4 => ?_) (fun e4 => ?_)
              · exact absurd e4 (by decide)
              · refine jr_aload_0 C d_X_narrower_28 ?_
                refine jr_iload_1 C d_X_narrower_29 ?_
                refine jr_iload_3 C d_X_narrower_30 ?_
                refine jr_iload_2 C d_X_narrower_31 ?_
                refine qX_X_isAtOrBelow C (cX_isAtOrBelow l D q k σ (a_par a f) (hw.2.2.2.2 f) f p v hf hp hv (fun u hu => hx.2.2.2.2.1 f u hf hu)) rfl ⟨Nat.le_of_ble_eq_true rfl, Nat.le_of_ble_eq_true rfl⟩ (Nat.le_of_ble_eq_true rfl) d_X_narrower_32 (fx_p (fun z5 h5 => ?_))
                rw [h5]
                refine jr_if_eq (tgt := 40) C d_X_narrower_35 (by decide) (fun e5 => ?_) (fun e5 => ?_)
                · rw [b01_eq] at e5
                  dsimp only at hR
                  rw [if_neg (by rw [e5]; decide)] at hR
                  exact fin p (by omega) (en_in hp).symm (fun _ => bx_neg.mp e5) hR
                · rw [b01_ne] at e5
                  dsimp only at hR
                  rw [if_pos e5] at hR
                  refine jr_iconst (v := nI 0) C d_X_narrower_38 (by decide) ?_
                  exact hR _ _ _ _ d_X_narrower_39 rfl ⟨rfl, hx⟩
            · rw [ix_no (by omega) h4] at hR
              refine jr_if_eq (tgt := 38) C d_X_narrower_25 (by decide) (fun e4 => ?_) (fun e4 => ?_)
              · refine jr_iconst (v := nI 0) C d_X_narrower_38 (by decide) ?_
                exact hR _ _ _ _ d_X_narrower_39 rfl ⟨rfl, hx⟩
              · exact absurd nI_0 e4
        · exact absurd e2 (by decide)
      · rw [ix_no (by omega) h2] at hR
        refine jr_if_ne (tgt := 16) C d_X_narrower_11 (by decide) (fun e2 => ?_) (fun e2 => ?_)
        · exact absurd nI_0 e2
        · refine jr_iconst (v := nI 0) C d_X_narrower_14 (by decide) ?_
          exact hR _ _ _ _ d_X_narrower_15 rfl ⟨rfl, hx⟩
  · rw [ix_no (by omega) h1] at hR
    refine jr_if_eq (tgt := 14) C d_X_narrower_4 (by decide) (fun e1 => ?_) (fun e1 => ?_)
    · refine jr_iconst (v := nI 0) C d_X_narrower_14 (by decide) ?_
      exact hR _ _ _ _ d_X_narrower_15 rfl ⟨rfl, hx⟩
    · exact absurd nI_0 e1
end PX3
