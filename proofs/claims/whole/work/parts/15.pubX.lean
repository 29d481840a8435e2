section PX
variable (l : Launch) (D : va_G) (q : Nat → Nat) (k : Nat → ClassId) (σ : sx_T) (a : ab_T) (hw : a_wf a) (hx : rx_r a σ)
theorem cX_countValues (hx : rx_r a σ) (f : Nat) (hf : f < 6) : fx_MV l D cl_s (ty_X k) (w_X q k) y_X_countValues (k_X_countValues :: tb_l) rm_X_countValues [.ref (q 0), .int (nI f)] σ (fun u => ∃ c, u = xs_cnt σ c ∧ ∀ v, v < 100 → c v = nI (sp_cnt a f v)) := by
  refine fx_enterV (by decide +kernel) [some (.ref (q 0)), some (.int (nI f)), none, none, none] rfl (Nat.le_of_ble_eq_true rfl) (Nat.le_of_ble_eq_true rfl) (fun X C hR => ?_)
  refine jr_aload_0 C d_X_countValues_0 ?_
  refine qX_X_hitsLeft C (cX_hitsLeft l D q k σ a hx) rfl ⟨Nat.le_of_ble_eq_true rfl, Nat.le_of_ble_eq_true rfl⟩ (Nat.le_of_ble_eq_true rfl) d_X_countValues_1 (fx_p (fun s hs => ?_))
  refine jr_lstore_2 C d_X_countValues_4 rfl ?_
  refine jr_iconst (v := nI 0) C d_X_countValues_5 (by decide) ?_
  refine jr_istore_4 C d_X_countValues_6 rfl ?_
  have L := lp_up (P := fun v => ∀ c : Nat → Int32, (∀ w, w < v → c w = nI (sp_cnt a f w)) → fx_J X (w_X q k (xs_cnt σ c)) 8 [some (.ref (q 0)), some (.int (nI f)), some (.long s), none, some (.int (nI v))] []) 100 (fun v hv ih c hc => ?_)
  · exact L 0 (by omega) (x_cnt σ) (fun w h => by omega)
  · refine jr_iload_4 C d_X_countValues_8 ?_
    refine jr_bipush (v := nI 100) C d_X_countValues_10 (by decide) ?_
    refine jr_N_ge (tgt := 44) C d_X_countValues_12 (by decide) (by omega) (by omega) (fun h => ?_) (fun h => ?_)
    · exact hR _ _ _ d_X_countValues_44 ⟨c, rfl, fun w hw => hc w (by omega)⟩
    · refine jr_aload_0 C d_X_countValues_15 ?_
      refine gX_counts C d_X_countValues_16 ?_
      refine jr_iload_4 C d_X_countValues_19 ?_
      refine jr_lload_2 C d_X_countValues_21 ?_
      refine jr_aload_0 C d_X_countValues_22 ?_
      refine gX_havers C d_X_countValues_23 ?_
      refine jr_iload_1 C d_X_countValues_26 ?_
      refine jr_iload_4 C d_X_countValues_27 ?_
      refine kX_cell C ⟨Nat.le_of_ble_eq_true rfl, Nat.le_of_ble_eq_true rfl⟩ (Nat.le_of_ble_eq_true rfl) d_X_countValues_29 ?_
      refine aX_havers C (by omega) d_X_countValues_32 ?_
      refine jr_land C d_X_countValues_33 ?_
      refine qX_JL_bitCount C (cJ_bitCount l D (ty_X k) (w_X q k) (xs_cnt σ c) (s &&& x_hav σ (f * 100 + v))) ⟨Nat.le_of_ble_eq_true rfl, Nat.le_of_ble_eq_true rfl⟩ (Nat.le_of_ble_eq_true rfl) d_X_countValues_34 (fx_p (fun z hz => ?_))
      rw [hz]
      refine sX_counts C (by omega) d_X_countValues_37 ?_
      refine jr_incN_4 C d_X_countValues_38 rfl ?_
      refine jr_goto (tgt := 8) C d_X_countValues_41 (by decide) ?_
      refine ih h _ (fun w hw => ?_)
      by_cases e : w = v
      · subst e
        rw [show upd c w (nI (ct_n (tb_b (s &&& x_hav σ (f * 100 + w))) 64)) w = nI (ct_n (tb_b (s &&& x_hav σ (f * 100 + w))) 64) from pk_us]
        congr 1
        refine ct_congr (fun r hr => ?_)
        rw [tb_and, hs r hr, hx.2.2.2.1 f w r hf h hr]
        apply bl_eq
        rw [Bool.and_eq_true, bx_iff, bx_iff, bx_iff]
      · rw [show upd c v (nI (ct_n (tb_b (s &&& x_hav σ (f * 100 + v))) 64)) w = c w from pk_un e]
        exact hc w (by omega)
theorem cX_record (hw : a_wf a) (hx : rx_r a σ) : fx_MI l D cl_s (ty_X k) (w_X q k) y_X_record (k_X_record :: tb_l) rm_X_record [.ref (q 0)] σ (fun r u => r = (sp_record a).1 ∧ rx_r (sp_record a).2 u) := by
  have hn := hw.1
  refine fx_enterI (by decide +kernel) [some (.ref (q 0))] rfl (Nat.le_of_ble_eq_true rfl) (Nat.le_of_ble_eq_true rfl) (fun X C hR => ?_)
  refine jr_aload_0 C d_X_record_0 ?_
  refine gX_records C d_X_record_1 ?_
  refine jr_eqi hx.1 ?_
  refine jr_bipush (v := nI 60) C d_X_record_4 (by decide) ?_
  refine jr_N_lt (tgt := 11) C d_X_record_6 (by decide) (by omega) (by omega) (fun h => ?_) (fun h => ?_)
  · refine jr_aload_0 C d_X_record_11 ?_
    refine jr_dup C d_X_record_12 rfl ?_
    refine gX_records C d_X_record_13 ?_
    refine jr_eqi hx.1 ?_
    refine jr_iconst (v := nI 1) C d_X_record_16 (by decide) ?_
    refine jr_iaddN C d_X_record_17 ?_
    refine pX_records C d_X_record_18 ?_
    refine jr_aload_0 C d_X_record_21 ?_
    refine gX_records C d_X_record_22 ?_
    unfold sp_record at hR
    rw [if_neg (by omega)] at hR
    obtain ⟨h1, h2, h3, h4, h5, h6, h7⟩ := hx
    exact hR _ _ _ _ d_X_record_25 rfl ⟨rfl, ⟨rfl, h2, h3, h4, h5, h6, h7⟩⟩
  · refine jr_iconst (v := nI 0) C d_X_record_9 (by decide) ?_
    unfold sp_record at hR
    rw [if_pos (by omega)] at hR
    exact hR _ _ _ _ d_X_record_10 rfl ⟨rfl, hx⟩
theorem cX_hit (hw : a_wf a) (hx : rx_r a σ) (x : Int32) (on : Bool) : fx_MI l D cl_s (ty_X k) (w_X q k) y_X_hit (k_X_hit :: tb_l) rm_X_hit [.ref (q 0), .int x, .int (b01 on)] σ (fun r u => r = (sp_hit a x on).1 ∧ rx_r (sp_hit a x on).2 u) := by
  have hn := hw.1
  refine fx_enterI (by decide +kernel) [some (.ref (q 0)), some (.int x), some (.int (b01 on))] rfl (Nat.le_of_ble_eq_true rfl) (Nat.le_of_ble_eq_true rfl) (fun X C hR => ?_)
  refine jr_aload_0 C d_X_hit_0 ?_
  refine jr_iload_1 C d_X_hit_1 ?_
  refine qX_X_isRecord C (cX_isRecord l D q k σ x (a_n a) hn hx.1) rfl ⟨Nat.le_of_ble_eq_true rfl, Nat.le_of_ble_eq_true rfl⟩ (Nat.le_of_ble_eq_true rfl) d_X_hit_2 (fx_p (fun z hz => ?_))
  unfold sp_hit at hR
  rcases hz with ⟨rfl, r, hr1, hr2, rfl⟩ | ⟨rfl, hz⟩
  · refine jr_if_ne (tgt := 10) C d_X_hit_5 (by decide) (fun h => ?_) (fun h => ?_)
    · rw [rc_in hr1 hr2 (by omega)] at hR
      have fin : ∀ z : Int64, (∀ s, s < 64 → tb_b z s = if s = r then on else tb_b (x_hits σ) s) → fx_J X (w_X q k (xs_hits σ z)) 47 [some (.ref (q 0)), some (.int (nI r)), some (.int (b01 on))] [] := by
        intro z hz
        refine jr_aload_0 C d_X_hit_47 ?_
        refine gX_hits C d_X_hit_48 ?_
        refine qX_JL_bitCount C (cJ_bitCount l D (ty_X k) (w_X q k) (xs_hits σ z) z) ⟨Nat.le_of_ble_eq_true rfl, Nat.le_of_ble_eq_true rfl⟩ (Nat.le_of_ble_eq_true rfl) d_X_hit_51 (fx_p (fun c hc => ?_))
        rw [hc]
        exact hR _ _ _ _ d_X_hit_54 rfl ⟨by
          show nI _ = nI _
          congr 1
          refine ct_congr (fun s hs => ?_)
          rw [hz s hs]
          show _ = if s = r then on else a_hit a s
          rw [hx.2.2.2.2.2.2 s hs], px_hit hx hz⟩
      refine jr_iload_2 C d_X_hit_10 ?_
      refine jr_if_eq (tgt := 30) C d_X_hit_11 (by decide) (fun h2 => ?_) (fun h2 => ?_)
      · refine jr_aload_0 C d_X_hit_30 ?_
        refine jr_dup C d_X_hit_31 rfl ?_
        refine gX_hits C d_X_hit_32 ?_
        refine jr_iload_1 C d_X_hit_35 ?_
        refine kX_bit C ⟨Nat.le_of_ble_eq_true rfl, Nat.le_of_ble_eq_true rfl⟩ (Nat.le_of_ble_eq_true rfl) d_X_hit_36 ?_
        refine jr_ldc2 C d_X_hit_39 (List.mem_cons_of_mem _ cl_X_73) ?_
        refine jr_lxor C d_X_hit_42 ?_
        refine jr_land C d_X_hit_43 ?_
        refine pX_hits C d_X_hit_44 ?_
        rw [b01_eq] at h2
        refine fin _ (fun s hs => ?_)
        rw [show x_hits σ &&& (tb_1 r ^^^ (-1)) = x_hits σ &&& (tb_1 r ^^^ (-1)) from rfl, tb_clr (by omega) hs, h2]
        by_cases e : s = r
        · simp [e]
        · simp [e]
      · refine jr_aload_0 C d_X_hit_14 ?_
        refine jr_dup C d_X_hit_15 rfl ?_
        refine gX_hits C d_X_hit_16 ?_
        refine jr_iload_1 C d_X_hit_19 ?_
        refine kX_bit C ⟨Nat.le_of_ble_eq_true rfl, Nat.le_of_ble_eq_true rfl⟩ (Nat.le_of_ble_eq_true rfl) d_X_hit_20 ?_
        refine jr_lor C d_X_hit_23 ?_
        refine pX_hits C d_X_hit_24 ?_
        refine jr_goto (tgt := 47) C d_X_hit_27 (by decide) ?_
        rw [b01_ne] at h2
        refine fin _ (fun s hs => ?_)
        rw [tb_set (by omega), h2]
        by_cases e : s = r
        · simp [e]
        · simp [e]
    · exact absurd h (by decide)
  · refine jr_if_ne (tgt := 10) C d_X_hit_5 (by decide) (fun h => ?_) (fun h => ?_)
    · exact absurd nI_0 h
    · refine jr_iconst (v := -1) C d_X_hit_8 (by decide) ?_
      rw [rc_no (by omega) hz] at hR
      exact hR _ _ _ _ d_X_hit_9 rfl ⟨rfl, hx⟩
theorem cX_choose (hx : rx_r a σ) (y z : Int32) : fx_MI l D cl_s (ty_X k) (w_X q k) y_X_choose (k_X_choose :: tb_l) rm_X_choose [.ref (q 0), .int y, .int z] σ (fun r u => r = (sp_choose a y z).1 ∧ rx_r (sp_choose a y z).2 u) := by
  refine fx_enterI (by decide +kernel) [some (.ref (q 0)), some (.int y), some (.int z)] rfl (Nat.le_of_ble_eq_true rfl) (Nat.le_of_ble_eq_true rfl) (fun X C hR => ?_)
  unfold sp_choose at hR
  refine jr_iload_1 C d_X_choose_0 ?_
  refine qX_X_isFacet C (cX_isFacet l D (ty_X k) (w_X q k) σ y) ⟨Nat.le_of_ble_eq_true rfl, Nat.le_of_ble_eq_true rfl⟩ (Nat.le_of_ble_eq_true rfl) d_X_choose_1 (fx_p (fun z1 h1 => ?_))
  rcases h1 with ⟨rfl, f, hf, rfl⟩ | ⟨rfl, h1⟩
  · refine jr_if_eq (tgt := 14) C d_X_choose_4 (by decide) (fun e1 => ?_) (fun e1 => ?_)
    · exact absurd e1 (by decide)
    · refine jr_iload_2 C d_X_choose_7 ?_
      refine qX_X_isValue C (cX_isValue l D (ty_X k) (w_X q k) σ z) ⟨Nat.le_of_ble_eq_true rfl, Nat.le_of_ble_eq_true rfl⟩ (Nat.le_of_ble_eq_true rfl) d_X_choose_8 (fx_p (fun z2 h2 => ?_))
      rcases h2 with ⟨rfl, v, hv, rfl⟩ | ⟨rfl, h2⟩
      · rw [ix_in hf (by omega), ix_in hv (by omega)] at hR
        have fin : ∀ b, b = b01 (!a_cho a f v) → fx_J X (w_X q k σ) 43 [some (.ref (q 0)), some (.int (nI f)), some (.int (nI v))] [.int b, .int (nI (f * 100 + v)), .ref (q 4)] := by
          intro b hb
          rw [hb]
          refine sX_chosen C (by omega) (b01_or _) d_X_choose_43 ?_
          refine jr_aload_0 C d_X_choose_44 ?_
          refine qX_X_hitsLeft C (cX_hitsLeft l D q k _ (a_chS a f v) (px_cho hx hv)) rfl ⟨Nat.le_of_ble_eq_true rfl, Nat.le_of_ble_eq_true rfl⟩ (Nat.le_of_ble_eq_true rfl) d_X_choose_45 (fx_p (fun s hs => ?_))
          refine qX_JL_bitCount C (cJ_bitCount l D (ty_X k) (w_X q k) _ s) ⟨Nat.le_of_ble_eq_true rfl, Nat.le_of_ble_eq_true rfl⟩ (Nat.le_of_ble_eq_true rfl) d_X_choose_48 (fx_p (fun c hc => ?_))
          rw [hc]
          exact hR _ _ _ _ d_X_choose_51 rfl ⟨by
            show nI _ = nI _
            congr 1
            exact ct_congr hs, px_cho hx hv⟩
        refine jr_if_ne (tgt := 16) C d_X_choose_11 (by decide) (fun e2 => ?_) (fun e2 => ?_)
        · refine jr_aload_0 C d_X_choose_16 ?_
          refine gX_chosen C d_X_choose_17 ?_
          refine jr_iload_1 C d_X_choose_20 ?_
          refine jr_iload_2 C d_X_choose_21 ?_
          refine kX_cell C ⟨Nat.le_of_ble_eq_true rfl, Nat.le_of_ble_eq_true rfl⟩ (Nat.le_of_ble_eq_true rfl) d_X_choose_22 ?_
          refine jr_aload_0 C d_X_choose_25 ?_
          refine gX_chosen C d_X_choose_26 ?_
          refine jr_iload_1 C d_X_choose_29 ?_
          refine jr_iload_2 C d_X_choose_30 ?_
          refine kX_cell C ⟨Nat.le_of_ble_eq_true rfl, Nat.le_of_ble_eq_true rfl⟩ (Nat.le_of_ble_eq_true rfl) d_X_choose_31 ?_
          refine aX_chosen C (by omega) d_X_choose_34 ?_
          refine jr_eqi (hx.2.2.2.2.2.1 f v hf hv) ?_
          refine jr_if_ne (tgt := 42) C d_X_choose_35 (by decide) (fun e3 => ?_) (fun e3 => ?_)
          · refine jr_iconst (v := nI 0) C d_X_choose_42 (by decide) ?_
            rw [b01_ne] at e3
            exact fin _ (by rw [e3]; rfl)
          · refine jr_iconst (v := nI 1) C d_X_choose_38 (by decide) ?_
            refine jr_goto (tgt := 43) C d_X_choose_39 (by decide) ?_
            rw [b01_eq] at e3
            exact fin _ (by rw [e3]; rfl)
        · exact absurd e2 (by decide)
      · refine jr_if_ne (tgt := 16) C d_X_choose_11 (by decide) (fun e2 => ?_) (fun e2 => ?_)
        · exact absurd nI_0 e2
        · refine jr_iconst (v := -1) C d_X_choose_14 (by decide) ?_
          rw [ix_in hf (by omega), ix_no (by omega) h2] at hR
          exact hR _ _ _ _ d_X_choose_15 rfl ⟨rfl, hx⟩
  · refine jr_if_eq (tgt := 14) C d_X_choose_4 (by decide) (fun e1 => ?_) (fun e1 => ?_)
    · refine jr_iconst (v := -1) C d_X_choose_14 (by decide) ?_
      rw [ix_no (by omega) h1] at hR
      exact hR _ _ _ _ d_X_choose_15 rfl ⟨rfl, hx⟩
    · exact absurd nI_0 e1
end PX
