theorem mm_lo (x : Int32) : ∃ j : Nat, j < 2 ^ 31 ∧ (if x < nI 0 then nI 0 else x) = nI j ∧ x.toInt ≤ (j : Int) ∧ ∀ v : Nat, x.toInt ≤ (v : Int) → j ≤ v := by
  by_cases h : x < nI 0
  · rw [if_pos h]
    rw [Int32.lt_iff_toInt_lt, nI_toInt (by omega)] at h
    exact ⟨0, by omega, rfl, by omega, fun v _ => by omega⟩
  · rw [if_neg h]
    rw [Int32.lt_iff_toInt_lt, nI_toInt (by omega)] at h
    obtain ⟨j, hj, rfl⟩ := nI_of (x := x) (by rw [Int32.lt_iff_toInt_lt, Int32.toInt_zero]; omega)
    rw [nI_toInt hj]
    exact ⟨j, hj, rfl, by omega, fun v hv => by omega⟩
theorem mm_hi (x : Int32) (v : Nat) : ((v : Int) ≤ (if nI 99 < x then nI 99 else x).toInt) ↔ v < 100 ∧ (v : Int) ≤ x.toInt := by
  by_cases h : nI 99 < x
  · rw [if_pos h, nI_toInt (by omega)]
    rw [Int32.lt_iff_toInt_lt, nI_toInt (by omega)] at h
    omega
  · rw [if_neg h]
    rw [Int32.lt_iff_toInt_lt, nI_toInt (by omega)] at h
    omega
section PX2
variable (l : Launch) (D : va_G) (q : Nat → Nat) (k : Nat → ClassId) (σ : sx_T) (a : ab_T)
theorem cX_holdersBetween (f : Nat) (hf : f < 6) (lo hi : Int32) : fx_ML l D cl_s (ty_X k) (w_X q k) y_X_holdersBetween (k_X_holdersBetween :: tb_l) rm_X_holdersBetween [.ref (q 0), .int (nI f), .int lo, .int hi] σ (fun z u => u = σ ∧ ∀ r, tb_b z r = bx_b (∃ v : Nat, v < 100 ∧ lo.toInt ≤ (v : Int) ∧ (v : Int) ≤ hi.toInt ∧ tb_b (x_hold σ (f * 100 + v)) r = true)) := by
  refine fx_enterL (by decide +kernel) [some (.ref (q 0)), some (.int (nI f)), some (.int lo), some (.int hi), none, none, none, none] rfl (Nat.le_of_ble_eq_true rfl) (Nat.le_of_ble_eq_true rfl) (fun X C hR => ?_)
  refine jr_iload_3 C d_X_holdersBetween_0 ?_
  refine jr_bipush (v := nI 99) C d_X_holdersBetween_1 (by decide) ?_
  refine kX_min C (Nat.le_of_ble_eq_true rfl) (Nat.le_of_ble_eq_true rfl) d_X_holdersBetween_3 ?_
  refine jr_topi (fun m em => ?_)
  have hm : ∀ v : Nat, ((v : Int) ≤ m.toInt) ↔ v < 100 ∧ (v : Int) ≤ hi.toInt := fun v => by rw [em]; exact mm_hi hi v
  refine jr_istore_4 C d_X_holdersBetween_6 rfl ?_
  refine jr_lconst (v := 0) C d_X_holdersBetween_8 (by decide) ?_
  refine jr_lstore_5 C d_X_holdersBetween_9 rfl ?_
  refine jr_iload_2 C d_X_holdersBetween_11 ?_
  refine jr_iconst (v := nI 0) C d_X_holdersBetween_12 (by decide) ?_
  refine kX_max C (Nat.le_of_ble_eq_true rfl) (Nat.le_of_ble_eq_true rfl) d_X_holdersBetween_13 ?_
  obtain ⟨j0, hj0, ej, h1, h2⟩ := mm_lo lo
  refine jr_eqi ej ?_
  refine jr_istore_7 C d_X_holdersBetween_16 rfl ?_
  have L := lp_ms (P := fun j => ∀ s : Int64, j0 ≤ j → j < 2 ^ 31 → (∀ r, tb_b s r = bx_b (∃ v : Nat, v < j ∧ v < 100 ∧ lo.toInt ≤ (v : Int) ∧ (v : Int) ≤ hi.toInt ∧ tb_b (x_hold σ (f * 100 + v)) r = true)) → fx_J X (w_X q k σ) 18 [some (.ref (q 0)), some (.int (nI f)), some (.int lo), some (.int hi), some (.int m), some (.long s), none, some (.int (nI j))] []) (fun j => 100 - j) (fun j ih s hj hj2 hs => ?_)
  · refine L j0 0 (Nat.le_refl _) hj0 (fun r => ?_)
    rw [tb_0, bx_neg.mpr]
    rintro ⟨v, g1, g2, g3, g4⟩
    have := h2 v g3
    omega
  · refine jr_iload_7 C d_X_holdersBetween_18 ?_
    refine jr_iload_4 C d_X_holdersBetween_20 ?_
    refine jr_icmp_gt (tgt := 47) C d_X_holdersBetween_22 (by decide) (fun h => ?_) (fun h => ?_)
    · rw [Int32.lt_iff_toInt_lt, nI_toInt hj2] at h
      refine jr_lload_5 C d_X_holdersBetween_47 ?_
      exact hR _ _ _ _ d_X_holdersBetween_49 ⟨rfl, fun r => by
        rw [hs r]
        refine bx_congr ⟨fun ⟨v, g1, g⟩ => ⟨v, g⟩, fun ⟨v, g1, g2, g3, g4⟩ => ⟨v, ?_, g1, g2, g3, g4⟩⟩
        have := (hm v).mpr ⟨g1, g3⟩
        omega⟩
    · rw [Int32.lt_iff_toInt_lt, nI_toInt hj2] at h
      obtain ⟨hj3, hj4⟩ := (hm j).mp (by omega)
      refine jr_lload_5 C d_X_holdersBetween_25 ?_
      refine jr_aload_0 C d_X_holdersBetween_27 ?_
      refine gX_holders C d_X_holdersBetween_28 ?_
      refine jr_iload_1 C d_X_holdersBetween_31 ?_
      refine jr_iload_7 C d_X_holdersBetween_32 ?_
      refine kX_cell C ⟨Nat.le_of_ble_eq_true rfl, Nat.le_of_ble_eq_true rfl⟩ (Nat.le_of_ble_eq_true rfl) d_X_holdersBetween_34 ?_
      refine aX_holders C (by omega) d_X_holdersBetween_37 ?_
      refine jr_lor C d_X_holdersBetween_38 ?_
      refine jr_lstore_5 C d_X_holdersBetween_39 rfl ?_
      refine jr_incN_7 C d_X_holdersBetween_41 rfl ?_
      refine jr_goto (tgt := 18) C d_X_holdersBetween_44 (by decide) ?_
      refine ih (j + 1) (by omega) _ (by omega) (by omega) (fun r => ?_)
      rw [tb_or, hs r]
      apply bl_eq
      rw [Bool.or_eq_true, bx_iff, bx_iff]
      constructor
      · rintro (⟨v, g1, g⟩ | g)
        · exact ⟨v, by omega, g⟩
        · exact ⟨j, by omega, hj3, by omega, hj4, g⟩
      · rintro ⟨v, g1, g2, g3, g4, g5⟩
        by_cases e : v = j
        · subst e
          exact Or.inr g5
        · exact Or.inl ⟨v, by omega, g2, g3, g4, g5⟩
theorem cX_count (hx : rx_r a σ) (y z : Int32) : fx_MI l D cl_s (ty_X k) (w_X q k) y_X_count (k_X_count :: tb_l) rm_X_count [.ref (q 0), .int y, .int z] σ (fun r u => r = sp_count a y z ∧ rx_r a u) := by
  refine fx_enterI (by decide +kernel) [some (.ref (q 0)), some (.int y), some (.int z)] rfl (Nat.le_of_ble_eq_true rfl) (Nat.le_of_ble_eq_true rfl) (fun X C hR => ?_)
  unfold sp_count at hR
  refine jr_iload_1 C d_X_count_0 ?_
  refine qX_X_isFacet C (cX_isFacet l D (ty_X k) (w_X q k) σ y) ⟨Nat.le_of_ble_eq_true rfl, Nat.le_of_ble_eq_true rfl⟩ (Nat.le_of_ble_eq_true rfl) d_X_count_1 (fx_p (fun z1 h1 => ?_))
  rcases h1 with ⟨rfl, f, hf, rfl⟩ | ⟨rfl, h1⟩
  · refine jr_if_eq (tgt := 14) C d_X_count_4 (by decide) (fun e1 => ?_) (fun e1 => ?_)
    · exact absurd e1 (by decide)
    · refine jr_iload_2 C d_X_count_7 ?_
      refine qX_X_isValue C (cX_isValue l D (ty_X k) (w_X q k) σ z) ⟨Nat.le_of_ble_eq_true rfl, Nat.le_of_ble_eq_true rfl⟩ (Nat.le_of_ble_eq_true rfl) d_X_count_8 (fx_p (fun z2 h2 => ?_))
      rcases h2 with ⟨rfl, v, hv, rfl⟩ | ⟨rfl, h2⟩
      · rw [ix_in hf (by omega), ix_in hv (by omega)] at hR
        refine jr_if_ne (tgt := 16) C d_X_count_11 (by decide) (fun e2 => ?_) (fun e2 => ?_)
        · refine jr_aload_0 C d_X_count_16 ?_
          refine qX_X_hitsLeft C (cX_hitsLeft l D q k σ a hx) rfl ⟨Nat.le_of_ble_eq_true rfl, Nat.le_of_ble_eq_true rfl⟩ (Nat.le_of_ble_eq_true rfl) d_X_count_17 (fx_p (fun s hs => ?_))
          refine jr_aload_0 C d_X_count_20 ?_
          refine gX_havers C d_X_count_21 ?_
          refine jr_iload_1 C d_X_count_24 ?_
          refine jr_iload_2 C d_X_count_25 ?_
          refine kX_cell C ⟨Nat.le_of_ble_eq_true rfl, Nat.le_of_ble_eq_true rfl⟩ (Nat.le_of_ble_eq_true rfl) d_X_count_26 ?_
          refine aX_havers C (by omega) d_X_count_29 ?_
          refine jr_land C d_X_count_30 ?_
          refine qX_JL_bitCount C (cJ_bitCount l D (ty_X k) (w_X q k) σ (s &&& x_hav σ (f * 100 + v))) ⟨Nat.le_of_ble_eq_true rfl, Nat.le_of_ble_eq_true rfl⟩ (Nat.le_of_ble_eq_true rfl) d_X_count_31 (fx_p (fun c hc => ?_))
          rw [hc]
          exact hR _ _ _ _ d_X_count_34 rfl ⟨by
            show nI _ = nI _
            congr 1
            refine ct_congr (fun r hr => ?_)
            rw [tb_and, hs r hr, hx.2.2.2.1 f v r hf hv hr]
            apply bl_eq
            rw [Bool.and_eq_true, bx_iff, bx_iff, bx_iff], hx⟩
        · exact absurd e2 (by decide)
      · refine jr_if_ne (tgt := 16) C d_X_count_11 (by decide) (fun e2 => ?_) (fun e2 => ?_)
        · exact absurd nI_0 e2
        · refine jr_iconst (v := -1) C d_X_count_14 (by decide) ?_
          rw [ix_in hf (by omega), ix_no (by omega) h2] at hR
          exact hR _ _ _ _ d_X_count_15 rfl ⟨rfl, hx⟩
  · refine jr_if_eq (tgt := 14) C d_X_count_4 (by decide) (fun e1 => ?_) (fun e1 => ?_)
    · refine jr_iconst (v := -1) C d_X_count_14 (by decide) ?_
      rw [ix_no (by omega) h1] at hR
      exact hR _ _ _ _ d_X_count_15 rfl ⟨rfl, hx⟩
    · exact absurd nI_0 e1
theorem sp_le {a : ab_T} (hw : a_wf a) (f v : Nat) : sp_cnt a f v ≤ 60 := by
  have hn := hw.1
  unfold sp_cnt
  have h0 : bx_b (a_left a 0 ∧ a_has a 0 f v) = false := bx_neg.mpr (fun h => by have := (hw.2.2.2.1 0 h.1.1).1; omega)
  rw [ct_ext (n := a_n a + 1) (by omega) (fun i h1 h2 => bx_neg.mpr (fun h => by have := (hw.2.2.2.1 i h.1.1).2; omega)), Nat.add_comm, ct_shift]
  have h1 : ct_n (fun r => bx_b (a_left a r ∧ a_has a r f v)) 1 = 0 := ct_sf h0
  rw [h1]
  have := ct_le (fun i => bx_b (a_left a (1 + i) ∧ a_has a (1 + i) f v)) (a_n a)
  omega
theorem cX_top (hw : a_wf a) (hx : rx_r a σ) (y i : Int32) : fx_MI l D cl_s (ty_X k) (w_X q k) y_X_top (k_X_top :: tb_l) rm_X_top [.ref (q 0), .int y, .int i] σ (fun r u => sp_top a y i r ∧ rx_r a u) := by
  refine fx_enterI (by decide +kernel) [some (.ref (q 0)), some (.int y), some (.int i)] rfl (Nat.le_of_ble_eq_true rfl) (Nat.le_of_ble_eq_true rfl) (fun X C hR => ?_)
  unfold sp_top at hR
  refine jr_iload_1 C d_X_top_0 ?_
  refine qX_X_isFacet C (cX_isFacet l D (ty_X k) (w_X q k) σ y) ⟨Nat.le_of_ble_eq_true rfl, Nat.le_of_ble_eq_true rfl⟩ (Nat.le_of_ble_eq_true rfl) d_X_top_1 (fx_p (fun z1 h1 => ?_))
  rcases h1 with ⟨rfl, f, hf, rfl⟩ | ⟨rfl, h1⟩
  · rw [ix_in hf (by omega)] at hR
    refine jr_if_ne (tgt := 9) C d_X_top_4 (by decide) (fun e1 => ?_) (fun e1 => ?_)
    · refine jr_aload_0 C d_X_top_9 ?_
      refine jr_iload_1 C d_X_top_10 ?_
      refine qX_X_countValues C (cX_countValues l D q k σ a hx f hf) rfl ⟨Nat.le_of_ble_eq_true rfl, Nat.le_of_ble_eq_true rfl⟩ (Nat.le_of_ble_eq_true rfl) d_X_top_11 (fun u hu => ?_)
      obtain ⟨c, rfl, hc⟩ := hu
      refine jr_aload_0 C d_X_top_14 ?_
      refine jr_iload_2 C d_X_top_15 ?_
      refine qX_X_ranked C (cX_ranked l D q k (xs_cnt σ c) (sp_cnt a f) i (fun v hv => ⟨hc v hv, sp_le hw f v⟩)) rfl ⟨Nat.le_of_ble_eq_true rfl, Nat.le_of_ble_eq_true rfl⟩ (Nat.le_of_ble_eq_true rfl) d_X_top_16 (fx_p (fun r hr => ?_))
      exact hR _ _ _ _ d_X_top_19 rfl ⟨hr, hx⟩
    · exact absurd e1 (by decide)
  · rw [ix_no (by omega) h1] at hR
    refine jr_if_ne (tgt := 9) C d_X_top_4 (by decide) (fun e1 => ?_) (fun e1 => ?_)
    · exact absurd nI_0 e1
    · refine jr_iconst (v := -1) C d_X_top_7 (by decide) ?_
      exact hR _ _ _ _ d_X_top_8 rfl ⟨rfl, hx⟩
theorem cX_below (hw : a_wf a) (hx : rx_r a σ) (y : Int32) (roots : Bool) (z i : Int32) : fx_MI l D cl_s (ty_X k) (w_X q k) y_X_below (k_X_below :: tb_l) rm_X_below [.ref (q 0), .int y, .int (b01 roots), .int z, .int i] σ (fun r u => sp_below a y roots z i r ∧ rx_r a u) := by
  refine fx_enterI (by decide +kernel) [some (.ref (q 0)), some (.int y), some (.int (b01 roots)), some (.int z), some (.int i)] rfl (Nat.le_of_ble_eq_true rfl) (Nat.le_of_ble_eq_true rfl) (fun X C hR => ?_)
  unfold sp_below at hR
  refine jr_iload_1 C d_X_below_0 ?_
  refine qX_X_isFacet C (cX_isFacet l D (ty_X k) (w_X q k) σ y) ⟨Nat.le_of_ble_eq_true rfl, Nat.le_of_ble_eq_true rfl⟩ (Nat.le_of_ble_eq_true rfl) d_X_below_1 (fx_p (fun z1 h1 => ?_))
  rcases h1 with ⟨rfl, f, hf, rfl⟩ | ⟨rfl, h1⟩
  · rw [ix_in hf (by omega)] at hR
    refine jr_if_eq (tgt := 18) C d_X_below_4 (by decide) (fun e1 => ?_) (fun e1 => ?_)
    · exact absurd e1 (by decide)
    · have fin : ∀ p, p ≤ 100 → (if roots = true then (-1 : Int32) else z) = en_p p → (∀ r u pc pl2, decode b_X_below pc = .ok (.ireturn, 1) → narrow .int (.int r) = .int r → rk_res (sp_flt a f p) i r ∧ rx_r a u → fx_J X (w_X q k u) pc pl2 [.int r]) → fx_J X (w_X q k σ) 20 [some (.ref (q 0)), some (.int (nI f)), some (.int (b01 roots)), some (.int z), some (.int i)] [] := by
        intro p hp he hR
        refine jr_aload_0 C d_X_below_20 ?_
        refine jr_iload_1 C d_X_below_21 ?_
        refine qX_X_countValues C (cX_countValues l D q k σ a hx f hf) rfl ⟨Nat.le_of_ble_eq_true rfl, Nat.le_of_ble_eq_true rfl⟩ (Nat.le_of_ble_eq_true rfl) d_X_below_22 (fun u hu => ?_)
        obtain ⟨c, rfl, hc⟩ := hu
        have fin2 : fx_J X (w_X q k (xs_cnt σ c)) 36 [some (.ref (q 0)), some (.int (nI f)), some (.int (b01 roots)), some (.int z), some (.int i)] [.int (en_p p), .int (nI f), .ref (q 0)] := by
          refine qX_X_dropOthersThanBelow C (cX_drop l D q k (xs_cnt σ c) f (en_p p) hf) rfl ⟨Nat.le_of_ble_eq_true rfl, Nat.le_of_ble_eq_true rfl⟩ (Nat.le_of_ble_eq_true rfl) d_X_below_36 (fun u hu => ?_)
          obtain ⟨c2, rfl, hc2⟩ := hu
          refine jr_aload_0 C d_X_below_39 ?_
          refine jr_iload_4 C d_X_below_40 ?_
          refine qX_X_ranked C (cX_ranked l D q k _ (sp_flt a f p) i (fun v hv => ?_)) rfl ⟨Nat.le_of_ble_eq_true rfl, Nat.le_of_ble_eq_true rfl⟩ (Nat.le_of_ble_eq_true rfl) d_X_below_42 (fx_p (fun r hr => ?_))
          · have e1 : c2 v = if x_bro σ (f * 100 + v) = en_p p then c v else nI 0 := hc2 v hv
            show c2 v = nI (if a_par a f v = p then sp_cnt a f v else 0) ∧ (if a_par a f v = p then sp_cnt a f v else 0) ≤ 60
            rw [e1, hx.2.2.2.2.1 f v hf hv, hc v hv]
            by_cases e : a_par a f v = p
            · rw [if_pos e, if_pos (by rw [e])]
              exact ⟨rfl, sp_le hw f v⟩
            · rw [if_neg e, if_neg (fun q => e ((en_eq ((hw.2.2.2.2 f).1 v) hp).mp q))]
              exact ⟨rfl, by omega⟩
          · exact hR _ _ _ _ d_X_below_45 rfl ⟨hr, hx⟩
        refine jr_aload_0 C d_X_below_25 ?_
        refine jr_iload_1 C d_X_below_26 ?_
        refine jr_iload_2 C d_X_below_27 ?_
        refine jr_if_eq (tgt := 35) C d_X_below_28 (by decide) (fun e2 => ?_) (fun e2 => ?_)
        · refine jr_iload_3 C d_X_below_35 ?_
          rw [b01_eq] at e2
          rw [e2] at he
          rw [if_neg (by decide)] at he
          refine jr_eqi he ?_
          exact fin2
        · refine jr_iconst (v := -1) C d_X_below_31 (by decide) ?_
          refine jr_goto (tgt := 36) C d_X_below_32 (by decide) ?_
          rw [b01_ne] at e2
          rw [e2, if_pos rfl] at he
          refine jr_eqi he ?_
          exact fin2
      refine jr_iload_2 C d_X_below_7 ?_
      refine jr_if_ne (tgt := 20) C d_X_below_8 (by decide) (fun e2 => ?_) (fun e2 => ?_)
      · rw [b01_ne] at e2
        rw [e2] at hR
        exact fin 100 (by omega) (by rw [e2, if_pos rfl]; rfl) hR
      · rw [b01_eq] at e2
        rw [e2] at hR
        refine jr_iload_3 C d_X_below_11 ?_
        refine qX_X_isValue C (cX_isValue l D (ty_X k) (w_X q k) σ z) ⟨Nat.le_of_ble_eq_true rfl, Nat.le_of_ble_eq_true rfl⟩ (Nat.le_of_ble_eq_true rfl) d_X_below_12 (fx_p (fun z2 h2 => ?_))
        rcases h2 with ⟨rfl, p, hp, rfl⟩ | ⟨rfl, h2⟩
        · rw [ix_in hp (by omega)] at hR
          refine jr_if_ne (tgt := 20) C d_X_below_15 (by decide) (fun e3 => ?_) (fun e3 => ?_)
          · exact fin p (by omega) (by rw [e2, if_neg (by decide), en_in hp]) hR
          · exact absurd e3 (by decide)
        · rw [ix_no (by omega) h2] at hR
          refine jr_if_ne (tgt := 20) C d_X_below_15 (by decide) (fun e3 => ?_) (fun e3 => ?_)
          · exact absurd nI_0 e3
          · refine jr_iconst (v := -1) C d_X_below_18 (by decide) ?_
            exact hR _ _ _ _ d_X_below_19 rfl ⟨rfl, hx⟩
  · rw [ix_no (by omega) h1] at hR
    refine jr_if_eq (tgt := 18) C d_X_below_4 (by decide) (fun e1 => ?_) (fun e1 => ?_)
    · refine jr_iconst (v := -1) C d_X_below_18 (by decide) ?_
      exact hR _ _ _ _ d_X_below_19 rfl ⟨rfl, hx⟩
    · exact absurd nI_0 e1
theorem cX_band (hx : rx_r a σ) (y lo hi : Int32) : fx_MI l D cl_s (ty_X k) (w_X q k) y_X_band (k_X_band :: tb_l) rm_X_band [.ref (q 0), .int y, .int lo, .int hi] σ (fun r u => r = sp_band a y lo hi ∧ rx_r a u) := by
  refine fx_enterI (by decide +kernel) [some (.ref (q 0)), some (.int y), some (.int lo), some (.int hi)] rfl (Nat.le_of_ble_eq_true rfl) (Nat.le_of_ble_eq_true rfl) (fun X C hR => ?_)
  unfold sp_band at hR
  refine jr_iload_1 C d_X_band_0 ?_
  refine qX_X_isFacet C (cX_isFacet l D (ty_X k) (w_X q k) σ y) ⟨Nat.le_of_ble_eq_true rfl, Nat.le_of_ble_eq_true rfl⟩ (Nat.le_of_ble_eq_true rfl) d_X_band_1 (fx_p (fun z1 h1 => ?_))
  rcases h1 with ⟨rfl, f, hf, rfl⟩ | ⟨rfl, h1⟩
  · rw [ix_in hf (by omega)] at hR
    refine jr_if_eq (tgt := 12) C d_X_band_4 (by decide) (fun e1 => ?_) (fun e1 => ?_)
    · exact absurd e1 (by decide)
    · refine jr_iload_3 C d_X_band_7 ?_
      refine jr_iload_2 C d_X_band_8 ?_
      refine jr_icmp_ge (tgt := 14) C d_X_band_9 (by decide) (fun e2 => ?_) (fun e2 => ?_)
      · have e3 : ¬ hi < lo := by
          rw [Int32.lt_iff_toInt_lt]
          rw [Int32.le_iff_toInt_le] at e2
          omega
        dsimp only at hR
        rw [if_neg e3] at hR
        refine jr_aload_0 C d_X_band_14 ?_
        refine qX_X_hitsLeft C (cX_hitsLeft l D q k σ a hx) rfl ⟨Nat.le_of_ble_eq_true rfl, Nat.le_of_ble_eq_true rfl⟩ (Nat.le_of_ble_eq_true rfl) d_X_band_15 (fx_p (fun s hs => ?_))
        refine jr_aload_0 C d_X_band_18 ?_
        refine jr_iload_1 C d_X_band_19 ?_
        refine jr_iload_2 C d_X_band_20 ?_
        refine jr_iload_3 C d_X_band_21 ?_
        refine qX_X_holdersBetween C (cX_holdersBetween l D q k σ f hf lo hi) rfl ⟨Nat.le_of_ble_eq_true rfl, Nat.le_of_ble_eq_true rfl⟩ (Nat.le_of_ble_eq_true rfl) d_X_band_22 (fx_p (fun t ht => ?_))
        refine jr_land C d_X_band_25 ?_
        refine qX_JL_bitCount C (cJ_bitCount l D (ty_X k) (w_X q k) σ (s &&& t)) ⟨Nat.le_of_ble_eq_true rfl, Nat.le_of_ble_eq_true rfl⟩ (Nat.le_of_ble_eq_true rfl) d_X_band_26 (fx_p (fun c hc => ?_))
        rw [hc]
        exact hR _ _ _ _ d_X_band_29 rfl ⟨by
          congr 1
          refine ct_congr (fun r hr => ?_)
          rw [tb_and, hs r hr, ht r]
          apply bl_eq
          rw [Bool.and_eq_true, bx_iff, bx_iff, bx_iff]
          refine and_congr Iff.rfl ⟨fun ⟨v, g1, g2, g3, g4⟩ => ⟨v, g1, g2, g3, ?_⟩, fun ⟨v, g1, g2, g3, g4⟩ => ⟨v, g1, g2, g3, ?_⟩⟩
          · rw [← hx.2.2.1 f v r hf g1 hr]; exact g4
          · rw [hx.2.2.1 f v r hf g1 hr]; exact g4, hx⟩
      · have e3 : hi < lo := by
          rw [Int32.lt_iff_toInt_lt]
          rw [Int32.le_iff_toInt_le] at e2
          omega
        dsimp only at hR
        rw [if_pos e3] at hR
        refine jr_iconst (v := -1) C d_X_band_12 (by decide) ?_
        exact hR _ _ _ _ d_X_band_13 rfl ⟨rfl, hx⟩
  · rw [ix_no (by omega) h1] at hR
    refine jr_if_eq (tgt := 12) C d_X_band_4 (by decide) (fun e1 => ?_) (fun e1 => ?_)
    · refine jr_iconst (v := -1) C d_X_band_12 (by decide) ?_
      exact hR _ _ _ _ d_X_band_13 rfl ⟨rfl, hx⟩
    · exact absurd nI_0 e1
theorem cX_missing (hx : rx_r a σ) (y : Int32) : fx_MI l D cl_s (ty_X k) (w_X q k) y_X_missing (k_X_missing :: tb_l) rm_X_missing [.ref (q 0), .int y] σ (fun r u => r = sp_missing a y ∧ rx_r a u) := by
  refine fx_enterI (by decide +kernel) [some (.ref (q 0)), some (.int y)] rfl (Nat.le_of_ble_eq_true rfl) (Nat.le_of_ble_eq_true rfl) (fun X C hR => ?_)
  unfold sp_missing at hR
  refine jr_iload_1 C d_X_missing_0 ?_
  refine qX_X_isFacet C (cX_isFacet l D (ty_X k) (w_X q k) σ y) ⟨Nat.le_of_ble_eq_true rfl, Nat.le_of_ble_eq_true rfl⟩ (Nat.le_of_ble_eq_true rfl) d_X_missing_1 (fx_p (fun z1 h1 => ?_))
  rcases h1 with ⟨rfl, f, hf, rfl⟩ | ⟨rfl, h1⟩
  · rw [ix_in hf (by omega)] at hR
    refine jr_if_ne (tgt := 9) C d_X_missing_4 (by decide) (fun e1 => ?_) (fun e1 => ?_)
    · refine jr_aload_0 C d_X_missing_9 ?_
      refine qX_X_hitsLeft C (cX_hitsLeft l D q k σ a hx) rfl ⟨Nat.le_of_ble_eq_true rfl, Nat.le_of_ble_eq_true rfl⟩ (Nat.le_of_ble_eq_true rfl) d_X_missing_10 (fx_p (fun s hs => ?_))
      refine jr_aload_0 C d_X_missing_13 ?_
      refine jr_iload_1 C d_X_missing_14 ?_
      refine jr_iconst (v := nI 0) C d_X_missing_15 (by decide) ?_
      refine jr_bipush (v := nI 99) C d_X_missing_16 (by decide) ?_
      refine qX_X_holdersBetween C (cX_holdersBetween l D q k σ f hf (nI 0) (nI 99)) rfl ⟨Nat.le_of_ble_eq_true rfl, Nat.le_of_ble_eq_true rfl⟩ (Nat.le_of_ble_eq_true rfl) d_X_missing_18 (fx_p (fun t ht => ?_))
      refine jr_ldc2 C d_X_missing_21 (List.mem_cons_of_mem _ cl_X_73) ?_
      refine jr_lxor C d_X_missing_24 ?_
      refine jr_land C d_X_missing_25 ?_
      refine qX_JL_bitCount C (cJ_bitCount l D (ty_X k) (w_X q k) σ (s &&& (t ^^^ (-1)))) ⟨Nat.le_of_ble_eq_true rfl, Nat.le_of_ble_eq_true rfl⟩ (Nat.le_of_ble_eq_true rfl) d_X_missing_26 (fx_p (fun c hc => ?_))
      rw [hc]
      exact hR _ _ _ _ d_X_missing_29 rfl ⟨by
        dsimp only
        congr 1
        refine ct_congr (fun r hr => ?_)
        rw [tb_and, tb_not _ hr, hs r hr, ht r]
        apply bl_eq
        rw [Bool.and_eq_true, bx_iff, bx_iff, Bool.not_eq_true', bx_neg, nI_toInt (by omega), nI_toInt (by omega)]
        refine and_congr Iff.rfl (not_congr ⟨fun ⟨v, g1, g2, g3, g4⟩ => ⟨v, g1, ?_⟩, fun ⟨v, g1, g4⟩ => ⟨v, g1, by omega, by omega, ?_⟩⟩)
        · rw [← hx.2.2.1 f v r hf g1 hr]; exact g4
        · rw [hx.2.2.1 f v r hf g1 hr]; exact g4, hx⟩
    · exact absurd e1 (by decide)
  · rw [ix_no (by omega) h1] at hR
    refine jr_if_ne (tgt := 9) C d_X_missing_4 (by decide) (fun e1 => ?_) (fun e1 => ?_)
    · exact absurd nI_0 e1
    · refine jr_iconst (v := -1) C d_X_missing_7 (by decide) ?_
      exact hR _ _ _ _ d_X_missing_8 rfl ⟨rfl, hx⟩
theorem cX_left (hw : a_wf a) (hx : rx_r a σ) (i : Int32) : fx_MI l D cl_s (ty_X k) (w_X q k) y_X_left (k_X_left :: tb_l) rm_X_left [.ref (q 0), .int i] σ (fun r u => sp_left a i r ∧ rx_r a u) := by
  have hn := hw.1
  refine fx_enterI (by decide +kernel) [some (.ref (q 0)), some (.int i), none, none, none, none] rfl (Nat.le_of_ble_eq_true rfl) (Nat.le_of_ble_eq_true rfl) (fun X C hR => ?_)
  refine jr_aload_0 C d_X_left_0 ?_
  refine qX_X_hitsLeft C (cX_hitsLeft l D q k σ a hx) rfl ⟨Nat.le_of_ble_eq_true rfl, Nat.le_of_ble_eq_true rfl⟩ (Nat.le_of_ble_eq_true rfl) d_X_left_1 (fx_p (fun s hs => ?_))
  refine jr_lstore_2 C d_X_left_4 rfl ?_
  refine jr_iconst (v := nI 0) C d_X_left_5 (by decide) ?_
  refine jr_istore_4 C d_X_left_6 rfl ?_
  refine jr_iconst (v := nI 1) C d_X_left_8 (by decide) ?_
  refine jr_istore_5 C d_X_left_9 rfl ?_
  have h0 : bx_b (a_left a 0) = false := bx_neg.mpr (fun h => by have := (hw.2.2.2.1 0 h.1).1; omega)
  have L := lp_up (P := fun r => 1 ≤ r → (∀ j, j < r → a_left a j → ¬ nI (ct_n (fun s => bx_b (a_left a s)) j) = i) → fx_J X (w_X q k σ) 11 [some (.ref (q 0)), some (.int i), some (.long s), none, some (.int (nI (ct_n (fun s => bx_b (a_left a s)) r))), some (.int (nI r))] []) (a_n a + 1) (fun r hr ih hr1 hno => ?_)
  · have := L 1 (by omega) (Nat.le_refl 1) (fun j hj hl => by
      rw [show j = 0 by omega] at hl
      exact absurd hl (bx_neg.mp h0))
    rw [show ct_n (fun s => bx_b (a_left a s)) 1 = 0 from ct_sf h0] at this
    exact this
  · have go : ∀ b, b = ct_n (fun s => bx_b (a_left a s)) (r + 1) → r < a_n a + 1 → (a_left a r → ¬ nI (ct_n (fun s => bx_b (a_left a s)) r) = i) → fx_J X (w_X q k σ) 44 [some (.ref (q 0)), some (.int i), some (.long s), none, some (.int (nI b)), some (.int (nI r))] [] := by
      intro b hb h2 h3
      refine jr_incN_5 C d_X_left_44 rfl ?_
      refine jr_goto (tgt := 11) C d_X_left_47 (by decide) ?_
      rw [hb]
      refine ih h2 (by omega) (fun j hj hl => ?_)
      by_cases e : j = r
      · rw [e] at hl ⊢; exact h3 hl
      · exact hno j (by omega) hl
    refine jr_iload_5 C d_X_left_11 ?_
    refine jr_aload_0 C d_X_left_13 ?_
    refine gX_records C d_X_left_14 ?_
    refine jr_eqi hx.1 ?_
    refine jr_N_gt (tgt := 50) C d_X_left_17 (by decide) (by omega) (by omega) (fun h => ?_) (fun h => ?_)
    · refine jr_iconst (v := nI 0) C d_X_left_50 (by decide) ?_
      exact hR _ _ _ _ d_X_left_51 rfl ⟨Or.inr ⟨rfl, fun j hj hl => hno j (by have := (hw.2.2.2.1 j hl.1).2; omega) hl⟩, hx⟩
    · refine jr_lload_2 C d_X_left_20 ?_
      refine jr_iload_5 C d_X_left_21 ?_
      refine kX_bit C ⟨Nat.le_of_ble_eq_true rfl, Nat.le_of_ble_eq_true rfl⟩ (Nat.le_of_ble_eq_true rfl) d_X_left_23 ?_
      refine jr_land C d_X_left_26 ?_
      refine jr_lconst (v := 0) C d_X_left_27 (by decide) ?_
      refine jr_lcmp C d_X_left_28 ?_
      refine jr_if_eq (tgt := 44) C d_X_left_29 (by decide) (fun h2 => ?_) (fun h2 => ?_)
      · rw [lg_cmp_eq, tb_has (by omega), hs r (by omega)] at h2
        exact go _ (ct_sf h2).symm (by omega) (fun hl => absurd hl (bx_neg.mp h2))
      · rw [lg_cmp_eq, tb_has (by omega), hs r (by omega)] at h2
        have h2 := ts_nf h2
        refine jr_iload_4 C d_X_left_32 ?_
        refine jr_iload_1 C d_X_left_34 ?_
        refine jr_icmp_ne (tgt := 41) C d_X_left_35 (by decide) (fun h3 => ?_) (fun h3 => ?_)
        · refine jr_incN_4 C d_X_left_41 rfl ?_
          exact go _ (ct_st (p := fun s => bx_b (a_left a s)) h2).symm (by omega) (fun _ => h3)
        · refine jr_iload_5 C d_X_left_38 ?_
          exact hR _ _ _ _ d_X_left_40 rfl ⟨Or.inl ⟨r, by omega, bx_iff.mp h2, h3, rfl⟩, hx⟩
end PX2
