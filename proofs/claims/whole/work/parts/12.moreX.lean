section MX
variable (l : Launch) (D : va_G) (q : Nat → Nat) (k : Nat → ClassId) (σ : sx_T)
theorem cX_ranked (c : Nat → Nat) (i : Int32) (hc : ∀ v, v < 100 → x_cnt σ v = nI (c v) ∧ c v ≤ 60) : fx_MI l D cl_s (ty_X k) (w_X q k) y_X_ranked (k_X_ranked :: tb_l) rm_X_ranked [.ref (q 0), .int i] σ (fun r u => u = σ ∧ rk_res c i r) := by
  refine fx_enterI (by decide +kernel) [some (.ref (q 0)), some (.int i), none, none, none] rfl (Nat.le_of_ble_eq_true rfl) (Nat.le_of_ble_eq_true rfl) (fun X C hR => ?_)
  refine jr_iconst (v := nI 0) C d_X_ranked_0 (by decide) ?_
  refine jr_istore_2 C d_X_ranked_1 rfl ?_
  refine jr_bipush (v := nI 60) C d_X_ranked_2 (by decide) ?_
  refine jr_istore_3 C d_X_ranked_4 rfl ?_
  have L := lp_dn (P := fun m => m ≤ 60 → (∀ v, v < 100 → m < c v → ¬ nI (rk_b c v) = i) → fx_J X (w_X q k σ) 5 [some (.ref (q 0)), some (.int i), some (.int (nI (rk_p c m 0))), some (.int (nI m)), none] []) (fun m ih hm hno => ?_)
  · have := L 60 (by omega) (fun v hv h => by have := (hc v hv).2; omega)
    rw [rk_p0 (fun v hv => (hc v hv).2)] at this
    exact this
  · refine jr_iload_3 C d_X_ranked_5 ?_
    refine jr_iconst (v := nI 1) C d_X_ranked_6 (by decide) ?_
    refine jr_N_lt (tgt := 54) C d_X_ranked_7 (by decide) (by omega) (by omega) (fun h => ?_) (fun h => ?_)
    · refine jr_iconst (v := -1) C d_X_ranked_54 (by decide) ?_
      exact hR _ _ _ _ d_X_ranked_55 rfl ⟨rfl, Or.inr ⟨rfl, fun v hv h0 => hno v hv (by omega)⟩⟩
    · refine jr_iconst (v := nI 0) C d_X_ranked_10 (by decide) ?_
      refine jr_istore_4 C d_X_ranked_11 rfl ?_
      have L2 := lp_up (P := fun v => (∀ w, w < v → c w = m → ¬ nI (rk_b c w) = i) → fx_J X (w_X q k σ) 13 [some (.ref (q 0)), some (.int i), some (.int (nI (rk_p c m v))), some (.int (nI m)), some (.int (nI v))] []) 100 (fun v hv ih2 hno2 => ?_)
      · exact L2 0 (by omega) (fun w hw => by omega)
      · have go : ∀ b, b = rk_p c m (v + 1) → v < 100 → (c v = m → ¬ nI (rk_b c v) = i) → fx_J X (w_X q k σ) 42 [some (.ref (q 0)), some (.int i), some (.int (nI b)), some (.int (nI m)), some (.int (nI v))] [] := by
          intro b hb hv2 hv3
          refine jr_incN_4 C d_X_ranked_42 rfl ?_
          refine jr_goto (tgt := 13) C d_X_ranked_45 (by decide) ?_
          rw [hb]
          exact ih2 hv2 (fun w hw hcw => by
            by_cases e : w = v
            · rw [e]; exact hv3 (by rw [← e]; exact hcw)
            · exact hno2 w (by omega) hcw)
        refine jr_iload_4 C d_X_ranked_13 ?_
        refine jr_bipush (v := nI 100) C d_X_ranked_15 (by decide) ?_
        refine jr_N_ge (tgt := 48) C d_X_ranked_17 (by decide) (by omega) (by omega) (fun h2 => ?_) (fun h2 => ?_)
        · obtain ⟨m2, rfl⟩ : ∃ m2, m = m2 + 1 := ⟨m - 1, by omega⟩
          refine jr_decN_3 C d_X_ranked_48 rfl ?_
          refine jr_goto (tgt := 5) C d_X_ranked_51 (by decide) ?_
          rw [show v = 100 by omega, rk_pn]
          have := ih m2 rfl (by omega) (fun w hw hcw => by
            by_cases e : c w = m2 + 1
            · exact hno2 w (by omega) e
            · exact hno w hw (by omega))
          intro H locs ls hP hD hS hl
          exact this H locs ls hP hD hS ⟨hl.1, lv_sub hl.2 [0, 1, 2, 3] rfl⟩
        · refine jr_aload_0 C d_X_ranked_20 ?_
          refine gX_counts C d_X_ranked_21 ?_
          refine jr_iload_4 C d_X_ranked_24 ?_
          refine aX_counts C (by omega) d_X_ranked_26 ?_
          refine jr_eqi (hc v h2).1 ?_
          have hcv := (hc v h2).2
          refine jr_iload_3 C d_X_ranked_27 ?_
          refine jr_N_ne (tgt := 42) C d_X_ranked_28 (by decide) (by omega) (by omega) (fun h3 => ?_) (fun h3 => ?_)
          · exact go _ (rk_pf h3).symm h2 (fun e => absurd e h3)
          · refine jr_iload_2 C d_X_ranked_31 ?_
            refine jr_iload_1 C d_X_ranked_32 ?_
            refine jr_icmp_ne (tgt := 39) C d_X_ranked_33 (by decide) (fun h4 => ?_) (fun h4 => ?_)
            · refine jr_incN_2 C d_X_ranked_39 rfl ?_
              exact go _ (rk_pt h2 h3).symm h2 (fun e => by rw [← rk_pb e]; exact h4)
            · refine jr_iload_4 C d_X_ranked_36 ?_
              exact hR _ _ _ _ d_X_ranked_38 rfl ⟨rfl, Or.inl ⟨v, h2, by omega, by rw [← rk_pb h3]; exact h4, rfl⟩⟩
theorem cX_drop (f : Nat) (b : Int32) (hf : f < 6) : fx_MV l D cl_s (ty_X k) (w_X q k) y_X_dropOthersThanBelow (k_X_dropOthersThanBelow :: tb_l) rm_X_dropOthersThanBelow [.ref (q 0), .int (nI f), .int b] σ (fun u => ∃ c, u = xs_cnt σ c ∧ ∀ v, v < 100 → c v = if x_bro σ (f * 100 + v) = b then x_cnt σ v else nI 0) := by
  refine fx_enterV (by decide +kernel) [some (.ref (q 0)), some (.int (nI f)), some (.int b), none] rfl (Nat.le_of_ble_eq_true rfl) (Nat.le_of_ble_eq_true rfl) (fun X C hR => ?_)
  refine jr_iconst (v := nI 0) C d_X_dropOthersThanBelow_0 (by decide) ?_
  refine jr_istore_3 C d_X_dropOthersThanBelow_1 rfl ?_
  have L := lp_up (P := fun v => ∀ c : Nat → Int32, (∀ w, w < v → c w = if x_bro σ (f * 100 + w) = b then x_cnt σ w else nI 0) → (∀ w, v ≤ w → c w = x_cnt σ w) → fx_J X (w_X q k (xs_cnt σ c)) 2 [some (.ref (q 0)), some (.int (nI f)), some (.int b), some (.int (nI v))] []) 100 (fun v hv ih c h1 h2 => ?_)
  · exact L 0 (by omega) (x_cnt σ) (fun w hw => by omega) (fun w _ => rfl)
  · have go : ∀ c2 : Nat → Int32, v < 100 → c2 v = (if x_bro σ (f * 100 + v) = b then x_cnt σ v else nI 0) → (∀ w, w ≠ v → c2 w = c w) → fx_J X (w_X q k (xs_cnt σ c2)) 29 [some (.ref (q 0)), some (.int (nI f)), some (.int b), some (.int (nI v))] [] := by
      intro c2 hv2 e1 e2
      refine jr_incN_3 C d_X_dropOthersThanBelow_29 rfl ?_
      refine jr_goto (tgt := 2) C d_X_dropOthersThanBelow_32 (by decide) ?_
      refine ih hv2 c2 (fun w hw => ?_) (fun w hw => ?_)
      · by_cases e : w = v
        · rw [e]; exact e1
        · rw [e2 w e]; exact h1 w (by omega)
      · rw [e2 w (by omega)]; exact h2 w (by omega)
    refine jr_iload_3 C d_X_dropOthersThanBelow_2 ?_
    refine jr_bipush (v := nI 100) C d_X_dropOthersThanBelow_3 (by decide) ?_
    refine jr_N_ge (tgt := 35) C d_X_dropOthersThanBelow_5 (by decide) (by omega) (by omega) (fun h => ?_) (fun h => ?_)
    · exact hR _ _ _ d_X_dropOthersThanBelow_35 ⟨c, rfl, fun w hw => h1 w (by omega)⟩
    · refine jr_aload_0 C d_X_dropOthersThanBelow_8 ?_
      refine gX_broaderOf C d_X_dropOthersThanBelow_9 ?_
      refine jr_iload_1 C d_X_dropOthersThanBelow_12 ?_
      refine jr_iload_3 C d_X_dropOthersThanBelow_13 ?_
      refine kX_cell C ⟨Nat.le_of_ble_eq_true rfl, Nat.le_of_ble_eq_true rfl⟩ (Nat.le_of_ble_eq_true rfl) d_X_dropOthersThanBelow_14 ?_
      refine aX_broaderOf C (by omega) d_X_dropOthersThanBelow_17 ?_
      refine jr_iload_2 C d_X_dropOthersThanBelow_18 ?_
      refine jr_icmp_eq (tgt := 29) C d_X_dropOthersThanBelow_19 (by decide) (fun h3 => ?_) (fun h3 => ?_)
      · exact go c h (by rw [if_pos h3]; exact h2 v (Nat.le_refl v)) (fun w _ => rfl)
      · refine jr_aload_0 C d_X_dropOthersThanBelow_22 ?_
        refine gX_counts C d_X_dropOthersThanBelow_23 ?_
        refine jr_iload_3 C d_X_dropOthersThanBelow_26 ?_
        refine jr_iconst (v := nI 0) C d_X_dropOthersThanBelow_27 (by decide) ?_
        refine sX_counts C (by omega) d_X_dropOthersThanBelow_28 ?_
        exact go _ h (by rw [if_neg h3]; exact pk_us) (fun w hw => pk_un hw)
theorem cX_raise (p : Nat → Nat) (ht : tr_w p) (f v : Nat) (s : Int64) (hf : f < 6) (hv : v < 100) (hb : ∀ u, u < 100 → x_bro σ (f * 100 + u) = en_p (p u)) : fx_MV l D cl_s (ty_X k) (w_X q k) y_X_raise (k_X_raise :: tb_l) rm_X_raise [.ref (q 0), .int (nI f), .int (nI v), .long s] σ (fun u => ∃ h, u = xs_hav σ h ∧ ∀ i r, tb_b (h i) r = (tb_b (x_hav σ i) r || (bx_b (∃ c, c < 100 ∧ i = f * 100 + c ∧ ab_o p v c) && tb_b s r))) := by
  refine fx_enterV (by decide +kernel) [some (.ref (q 0)), some (.int (nI f)), some (.int (nI v)), some (.long s), none, none, none] rfl (Nat.le_of_ble_eq_true rfl) (Nat.le_of_ble_eq_true rfl) (fun X C hR => ?_)
  refine jr_iload_2 C d_X_raise_0 ?_
  refine jr_istore_5 C d_X_raise_1 rfl ?_
  refine jr_iconst (v := nI 0) C d_X_raise_3 (by decide) ?_
  refine jr_istore_6 C d_X_raise_4 rfl ?_
  have L := lp_up (P := fun n => ∀ h : Nat → Int64, (∀ i r, tb_b (h i) r = (tb_b (x_hav σ i) r || (bx_b (∃ j, j < n ∧ an_k p j v < 100 ∧ i = f * 100 + an_k p j v) && tb_b s r))) → fx_J X (w_X q k (xs_hav σ h)) 6 [some (.ref (q 0)), some (.int (nI f)), some (.int (nI v)), some (.long s), none, some (.int (en_p (an_k p n v))), some (.int (nI n))] []) 100 (fun n hn ih h hh => ?_)
  · have := L 0 (by omega) (x_hav σ) (fun i r => by
      rw [bx_neg.mpr (fun ⟨j, hj, _⟩ => by omega)]
      simp)
    rw [show an_k p 0 v = v from rfl, en_in hv] at this
    exact this
  · have out : (n = 100 ∨ 100 ≤ an_k p n v) → fx_J X (w_X q k (xs_hav σ h)) 55 [some (.ref (q 0)), some (.int (nI f)), some (.int (nI v)), some (.long s), none, some (.int (en_p (an_k p n v))), some (.int (nI n))] [] := by
      intro hk
      exact hR _ _ _ d_X_raise_55 ⟨h, rfl, fun i r => by
        rw [hh i r, bx_congr (p := ∃ j, j < n ∧ an_k p j v < 100 ∧ i = f * 100 + an_k p j v) (q := ∃ c, c < 100 ∧ i = f * 100 + c ∧ ab_o p v c) ?_]
        constructor
        · rintro ⟨j, h1, h2, h3⟩
          exact ⟨an_k p j v, h2, h3, j, rfl⟩
        · rintro ⟨c, h1, h2, h3⟩
          obtain ⟨j, h4, h5⟩ := (ra_end ht hk h1).mpr h3
          exact ⟨j, h4, by omega, by rw [h5]; exact h2⟩⟩
    refine jr_iload_6 C d_X_raise_6 ?_
    refine jr_bipush (v := nI 100) C d_X_raise_8 (by decide) ?_
    refine jr_N_ge (tgt := 55) C d_X_raise_10 (by decide) (by omega) (by omega) (fun h1 => ?_) (fun h1 => ?_)
    · exact out (Or.inl (by omega))
    · refine jr_iload_5 C d_X_raise_13 ?_
      refine qX_X_isValue C (cX_isValue l D (ty_X k) (w_X q k) (xs_hav σ h) (en_p (an_k p n v))) ⟨Nat.le_of_ble_eq_true rfl, Nat.le_of_ble_eq_true rfl⟩ (Nat.le_of_ble_eq_true rfl) d_X_raise_15 (fx_p (fun z hz => ?_))
      rcases hz with ⟨rfl, hz⟩ | ⟨rfl, hz⟩
      · have hu : an_k p n v < 100 := en_val.mp hz
        refine jr_if_eq (tgt := 55) C d_X_raise_18 (by decide) (fun h2 => ?_) (fun h2 => ?_)
        · exact absurd h2 (by decide)
        · rw [en_in hu]
          refine jr_aload_0 C d_X_raise_21 ?_
          refine gX_havers C d_X_raise_22 ?_
          refine jr_iload_1 C d_X_raise_25 ?_
          refine jr_iload_5 C d_X_raise_26 ?_
          refine kX_cell C ⟨Nat.le_of_ble_eq_true rfl, Nat.le_of_ble_eq_true rfl⟩ (Nat.le_of_ble_eq_true rfl) d_X_raise_28 ?_
          refine jr_dup2_11 C d_X_raise_31 rfl rfl ?_
          refine aX_havers C (by omega) d_X_raise_32 ?_
          refine jr_lload_3 C d_X_raise_33 ?_
          refine jr_lor C d_X_raise_34 ?_
          refine sX_havers C (by omega) d_X_raise_35 ?_
          refine jr_aload_0 C d_X_raise_36 ?_
          refine gX_broaderOf C d_X_raise_37 ?_
          refine jr_iload_1 C d_X_raise_40 ?_
          refine jr_iload_5 C d_X_raise_41 ?_
          refine kX_cell C ⟨Nat.le_of_ble_eq_true rfl, Nat.le_of_ble_eq_true rfl⟩ (Nat.le_of_ble_eq_true rfl) d_X_raise_43 ?_
          refine aX_broaderOf C (by omega) d_X_raise_46 ?_
          refine jr_eqi (hb _ hu) ?_
          rw [← an_s p]
          refine jr_istore_5 C d_X_raise_47 rfl ?_
          refine jr_incN_6 C d_X_raise_49 rfl ?_
          refine jr_goto (tgt := 6) C d_X_raise_52 (by decide) ?_
          refine ih h1 _ (fun i r => ?_)
          by_cases e : i = f * 100 + an_k p n v
          · subst e
            have e2 : bx_b (∃ j, j < n + 1 ∧ an_k p j v < 100 ∧ f * 100 + an_k p n v = f * 100 + an_k p j v) = true := bx_iff.mpr ⟨n, by omega, hu, rfl⟩
            rw [show vp_updL h (f * 100 + an_k p n v) (h (f * 100 + an_k p n v) ||| s) (f * 100 + an_k p n v) = h (f * 100 + an_k p n v) ||| s from pk_uLs, tb_or, hh, e2]
            cases tb_b (x_hav σ (f * 100 + an_k p n v)) r <;> cases tb_b s r <;> simp
          · rw [show vp_updL h (f * 100 + an_k p n v) (h (f * 100 + an_k p n v) ||| s) i = h i from pk_uLn e, hh, bx_congr (p := ∃ j, j < n ∧ an_k p j v < 100 ∧ i = f * 100 + an_k p j v) (q := ∃ j, j < n + 1 ∧ an_k p j v < 100 ∧ i = f * 100 + an_k p j v) ?_]
            constructor
            · rintro ⟨j, g1, g2⟩
              exact ⟨j, by omega, g2⟩
            · rintro ⟨j, g1, g2, g3⟩
              by_cases ej : j = n
              · subst ej
                exact absurd g3 e
              · exact ⟨j, by omega, g2, g3⟩
      · have hu : ¬ an_k p n v < 100 := fun q => hz (en_val.mpr q)
        refine jr_if_eq (tgt := 55) C d_X_raise_18 (by decide) (fun h2 => ?_) (fun h2 => ?_)
        · exact out (Or.inr (by omega))
        · exact absurd nI_0 h2
end MX
