section AX
variable (l : Launch) (D : va_G) (q : Nat → Nat) (k : Nat → ClassId) (σ : sx_T)
theorem cX_raiseAll (p : Nat → Nat) (ht : tr_w p) (f : Nat) (hf : f < 6) (hb : ∀ u, u < 100 → x_bro σ (f * 100 + u) = en_p (p u)) : fx_MV l D cl_s (ty_X k) (w_X q k) y_X_raiseAll (k_X_raiseAll :: tb_l) rm_X_raiseAll [.ref (q 0), .int (nI f)] σ (fun u => ∃ h, u = xs_hav σ h ∧ (∀ c r, c < 100 → tb_b (h (f * 100 + c)) r = bx_b (∃ w, w < 100 ∧ tb_b (x_hold σ (f * 100 + w)) r = true ∧ ab_o p w c)) ∧ ∀ i r, (¬ ∃ c, c < 100 ∧ i = f * 100 + c) → tb_b (h i) r = tb_b (x_hav σ i) r) := by
  refine fx_enterV (by decide +kernel) [some (.ref (q 0)), some (.int (nI f)), none, none, none] rfl (Nat.le_of_ble_eq_true rfl) (Nat.le_of_ble_eq_true rfl) (fun X C hR => ?_)
  refine jr_iconst (v := nI 0) C d_X_raiseAll_0 (by decide) ?_
  refine jr_istore_2 C d_X_raiseAll_1 rfl ?_
  have L2 := lp_up (P := fun v => ∀ (z : List (Option Value)) (h : Nat → Int64), z.length = 2 → (∀ c r, c < 100 → tb_b (h (f * 100 + c)) r = bx_b (∃ w, w < v ∧ tb_b (x_hold σ (f * 100 + w)) r = true ∧ ab_o p w c)) → (∀ i r, (¬ ∃ c, c < 100 ∧ i = f * 100 + c) → tb_b (h i) r = tb_b (x_hav σ i) r) → fx_J X (w_X q k (xs_hav σ h)) 27 (some (.ref (q 0)) :: some (.int (nI f)) :: some (.int (nI v)) :: z) []) 100 (fun v hv ih z h hz h1 h2 => ?_)
  · have L1 := lp_up (P := fun v => ∀ h : Nat → Int64, (∀ c r, c < v → tb_b (h (f * 100 + c)) r = false) → (∀ i r, (¬ ∃ c, c < 100 ∧ i = f * 100 + c) → tb_b (h i) r = tb_b (x_hav σ i) r) → fx_J X (w_X q k (xs_hav σ h)) 2 [some (.ref (q 0)), some (.int (nI f)), some (.int (nI v)), none, none] []) 100 (fun v hv ih h h1 h2 => ?_)
    · exact L1 0 (by omega) (x_hav σ) (fun c r hc => by omega) (fun _ _ _ => rfl)
    · refine jr_iload_2 C d_X_raiseAll_2 ?_
      refine jr_bipush (v := nI 100) C d_X_raiseAll_3 (by decide) ?_
      refine jr_N_ge (tgt := 25) C d_X_raiseAll_5 (by decide) (by omega) (by omega) (fun h3 => ?_) (fun h3 => ?_)
      · refine jr_iconst (v := nI 0) C d_X_raiseAll_25 (by decide) ?_
        refine jr_istore_2 C d_X_raiseAll_26 rfl ?_
        refine L2 0 (by omega) [none, none] h rfl (fun c r hc => ?_) h2
        rw [h1 c r (by omega), bx_neg.mpr (fun ⟨w, hw, _⟩ => by omega)]
      · refine jr_aload_0 C d_X_raiseAll_8 ?_
        refine gX_havers C d_X_raiseAll_9 ?_
        refine jr_iload_1 C d_X_raiseAll_12 ?_
        refine jr_iload_2 C d_X_raiseAll_13 ?_
        refine kX_cell C ⟨Nat.le_of_ble_eq_true rfl, Nat.le_of_ble_eq_true rfl⟩ (Nat.le_of_ble_eq_true rfl) d_X_raiseAll_14 ?_
        refine jr_lconst (v := 0) C d_X_raiseAll_17 (by decide) ?_
        refine sX_havers C (by omega) d_X_raiseAll_18 ?_
        refine jr_incN_2 C d_X_raiseAll_19 rfl ?_
        refine jr_goto (tgt := 2) C d_X_raiseAll_22 (by decide) ?_
        refine ih h3 _ (fun c r hc => ?_) (fun i r hi => ?_)
        · by_cases e : c = v
          · subst e
            rw [show vp_updL h (f * 100 + c) 0 (f * 100 + c) = 0 from pk_uLs, tb_0]
          · rw [show vp_updL h (f * 100 + v) 0 (f * 100 + c) = h (f * 100 + c) from pk_uLn (by omega)]
            exact h1 c r (by omega)
        · rw [show vp_updL h (f * 100 + v) 0 i = h i from pk_uLn (fun e => hi ⟨v, h3, e⟩)]
          exact h2 i r hi
  · obtain ⟨z0, z1, rfl⟩ : ∃ z0 z1, z = [z0, z1] := by
      match z, hz with
      | [z0, z1], _ => exact ⟨z0, z1, rfl⟩
    refine jr_iload_2 C d_X_raiseAll_27 ?_
    refine jr_bipush (v := nI 100) C d_X_raiseAll_28 (by decide) ?_
    refine jr_N_ge (tgt := 63) C d_X_raiseAll_30 (by decide) (by omega) (by omega) (fun h3 => ?_) (fun h3 => ?_)
    · exact hR _ _ _ d_X_raiseAll_63 ⟨h, rfl, fun c r hc => by rw [h1 c r hc, show v = 100 by omega], h2⟩
    · have go : ∀ (h9 : Nat → Int64) (zz : List (Option Value)), zz.length = 2 → (∀ c r, c < 100 → tb_b (h9 (f * 100 + c)) r = bx_b (∃ w, w < v + 1 ∧ tb_b (x_hold σ (f * 100 + w)) r = true ∧ ab_o p w c)) → (∀ i r, (¬ ∃ c, c < 100 ∧ i = f * 100 + c) → tb_b (h9 i) r = tb_b (x_hav σ i) r) → fx_J X (w_X q k (xs_hav σ h9)) 57 (some (.ref (q 0)) :: some (.int (nI f)) :: some (.int (nI v)) :: zz) [] := by
        intro h9 zz hzz g1 g2
        refine jr_incN_2 C d_X_raiseAll_57 rfl ?_
        refine jr_goto (tgt := 27) C d_X_raiseAll_60 (by decide) ?_
        exact ih h3 zz h9 hzz g1 g2
      refine jr_aload_0 C d_X_raiseAll_33 ?_
      refine gX_holders C d_X_raiseAll_34 ?_
      refine jr_iload_1 C d_X_raiseAll_37 ?_
      refine jr_iload_2 C d_X_raiseAll_38 ?_
      refine kX_cell C ⟨Nat.le_of_ble_eq_true rfl, Nat.le_of_ble_eq_true rfl⟩ (Nat.le_of_ble_eq_true rfl) d_X_raiseAll_39 ?_
      refine aX_holders C (by omega) d_X_raiseAll_42 ?_
      refine jr_lstore_3 C d_X_raiseAll_43 rfl ?_
      refine jr_lload_3 C d_X_raiseAll_44 ?_
      refine jr_lconst (v := 0) C d_X_raiseAll_45 (by decide) ?_
      refine jr_lcmp C d_X_raiseAll_46 ?_
      refine jr_if_eq (tgt := 57) C d_X_raiseAll_47 (by decide) (fun h4 => ?_) (fun h4 => ?_)
      · refine go h _ rfl (fun c r hc => ?_) h2
        rw [h1 c r hc]
        refine bx_congr ⟨fun ⟨w, hw, g⟩ => ⟨w, by omega, g⟩, fun ⟨w, hw, g1, g2⟩ => ?_⟩
        by_cases e : w = v
        · subst e
          have h5 : x_hold σ (f * 100 + w) = 0 := (lg_cmp_eq _ _).mp h4
          rw [h5, tb_0] at g1
          exact absurd g1 (by decide)
        · exact ⟨w, by omega, g1, g2⟩
      · refine jr_aload_0 C d_X_raiseAll_50 ?_
        refine jr_iload_1 C d_X_raiseAll_51 ?_
        refine jr_iload_2 C d_X_raiseAll_52 ?_
        refine jr_lload_3 C d_X_raiseAll_53 ?_
        refine qX_X_raise C (cX_raise l D q k (xs_hav σ h) p ht f v (x_hold σ (f * 100 + v)) hf h3 hb) rfl ⟨Nat.le_of_ble_eq_true rfl, Nat.le_of_ble_eq_true rfl⟩ (Nat.le_of_ble_eq_true rfl) d_X_raiseAll_54 (fun u hu => ?_)
        obtain ⟨h9, rfl, g9⟩ := hu
        refine go h9 _ rfl (fun c r hc => ?_) (fun i r hi => ?_)
        · rw [g9, show tb_b (x_hav (xs_hav σ h) (f * 100 + c)) r = tb_b (h (f * 100 + c)) r from rfl, h1 c r hc]
          apply bl_eq
          rw [Bool.or_eq_true, Bool.and_eq_true, bx_iff, bx_iff, bx_iff]
          constructor
          · rintro (⟨w, g1, g2, g3⟩ | ⟨⟨c2, g1, g2, g3⟩, g4⟩)
            · exact ⟨w, by omega, g2, g3⟩
            · have e : c = c2 := by omega
              subst e
              exact ⟨v, by omega, g4, g3⟩
          · rintro ⟨w, g1, g2, g3⟩
            by_cases e : w = v
            · subst e
              exact Or.inr ⟨⟨c, hc, rfl, g3⟩, g2⟩
            · exact Or.inl ⟨w, by omega, g2, g3⟩
        · rw [g9, show tb_b (x_hav (xs_hav σ h) i) r = tb_b (h i) r from rfl, h2 i r hi, bx_neg.mpr (fun ⟨c2, g1, g2, _⟩ => hi ⟨c2, g1, g2⟩)]
          simp
theorem cX_admitted (a : ab_T) (hx : rx_r a σ) (f : Nat) (hf : f < 6) : fx_ML l D cl_s (ty_X k) (w_X q k) y_X_admitted (k_X_admitted :: tb_l) rm_X_admitted [.ref (q 0), .int (nI f)] σ (fun z u => u = σ ∧ ∀ r, r < 64 → tb_b z r = bx_b ((∃ v, v < 100 ∧ a_cho a f v = true) → ∃ v, v < 100 ∧ a_cho a f v = true ∧ a_has a r f v)) := by
  obtain ⟨-, -, -, hhav, -, hcho, -⟩ := hx
  refine fx_enterL (by decide +kernel) [some (.ref (q 0)), some (.int (nI f)), none, none, none, none] rfl (Nat.le_of_ble_eq_true rfl) (Nat.le_of_ble_eq_true rfl) (fun X C hR => ?_)
  refine jr_iconst (v := nI 0) C d_X_admitted_0 (by decide) ?_
  refine jr_istore_2 C d_X_admitted_1 rfl ?_
  refine jr_lconst (v := 0) C d_X_admitted_2 (by decide) ?_
  refine jr_lstore_3 C d_X_admitted_3 rfl ?_
  refine jr_iconst (v := nI 0) C d_X_admitted_4 (by decide) ?_
  refine jr_istore_5 C d_X_admitted_5 rfl ?_
  have L := lp_up (P := fun v => ∀ s : Int64, (∀ r, r < 64 → tb_b s r = bx_b (∃ w, w < v ∧ a_cho a f w = true ∧ a_has a r f w)) → fx_J X (w_X q k σ) 7 [some (.ref (q 0)), some (.int (nI f)), some (.int (b01 (bx_b (∃ w, w < v ∧ a_cho a f w = true)))), some (.long s), none, some (.int (nI v))] []) 100 (fun v hv ih s hs => ?_)
  · have := L 0 (by omega) 0 (fun r _ => by rw [tb_0, bx_neg.mpr (fun ⟨w, hw, _⟩ => by omega)])
    rw [bx_neg.mpr (fun ⟨w, hw, _⟩ => by omega)] at this
    exact this
  · have go : ∀ (b : Int32) (s2 : Int64), v < 100 → b = b01 (bx_b (∃ w, w < v + 1 ∧ a_cho a f w = true)) → (∀ r, r < 64 → tb_b s2 r = bx_b (∃ w, w < v + 1 ∧ a_cho a f w = true ∧ a_has a r f w)) → fx_J X (w_X q k σ) 44 [some (.ref (q 0)), some (.int (nI f)), some (.int b), some (.long s2), none, some (.int (nI v))] [] := by
      intro b s2 hv2 hb hs2
      refine jr_incN_5 C d_X_admitted_44 rfl ?_
      refine jr_goto (tgt := 7) C d_X_admitted_47 (by decide) ?_
      rw [hb]
      exact ih hv2 s2 hs2
    refine jr_iload_5 C d_X_admitted_7 ?_
    refine jr_bipush (v := nI 100) C d_X_admitted_9 (by decide) ?_
    refine jr_N_ge (tgt := 50) C d_X_admitted_11 (by decide) (by omega) (by omega) (fun h => ?_) (fun h => ?_)
    · have ev : v = 100 := by omega
      subst ev
      refine jr_iload_2 C d_X_admitted_50 ?_
      refine jr_if_eq (tgt := 58) C d_X_admitted_51 (by decide) (fun h2 => ?_) (fun h2 => ?_)
      · refine jr_ldc2 C d_X_admitted_58 (List.mem_cons_of_mem _ cl_X_73) ?_
        rw [b01_eq, bx_neg] at h2
        exact hR _ _ _ _ d_X_admitted_61 ⟨rfl, fun r hr => by rw [tb_m1 r hr, bx_iff.mpr (fun g => absurd g h2)]⟩
      · refine jr_lload_3 C d_X_admitted_54 ?_
        refine jr_goto (tgt := 61) C d_X_admitted_55 (by decide) ?_
        rw [b01_ne, bx_iff] at h2
        exact hR _ _ _ _ d_X_admitted_61 ⟨rfl, fun r hr => by rw [hs r hr]; exact bx_congr ⟨fun g _ => g, fun g => g h2⟩⟩
    · refine jr_aload_0 C d_X_admitted_14 ?_
      refine gX_chosen C d_X_admitted_15 ?_
      refine jr_iload_1 C d_X_admitted_18 ?_
      refine jr_iload_5 C d_X_admitted_19 ?_
      refine kX_cell C ⟨Nat.le_of_ble_eq_true rfl, Nat.le_of_ble_eq_true rfl⟩ (Nat.le_of_ble_eq_true rfl) d_X_admitted_21 ?_
      refine aX_chosen C (by omega) d_X_admitted_24 ?_
      refine jr_eqi (hcho f v hf h) ?_
      refine jr_if_eq (tgt := 44) C d_X_admitted_25 (by decide) (fun h2 => ?_) (fun h2 => ?_)
      · rw [b01_eq] at h2
        refine go _ s h ?_ (fun r hr => ?_)
        · congr 1
          refine bx_congr ⟨fun ⟨w, g1, g2⟩ => ⟨w, by omega, g2⟩, fun ⟨w, g1, g2⟩ => ?_⟩
          by_cases e : w = v
          · rw [e, h2] at g2
            exact absurd g2 (by decide)
          · exact ⟨w, by omega, g2⟩
        · rw [hs r hr]
          refine bx_congr ⟨fun ⟨w, g1, g2⟩ => ⟨w, by omega, g2⟩, fun ⟨w, g1, g2, g3⟩ => ?_⟩
          by_cases e : w = v
          · rw [e, h2] at g2
            exact absurd g2 (by decide)
          · exact ⟨w, by omega, g2, g3⟩
      · rw [b01_ne] at h2
        refine jr_iconst (v := nI 1) C d_X_admitted_28 (by decide) ?_
        refine jr_istore_2 C d_X_admitted_29 rfl ?_
        refine jr_lload_3 C d_X_admitted_30 ?_
        refine jr_aload_0 C d_X_admitted_31 ?_
        refine gX_havers C d_X_admitted_32 ?_
        refine jr_iload_1 C d_X_admitted_35 ?_
        refine jr_iload_5 C d_X_admitted_36 ?_
        refine kX_cell C ⟨Nat.le_of_ble_eq_true rfl, Nat.le_of_ble_eq_true rfl⟩ (Nat.le_of_ble_eq_true rfl) d_X_admitted_38 ?_
        refine aX_havers C (by omega) d_X_admitted_41 ?_
        refine jr_lor C d_X_admitted_42 ?_
        refine jr_lstore_3 C d_X_admitted_43 rfl ?_
        refine go _ _ h ?_ (fun r hr => ?_)
        · rw [bx_iff.mpr ⟨v, by omega, h2⟩]
          rfl
        · rw [tb_or, hs r hr, hhav f v r hf h hr]
          apply bl_eq
          rw [Bool.or_eq_true, bx_iff, bx_iff, bx_iff]
          constructor
          · rintro (⟨w, g1, g2, g3⟩ | g)
            · exact ⟨w, by omega, g2, g3⟩
            · exact ⟨v, by omega, h2, g⟩
          · rintro ⟨w, g1, g2, g3⟩
            by_cases e : w = v
            · subst e
              exact Or.inr g3
            · exact Or.inl ⟨w, by omega, g2, g3⟩
theorem cX_hitsLeft (a : ab_T) (hx : rx_r a σ) : fx_ML l D cl_s (ty_X k) (w_X q k) y_X_hitsLeft (k_X_hitsLeft :: tb_l) rm_X_hitsLeft [.ref (q 0)] σ (fun z u => u = σ ∧ ∀ r, r < 64 → tb_b z r = bx_b (a_left a r)) := by
  have hhit := hx.2.2.2.2.2.2
  refine fx_enterL (by decide +kernel) [some (.ref (q 0)), none, none, none] rfl (Nat.le_of_ble_eq_true rfl) (Nat.le_of_ble_eq_true rfl) (fun X C hR => ?_)
  refine jr_aload_0 C d_X_hitsLeft_0 ?_
  refine gX_hits C d_X_hitsLeft_1 ?_
  refine jr_lstore_1 C d_X_hitsLeft_4 rfl ?_
  refine jr_iconst (v := nI 0) C d_X_hitsLeft_5 (by decide) ?_
  refine jr_istore_3 C d_X_hitsLeft_6 rfl ?_
  have L := lp_up (P := fun f => ∀ s : Int64, (∀ r, r < 64 → tb_b s r = bx_b (a_hit a r = true ∧ ∀ g, g < f → (∃ v, v < 100 ∧ a_cho a g v = true) → ∃ v, v < 100 ∧ a_cho a g v = true ∧ a_has a r g v)) → fx_J X (w_X q k σ) 7 [some (.ref (q 0)), some (.long s), none, some (.int (nI f))] []) 6 (fun f hf ih s hs => ?_)
  · refine L 0 (by omega) (x_hits σ) (fun r hr => ?_)
    rw [hhit r hr]
    exact (bx_eq ⟨fun g => g.1, fun g => ⟨g, fun g hg => by omega⟩⟩).symm
  · refine jr_iload_3 C d_X_hitsLeft_7 ?_
    refine jr_bipush (v := nI 6) C d_X_hitsLeft_8 (by decide) ?_
    refine jr_N_ge (tgt := 27) C d_X_hitsLeft_10 (by decide) (by omega) (by omega) (fun h => ?_) (fun h => ?_)
    · refine jr_lload_1 C d_X_hitsLeft_27 ?_
      exact hR _ _ _ _ d_X_hitsLeft_28 ⟨rfl, fun r hr => by rw [hs r hr, show f = 6 by omega]; rfl⟩
    · refine jr_lload_1 C d_X_hitsLeft_13 ?_
      refine jr_aload_0 C d_X_hitsLeft_14 ?_
      refine jr_iload_3 C d_X_hitsLeft_15 ?_
      refine qX_X_admitted C (cX_admitted l D q k σ a hx f h) rfl ⟨Nat.le_of_ble_eq_true rfl, Nat.le_of_ble_eq_true rfl⟩ (Nat.le_of_ble_eq_true rfl) d_X_hitsLeft_16 (fx_p (fun z hz => ?_))
      refine jr_land C d_X_hitsLeft_19 ?_
      refine jr_lstore_1 C d_X_hitsLeft_20 rfl ?_
      refine jr_incN_3 C d_X_hitsLeft_21 rfl ?_
      refine jr_goto (tgt := 7) C d_X_hitsLeft_24 (by decide) ?_
      refine ih h _ (fun r hr => ?_)
      rw [tb_and, hs r hr, hz r hr]
      apply bl_eq
      rw [Bool.and_eq_true, bx_iff, bx_iff, bx_iff]
      constructor
      · rintro ⟨⟨g1, g2⟩, g3⟩
        refine ⟨g1, fun g hg => ?_⟩
        by_cases e : g = f
        · rw [e]; exact g3
        · exact g2 g (by omega)
      · rintro ⟨g1, g2⟩
        exact ⟨⟨g1, fun g hg => g2 g (by omega)⟩, g2 f (by omega)⟩
end AX
